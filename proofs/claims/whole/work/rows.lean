section
-- ===== PART A: goes FIRST, ahead of the names: the tables' words, and 'selects' of the private methods out of them =====
/-- a private method of a class that the tables say can be made, by its rows of tables_1 -/
def lw_okq (q : MethodName × Nat) : Prop := (q.1.cls ≠ "java/lang/invoke/MethodHandle" ∧ q.1.cls ≠ "java/lang/invoke/VarHandle") ∧ Cond.instantiable q.1.cls q.2 ∈ tables_1 ∧ Cond.privateMethod q.1 ∈ tables_1 ∧ Cond.instanceMethod q.1 ∈ tables_1
theorem lw_p0 : lw_okq (⟨"PieceSurfaces$Skeleton", "joinFaces", "(LPieceSurfaces$World;I)V"⟩, 9) := ⟨⟨by decide +kernel, by decide +kernel⟩, List.mem_of_getElem? (i := 83) (by decide +kernel), List.mem_of_getElem? (i := 315) (by decide +kernel), List.mem_of_getElem? (i := 316) (by decide +kernel)⟩
theorem lw_p1 : lw_okq (⟨"PieceSurfaces$Skeleton", "joinArrows", "(II)V"⟩, 9) := ⟨⟨by decide +kernel, by decide +kernel⟩, List.mem_of_getElem? (i := 83) (by decide +kernel), List.mem_of_getElem? (i := 333) (by decide +kernel), List.mem_of_getElem? (i := 334) (by decide +kernel)⟩
theorem lw_p2 : lw_okq (⟨"PieceSurfaces$Skeleton", "measureLines", "(I)V"⟩, 9) := ⟨⟨by decide +kernel, by decide +kernel⟩, List.mem_of_getElem? (i := 83) (by decide +kernel), List.mem_of_getElem? (i := 346) (by decide +kernel), List.mem_of_getElem? (i := 347) (by decide +kernel)⟩
theorem lw_p3 : lw_okq (⟨"PieceSurfaces$Survey", "isGood", "(I)Z"⟩, 12) := ⟨⟨by decide +kernel, by decide +kernel⟩, List.mem_of_getElem? (i := 26) (by decide +kernel), List.mem_of_getElem? (i := 368) (by decide +kernel), List.mem_of_getElem? (i := 369) (by decide +kernel)⟩
theorem lw_p4 : lw_okq (⟨"PieceSurfaces$Survey", "trace", "(LPieceSurfaces$Sheet;)V"⟩, 12) := ⟨⟨by decide +kernel, by decide +kernel⟩, List.mem_of_getElem? (i := 26) (by decide +kernel), List.mem_of_getElem? (i := 381) (by decide +kernel), List.mem_of_getElem? (i := 382) (by decide +kernel)⟩
theorem lw_p5 : lw_okq (⟨"PieceSurfaces$Survey", "joinPieces", "(LPieceSurfaces$Sheet;I)V"⟩, 12) := ⟨⟨by decide +kernel, by decide +kernel⟩, List.mem_of_getElem? (i := 26) (by decide +kernel), List.mem_of_getElem? (i := 388) (by decide +kernel), List.mem_of_getElem? (i := 389) (by decide +kernel)⟩
theorem lw_p6 : lw_okq (⟨"PieceSurfaces$Survey", "sideAt", "(LPieceSurfaces$Sheet;III)I"⟩, 12) := ⟨⟨by decide +kernel, by decide +kernel⟩, List.mem_of_getElem? (i := 26) (by decide +kernel), List.mem_of_getElem? (i := 400) (by decide +kernel), List.mem_of_getElem? (i := 401) (by decide +kernel)⟩
theorem lw_p7 : lw_okq (⟨"PieceSurfaces$Book", "isTrue", "(ILPieceSurfaces$World;LPieceSurfaces$Survey;)Z"⟩, 3) := ⟨⟨by decide +kernel, by decide +kernel⟩, List.mem_of_getElem? (i := 215) (by decide +kernel), List.mem_of_getElem? (i := 442) (by decide +kernel), List.mem_of_getElem? (i := 443) (by decide +kernel)⟩
theorem lw_p8 : lw_okq (⟨"PieceSurfaces$Matching", "enter", "(IIIILPieceSurfaces$Sheet;)V"⟩, 2) := ⟨⟨by decide +kernel, by decide +kernel⟩, List.mem_of_getElem? (i := 139) (by decide +kernel), List.mem_of_getElem? (i := 465) (by decide +kernel), List.mem_of_getElem? (i := 466) (by decide +kernel)⟩
theorem lw_p9 : lw_okq (⟨"PieceSurfaces", "hasFace", "(II)Z"⟩, 7) := ⟨⟨by decide +kernel, by decide +kernel⟩, List.mem_of_getElem? (i := 18) (by decide +kernel), List.mem_of_getElem? (i := 479) (by decide +kernel), List.mem_of_getElem? (i := 480) (by decide +kernel)⟩
theorem lw_p10 : lw_okq (⟨"PieceSurfaces", "hasBody", "(I)Z"⟩, 7) := ⟨⟨by decide +kernel, by decide +kernel⟩, List.mem_of_getElem? (i := 18) (by decide +kernel), List.mem_of_getElem? (i := 483) (by decide +kernel), List.mem_of_getElem? (i := 484) (by decide +kernel)⟩
theorem lw_p11 : lw_okq (⟨"PieceSurfaces", "hasEdge", "(II)Z"⟩, 7) := ⟨⟨by decide +kernel, by decide +kernel⟩, List.mem_of_getElem? (i := 18) (by decide +kernel), List.mem_of_getElem? (i := 497) (by decide +kernel), List.mem_of_getElem? (i := 498) (by decide +kernel)⟩
theorem lw_p12 : lw_okq (⟨"PieceSurfaces", "hasSurface", "(I)Z"⟩, 7) := ⟨⟨by decide +kernel, by decide +kernel⟩, List.mem_of_getElem? (i := 18) (by decide +kernel), List.mem_of_getElem? (i := 506) (by decide +kernel), List.mem_of_getElem? (i := 507) (by decide +kernel)⟩
theorem lw_p13 : lw_okq (⟨"PieceSurfaces$Survey", "type", "(LPieceSurfaces$Sheet;)I"⟩, 12) := ⟨⟨by decide +kernel, by decide +kernel⟩, List.mem_of_getElem? (i := 26) (by decide +kernel), List.mem_of_getElem? (i := 525) (by decide +kernel), List.mem_of_getElem? (i := 526) (by decide +kernel)⟩
theorem lw_p14 : lw_okq (⟨"PieceSurfaces$Survey", "splits", "(LPieceSurfaces$Sheet;)I"⟩, 12) := ⟨⟨by decide +kernel, by decide +kernel⟩, List.mem_of_getElem? (i := 26) (by decide +kernel), List.mem_of_getElem? (i := 529) (by decide +kernel), List.mem_of_getElem? (i := 530) (by decide +kernel)⟩
theorem lw_p15 : lw_okq (⟨"PieceSurfaces$Survey", "listUsed", "(LPieceSurfaces$Sheet;)V"⟩, 12) := ⟨⟨by decide +kernel, by decide +kernel⟩, List.mem_of_getElem? (i := 26) (by decide +kernel), List.mem_of_getElem? (i := 536) (by decide +kernel), List.mem_of_getElem? (i := 537) (by decide +kernel)⟩
def lw_privs_1 : List (MethodName × Nat) := [(⟨"PieceSurfaces$Skeleton", "joinFaces", "(LPieceSurfaces$World;I)V"⟩, 9), (⟨"PieceSurfaces$Skeleton", "joinArrows", "(II)V"⟩, 9), (⟨"PieceSurfaces$Skeleton", "measureLines", "(I)V"⟩, 9), (⟨"PieceSurfaces$Survey", "isGood", "(I)Z"⟩, 12), (⟨"PieceSurfaces$Survey", "trace", "(LPieceSurfaces$Sheet;)V"⟩, 12), (⟨"PieceSurfaces$Survey", "joinPieces", "(LPieceSurfaces$Sheet;I)V"⟩, 12), (⟨"PieceSurfaces$Survey", "sideAt", "(LPieceSurfaces$Sheet;III)I"⟩, 12), (⟨"PieceSurfaces$Book", "isTrue", "(ILPieceSurfaces$World;LPieceSurfaces$Survey;)Z"⟩, 3), (⟨"PieceSurfaces$Matching", "enter", "(IIIILPieceSurfaces$Sheet;)V"⟩, 2), (⟨"PieceSurfaces", "hasFace", "(II)Z"⟩, 7), (⟨"PieceSurfaces", "hasBody", "(I)Z"⟩, 7), (⟨"PieceSurfaces", "hasEdge", "(II)Z"⟩, 7), (⟨"PieceSurfaces", "hasSurface", "(I)Z"⟩, 7), (⟨"PieceSurfaces$Survey", "type", "(LPieceSurfaces$Sheet;)I"⟩, 12), (⟨"PieceSurfaces$Survey", "splits", "(LPieceSurfaces$Sheet;)I"⟩, 12), (⟨"PieceSurfaces$Survey", "listUsed", "(LPieceSurfaces$Sheet;)V"⟩, 12)]
theorem lw_r1 : ∀ q ∈ lw_privs_1, lw_okq q := List.forall_mem_cons.mpr ⟨lw_p0, List.forall_mem_cons.mpr ⟨lw_p1, List.forall_mem_cons.mpr ⟨lw_p2, List.forall_mem_cons.mpr ⟨lw_p3, List.forall_mem_cons.mpr ⟨lw_p4, List.forall_mem_cons.mpr ⟨lw_p5, List.forall_mem_cons.mpr ⟨lw_p6, List.forall_mem_cons.mpr ⟨lw_p7, List.forall_mem_cons.mpr ⟨lw_p8, List.forall_mem_cons.mpr ⟨lw_p9, List.forall_mem_cons.mpr ⟨lw_p10, List.forall_mem_cons.mpr ⟨lw_p11, List.forall_mem_cons.mpr ⟨lw_p12, List.forall_mem_cons.mpr ⟨lw_p13, List.forall_mem_cons.mpr ⟨lw_p14, List.forall_mem_cons.mpr ⟨lw_p15, fun _ h => absurd h List.not_mem_nil⟩⟩⟩⟩⟩⟩⟩⟩⟩⟩⟩⟩⟩⟩⟩⟩
theorem lw_p16 : lw_okq (⟨"PieceSurfaces$Survey", "nextPart", "(LPieceSurfaces$Sheet;)V"⟩, 12) := ⟨⟨by decide +kernel, by decide +kernel⟩, List.mem_of_getElem? (i := 26) (by decide +kernel), List.mem_of_getElem? (i := 540) (by decide +kernel), List.mem_of_getElem? (i := 541) (by decide +kernel)⟩
theorem lw_p17 : lw_okq (⟨"PieceSurfaces", "driftOnce", "()V"⟩, 7) := ⟨⟨by decide +kernel, by decide +kernel⟩, List.mem_of_getElem? (i := 18) (by decide +kernel), List.mem_of_getElem? (i := 652) (by decide +kernel), List.mem_of_getElem? (i := 653) (by decide +kernel)⟩
theorem lw_p18 : lw_okq (⟨"PieceSurfaces", "hasImage", "(I)Z"⟩, 7) := ⟨⟨by decide +kernel, by decide +kernel⟩, List.mem_of_getElem? (i := 18) (by decide +kernel), List.mem_of_getElem? (i := 699) (by decide +kernel), List.mem_of_getElem? (i := 700) (by decide +kernel)⟩
theorem lw_p19 : lw_okq (⟨"PieceSurfacesModel", "unglueAll", "()V"⟩, 13) := ⟨⟨by decide +kernel, by decide +kernel⟩, List.mem_of_getElem? (i := 716) (by decide +kernel), List.mem_of_getElem? (i := 722) (by decide +kernel), List.mem_of_getElem? (i := 723) (by decide +kernel)⟩
theorem lw_p20 : lw_okq (⟨"PieceSurfacesModel", "freeMany", "()I"⟩, 13) := ⟨⟨by decide +kernel, by decide +kernel⟩, List.mem_of_getElem? (i := 716) (by decide +kernel), List.mem_of_getElem? (i := 770) (by decide +kernel), List.mem_of_getElem? (i := 771) (by decide +kernel)⟩
theorem lw_p21 : lw_okq (⟨"PieceSurfacesModel", "walls", "()I"⟩, 13) := ⟨⟨by decide +kernel, by decide +kernel⟩, List.mem_of_getElem? (i := 716) (by decide +kernel), List.mem_of_getElem? (i := 774) (by decide +kernel), List.mem_of_getElem? (i := 775) (by decide +kernel)⟩
theorem lw_p22 : lw_okq (⟨"PieceSurfacesModel", "isFree", "(I)Z"⟩, 13) := ⟨⟨by decide +kernel, by decide +kernel⟩, List.mem_of_getElem? (i := 716) (by decide +kernel), List.mem_of_getElem? (i := 778) (by decide +kernel), List.mem_of_getElem? (i := 779) (by decide +kernel)⟩
theorem lw_p23 : lw_okq (⟨"PieceSurfacesModel", "points", "()I"⟩, 13) := ⟨⟨by decide +kernel, by decide +kernel⟩, List.mem_of_getElem? (i := 716) (by decide +kernel), List.mem_of_getElem? (i := 782) (by decide +kernel), List.mem_of_getElem? (i := 783) (by decide +kernel)⟩
theorem lw_p24 : lw_okq (⟨"PieceSurfacesModel", "layRoom", "()V"⟩, 13) := ⟨⟨by decide +kernel, by decide +kernel⟩, List.mem_of_getElem? (i := 716) (by decide +kernel), List.mem_of_getElem? (i := 786) (by decide +kernel), List.mem_of_getElem? (i := 787) (by decide +kernel)⟩
theorem lw_p25 : lw_okq (⟨"PieceSurfacesModel", "glueCorners", "(I)V"⟩, 13) := ⟨⟨by decide +kernel, by decide +kernel⟩, List.mem_of_getElem? (i := 716) (by decide +kernel), List.mem_of_getElem? (i := 790) (by decide +kernel), List.mem_of_getElem? (i := 791) (by decide +kernel)⟩
theorem lw_p26 : lw_okq (⟨"PieceSurfacesModel", "goesTo", "(II)I"⟩, 13) := ⟨⟨by decide +kernel, by decide +kernel⟩, List.mem_of_getElem? (i := 716) (by decide +kernel), List.mem_of_getElem? (i := 794) (by decide +kernel), List.mem_of_getElem? (i := 795) (by decide +kernel)⟩
theorem lw_p27 : lw_okq (⟨"PieceSurfacesModel", "lines", "()I"⟩, 13) := ⟨⟨by decide +kernel, by decide +kernel⟩, List.mem_of_getElem? (i := 716) (by decide +kernel), List.mem_of_getElem? (i := 810) (by decide +kernel), List.mem_of_getElem? (i := 811) (by decide +kernel)⟩
theorem lw_p28 : lw_okq (⟨"PieceSurfacesModel", "bents", "()I"⟩, 13) := ⟨⟨by decide +kernel, by decide +kernel⟩, List.mem_of_getElem? (i := 716) (by decide +kernel), List.mem_of_getElem? (i := 814) (by decide +kernel), List.mem_of_getElem? (i := 815) (by decide +kernel)⟩
theorem lw_p29 : lw_okq (⟨"PieceSurfacesModel", "bentMany", "()I"⟩, 13) := ⟨⟨by decide +kernel, by decide +kernel⟩, List.mem_of_getElem? (i := 716) (by decide +kernel), List.mem_of_getElem? (i := 818) (by decide +kernel), List.mem_of_getElem? (i := 819) (by decide +kernel)⟩
theorem lw_p30 : lw_okq (⟨"PieceSurfacesModel", "isBent", "(I)Z"⟩, 13) := ⟨⟨by decide +kernel, by decide +kernel⟩, List.mem_of_getElem? (i := 716) (by decide +kernel), List.mem_of_getElem? (i := 822) (by decide +kernel), List.mem_of_getElem? (i := 823) (by decide +kernel)⟩
theorem lw_p31 : lw_okq (⟨"PieceSurfacesModel", "goodMany", "()I"⟩, 13) := ⟨⟨by decide +kernel, by decide +kernel⟩, List.mem_of_getElem? (i := 716) (by decide +kernel), List.mem_of_getElem? (i := 826) (by decide +kernel), List.mem_of_getElem? (i := 827) (by decide +kernel)⟩
def lw_privs_2 : List (MethodName × Nat) := [(⟨"PieceSurfaces$Survey", "nextPart", "(LPieceSurfaces$Sheet;)V"⟩, 12), (⟨"PieceSurfaces", "driftOnce", "()V"⟩, 7), (⟨"PieceSurfaces", "hasImage", "(I)Z"⟩, 7), (⟨"PieceSurfacesModel", "unglueAll", "()V"⟩, 13), (⟨"PieceSurfacesModel", "freeMany", "()I"⟩, 13), (⟨"PieceSurfacesModel", "walls", "()I"⟩, 13), (⟨"PieceSurfacesModel", "isFree", "(I)Z"⟩, 13), (⟨"PieceSurfacesModel", "points", "()I"⟩, 13), (⟨"PieceSurfacesModel", "layRoom", "()V"⟩, 13), (⟨"PieceSurfacesModel", "glueCorners", "(I)V"⟩, 13), (⟨"PieceSurfacesModel", "goesTo", "(II)I"⟩, 13), (⟨"PieceSurfacesModel", "lines", "()I"⟩, 13), (⟨"PieceSurfacesModel", "bents", "()I"⟩, 13), (⟨"PieceSurfacesModel", "bentMany", "()I"⟩, 13), (⟨"PieceSurfacesModel", "isBent", "(I)Z"⟩, 13), (⟨"PieceSurfacesModel", "goodMany", "()I"⟩, 13)]
theorem lw_r2 : ∀ q ∈ lw_privs_2, lw_okq q := List.forall_mem_cons.mpr ⟨lw_p16, List.forall_mem_cons.mpr ⟨lw_p17, List.forall_mem_cons.mpr ⟨lw_p18, List.forall_mem_cons.mpr ⟨lw_p19, List.forall_mem_cons.mpr ⟨lw_p20, List.forall_mem_cons.mpr ⟨lw_p21, List.forall_mem_cons.mpr ⟨lw_p22, List.forall_mem_cons.mpr ⟨lw_p23, List.forall_mem_cons.mpr ⟨lw_p24, List.forall_mem_cons.mpr ⟨lw_p25, List.forall_mem_cons.mpr ⟨lw_p26, List.forall_mem_cons.mpr ⟨lw_p27, List.forall_mem_cons.mpr ⟨lw_p28, List.forall_mem_cons.mpr ⟨lw_p29, List.forall_mem_cons.mpr ⟨lw_p30, List.forall_mem_cons.mpr ⟨lw_p31, fun _ h => absurd h List.not_mem_nil⟩⟩⟩⟩⟩⟩⟩⟩⟩⟩⟩⟩⟩⟩⟩⟩
theorem lw_p32 : lw_okq (⟨"PieceSurfacesModel", "isGood", "(I)Z"⟩, 13) := ⟨⟨by decide +kernel, by decide +kernel⟩, List.mem_of_getElem? (i := 716) (by decide +kernel), List.mem_of_getElem? (i := 830) (by decide +kernel), List.mem_of_getElem? (i := 831) (by decide +kernel)⟩
theorem lw_p33 : lw_okq (⟨"PieceSurfacesModel", "layAbout", "(II)V"⟩, 13) := ⟨⟨by decide +kernel, by decide +kernel⟩, List.mem_of_getElem? (i := 716) (by decide +kernel), List.mem_of_getElem? (i := 834) (by decide +kernel), List.mem_of_getElem? (i := 835) (by decide +kernel)⟩
theorem lw_p34 : lw_okq (⟨"PieceSurfacesModel", "parts", "(IZ)I"⟩, 13) := ⟨⟨by decide +kernel, by decide +kernel⟩, List.mem_of_getElem? (i := 716) (by decide +kernel), List.mem_of_getElem? (i := 838) (by decide +kernel), List.mem_of_getElem? (i := 839) (by decide +kernel)⟩
theorem lw_p35 : lw_okq (⟨"PieceSurfacesModel", "join", "(I)V"⟩, 13) := ⟨⟨by decide +kernel, by decide +kernel⟩, List.mem_of_getElem? (i := 716) (by decide +kernel), List.mem_of_getElem? (i := 842) (by decide +kernel), List.mem_of_getElem? (i := 843) (by decide +kernel)⟩
theorem lw_p36 : lw_okq (⟨"PieceSurfacesModel", "joinArcs", "(III)V"⟩, 13) := ⟨⟨by decide +kernel, by decide +kernel⟩, List.mem_of_getElem? (i := 716) (by decide +kernel), List.mem_of_getElem? (i := 846) (by decide +kernel), List.mem_of_getElem? (i := 847) (by decide +kernel)⟩
theorem lw_p37 : lw_okq (⟨"PieceSurfacesModel", "arcsOf", "(III)I"⟩, 13) := ⟨⟨by decide +kernel, by decide +kernel⟩, List.mem_of_getElem? (i := 716) (by decide +kernel), List.mem_of_getElem? (i := 850) (by decide +kernel), List.mem_of_getElem? (i := 851) (by decide +kernel)⟩
theorem lw_p38 : lw_okq (⟨"PieceSurfacesModel", "pieceAt", "(IIII)I"⟩, 13) := ⟨⟨by decide +kernel, by decide +kernel⟩, List.mem_of_getElem? (i := 716) (by decide +kernel), List.mem_of_getElem? (i := 857) (by decide +kernel), List.mem_of_getElem? (i := 858) (by decide +kernel)⟩
theorem lw_p39 : lw_okq (⟨"PieceSurfacesModel", "isThere", "(II)Z"⟩, 13) := ⟨⟨by decide +kernel, by decide +kernel⟩, List.mem_of_getElem? (i := 716) (by decide +kernel), List.mem_of_getElem? (i := 867) (by decide +kernel), List.mem_of_getElem? (i := 868) (by decide +kernel)⟩
theorem lw_p40 : lw_okq (⟨"PieceSurfacesModel", "isTwoSided", "(II)Z"⟩, 13) := ⟨⟨by decide +kernel, by decide +kernel⟩, List.mem_of_getElem? (i := 716) (by decide +kernel), List.mem_of_getElem? (i := 871) (by decide +kernel), List.mem_of_getElem? (i := 872) (by decide +kernel)⟩
theorem lw_p41 : lw_okq (⟨"PieceSurfacesModel", "euler", "(I)I"⟩, 13) := ⟨⟨by decide +kernel, by decide +kernel⟩, List.mem_of_getElem? (i := 716) (by decide +kernel), List.mem_of_getElem? (i := 875) (by decide +kernel), List.mem_of_getElem? (i := 876) (by decide +kernel)⟩
theorem lw_p42 : lw_okq (⟨"PieceSurfacesModel", "allPieces", "(I)I"⟩, 13) := ⟨⟨by decide +kernel, by decide +kernel⟩, List.mem_of_getElem? (i := 716) (by decide +kernel), List.mem_of_getElem? (i := 879) (by decide +kernel), List.mem_of_getElem? (i := 880) (by decide +kernel)⟩
theorem lw_p43 : lw_okq (⟨"PieceSurfacesModel", "weightOf", "(III)I"⟩, 13) := ⟨⟨by decide +kernel, by decide +kernel⟩, List.mem_of_getElem? (i := 716) (by decide +kernel), List.mem_of_getElem? (i := 883) (by decide +kernel), List.mem_of_getElem? (i := 884) (by decide +kernel)⟩
theorem lw_p44 : lw_okq (⟨"PieceSurfacesModel", "arcsOfWall", "(II)I"⟩, 13) := ⟨⟨by decide +kernel, by decide +kernel⟩, List.mem_of_getElem? (i := 716) (by decide +kernel), List.mem_of_getElem? (i := 893) (by decide +kernel), List.mem_of_getElem? (i := 894) (by decide +kernel)⟩
theorem lw_p45 : lw_okq (⟨"PieceSurfacesModel", "border", "(I)I"⟩, 13) := ⟨⟨by decide +kernel, by decide +kernel⟩, List.mem_of_getElem? (i := 716) (by decide +kernel), List.mem_of_getElem? (i := 897) (by decide +kernel), List.mem_of_getElem? (i := 898) (by decide +kernel)⟩
theorem lw_p46 : lw_okq (⟨"PieceSurfacesModel", "characteristic", "()I"⟩, 13) := ⟨⟨by decide +kernel, by decide +kernel⟩, List.mem_of_getElem? (i := 716) (by decide +kernel), List.mem_of_getElem? (i := 901) (by decide +kernel), List.mem_of_getElem? (i := 902) (by decide +kernel)⟩
theorem lw_p47 : lw_okq (⟨"PieceSurfacesModel", "wrongEntry", "()I"⟩, 13) := ⟨⟨by decide +kernel, by decide +kernel⟩, List.mem_of_getElem? (i := 716) (by decide +kernel), List.mem_of_getElem? (i := 905) (by decide +kernel), List.mem_of_getElem? (i := 906) (by decide +kernel)⟩
def lw_privs_3 : List (MethodName × Nat) := [(⟨"PieceSurfacesModel", "isGood", "(I)Z"⟩, 13), (⟨"PieceSurfacesModel", "layAbout", "(II)V"⟩, 13), (⟨"PieceSurfacesModel", "parts", "(IZ)I"⟩, 13), (⟨"PieceSurfacesModel", "join", "(I)V"⟩, 13), (⟨"PieceSurfacesModel", "joinArcs", "(III)V"⟩, 13), (⟨"PieceSurfacesModel", "arcsOf", "(III)I"⟩, 13), (⟨"PieceSurfacesModel", "pieceAt", "(IIII)I"⟩, 13), (⟨"PieceSurfacesModel", "isThere", "(II)Z"⟩, 13), (⟨"PieceSurfacesModel", "isTwoSided", "(II)Z"⟩, 13), (⟨"PieceSurfacesModel", "euler", "(I)I"⟩, 13), (⟨"PieceSurfacesModel", "allPieces", "(I)I"⟩, 13), (⟨"PieceSurfacesModel", "weightOf", "(III)I"⟩, 13), (⟨"PieceSurfacesModel", "arcsOfWall", "(II)I"⟩, 13), (⟨"PieceSurfacesModel", "border", "(I)I"⟩, 13), (⟨"PieceSurfacesModel", "characteristic", "()I"⟩, 13), (⟨"PieceSurfacesModel", "wrongEntry", "()I"⟩, 13)]
theorem lw_r3 : ∀ q ∈ lw_privs_3, lw_okq q := List.forall_mem_cons.mpr ⟨lw_p32, List.forall_mem_cons.mpr ⟨lw_p33, List.forall_mem_cons.mpr ⟨lw_p34, List.forall_mem_cons.mpr ⟨lw_p35, List.forall_mem_cons.mpr ⟨lw_p36, List.forall_mem_cons.mpr ⟨lw_p37, List.forall_mem_cons.mpr ⟨lw_p38, List.forall_mem_cons.mpr ⟨lw_p39, List.forall_mem_cons.mpr ⟨lw_p40, List.forall_mem_cons.mpr ⟨lw_p41, List.forall_mem_cons.mpr ⟨lw_p42, List.forall_mem_cons.mpr ⟨lw_p43, List.forall_mem_cons.mpr ⟨lw_p44, List.forall_mem_cons.mpr ⟨lw_p45, List.forall_mem_cons.mpr ⟨lw_p46, List.forall_mem_cons.mpr ⟨lw_p47, fun _ h => absurd h List.not_mem_nil⟩⟩⟩⟩⟩⟩⟩⟩⟩⟩⟩⟩⟩⟩⟩⟩
theorem lw_p48 : lw_okq (⟨"PieceSurfacesModel", "isSurface", "(I)Z"⟩, 13) := ⟨⟨by decide +kernel, by decide +kernel⟩, List.mem_of_getElem? (i := 716) (by decide +kernel), List.mem_of_getElem? (i := 912) (by decide +kernel), List.mem_of_getElem? (i := 913) (by decide +kernel)⟩
theorem lw_p49 : lw_okq (⟨"PieceSurfacesModel", "isWell", "(I)Z"⟩, 13) := ⟨⟨by decide +kernel, by decide +kernel⟩, List.mem_of_getElem? (i := 716) (by decide +kernel), List.mem_of_getElem? (i := 919) (by decide +kernel), List.mem_of_getElem? (i := 920) (by decide +kernel)⟩
theorem lw_p50 : lw_okq (⟨"PieceSurfacesModel", "meets", "(I)Z"⟩, 13) := ⟨⟨by decide +kernel, by decide +kernel⟩, List.mem_of_getElem? (i := 716) (by decide +kernel), List.mem_of_getElem? (i := 923) (by decide +kernel), List.mem_of_getElem? (i := 924) (by decide +kernel)⟩
theorem lw_p51 : lw_okq (⟨"PieceSurfacesModel", "crosses", "(I)Z"⟩, 13) := ⟨⟨by decide +kernel, by decide +kernel⟩, List.mem_of_getElem? (i := 716) (by decide +kernel), List.mem_of_getElem? (i := 927) (by decide +kernel), List.mem_of_getElem? (i := 928) (by decide +kernel)⟩
theorem lw_p52 : lw_okq (⟨"PieceSurfacesModel", "isBody", "(I)Z"⟩, 13) := ⟨⟨by decide +kernel, by decide +kernel⟩, List.mem_of_getElem? (i := 716) (by decide +kernel), List.mem_of_getElem? (i := 936) (by decide +kernel), List.mem_of_getElem? (i := 937) (by decide +kernel)⟩
theorem lw_p53 : lw_okq (⟨"PieceSurfacesModel", "aroundOf", "(I)I"⟩, 13) := ⟨⟨by decide +kernel, by decide +kernel⟩, List.mem_of_getElem? (i := 716) (by decide +kernel), List.mem_of_getElem? (i := 952) (by decide +kernel), List.mem_of_getElem? (i := 953) (by decide +kernel)⟩
theorem lw_p54 : lw_okq (⟨"PieceSurfacesModel", "ofWell", "(II)I"⟩, 13) := ⟨⟨by decide +kernel, by decide +kernel⟩, List.mem_of_getElem? (i := 716) (by decide +kernel), List.mem_of_getElem? (i := 964) (by decide +kernel), List.mem_of_getElem? (i := 965) (by decide +kernel)⟩
theorem lw_p55 : lw_okq (⟨"PieceSurfacesModel", "name", "(I)I"⟩, 13) := ⟨⟨by decide +kernel, by decide +kernel⟩, List.mem_of_getElem? (i := 716) (by decide +kernel), List.mem_of_getElem? (i := 968) (by decide +kernel), List.mem_of_getElem? (i := 969) (by decide +kernel)⟩
theorem lw_p56 : lw_okq (⟨"PieceSurfacesModel", "split", "(I)I"⟩, 13) := ⟨⟨by decide +kernel, by decide +kernel⟩, List.mem_of_getElem? (i := 716) (by decide +kernel), List.mem_of_getElem? (i := 972) (by decide +kernel), List.mem_of_getElem? (i := 973) (by decide +kernel)⟩
theorem lw_p57 : lw_okq (⟨"PieceSurfacesModel", "remember", "()V"⟩, 13) := ⟨⟨by decide +kernel, by decide +kernel⟩, List.mem_of_getElem? (i := 716) (by decide +kernel), List.mem_of_getElem? (i := 988) (by decide +kernel), List.mem_of_getElem? (i := 989) (by decide +kernel)⟩
theorem lw_p58 : lw_okq (⟨"PieceSurfacesModel", "copyRow", "(II)V"⟩, 13) := ⟨⟨by decide +kernel, by decide +kernel⟩, List.mem_of_getElem? (i := 716) (by decide +kernel), List.mem_of_getElem? (i := 992) (by decide +kernel), List.mem_of_getElem? (i := 993) (by decide +kernel)⟩
theorem lw_p59 : lw_okq (⟨"PieceSurfacesModel", "mayGlue", "(II)Z"⟩, 13) := ⟨⟨by decide +kernel, by decide +kernel⟩, List.mem_of_getElem? (i := 716) (by decide +kernel), List.mem_of_getElem? (i := 1000) (by decide +kernel), List.mem_of_getElem? (i := 1001) (by decide +kernel)⟩
theorem lw_p60 : lw_okq (⟨"PieceSurfacesModel", "glueTo", "(III)V"⟩, 13) := ⟨⟨by decide +kernel, by decide +kernel⟩, List.mem_of_getElem? (i := 716) (by decide +kernel), List.mem_of_getElem? (i := 1005) (by decide +kernel), List.mem_of_getElem? (i := 1006) (by decide +kernel)⟩
theorem lw_p61 : lw_okq (⟨"PieceSurfacesModel", "newSurface", "()I"⟩, 13) := ⟨⟨by decide +kernel, by decide +kernel⟩, List.mem_of_getElem? (i := 716) (by decide +kernel), List.mem_of_getElem? (i := 1021) (by decide +kernel), List.mem_of_getElem? (i := 1022) (by decide +kernel)⟩
theorem lw_p62 : lw_okq (⟨"PieceSurfacesModel", "chance", "()V"⟩, 13) := ⟨⟨by decide +kernel, by decide +kernel⟩, List.mem_of_getElem? (i := 716) (by decide +kernel), List.mem_of_getElem? (i := 1045) (by decide +kernel), List.mem_of_getElem? (i := 1046) (by decide +kernel)⟩
theorem lw_p63 : lw_okq (⟨"PieceSurfacesModel", "draw", "(I)I"⟩, 13) := ⟨⟨by decide +kernel, by decide +kernel⟩, List.mem_of_getElem? (i := 716) (by decide +kernel), List.mem_of_getElem? (i := 1049) (by decide +kernel), List.mem_of_getElem? (i := 1050) (by decide +kernel)⟩
def lw_privs_4 : List (MethodName × Nat) := [(⟨"PieceSurfacesModel", "isSurface", "(I)Z"⟩, 13), (⟨"PieceSurfacesModel", "isWell", "(I)Z"⟩, 13), (⟨"PieceSurfacesModel", "meets", "(I)Z"⟩, 13), (⟨"PieceSurfacesModel", "crosses", "(I)Z"⟩, 13), (⟨"PieceSurfacesModel", "isBody", "(I)Z"⟩, 13), (⟨"PieceSurfacesModel", "aroundOf", "(I)I"⟩, 13), (⟨"PieceSurfacesModel", "ofWell", "(II)I"⟩, 13), (⟨"PieceSurfacesModel", "name", "(I)I"⟩, 13), (⟨"PieceSurfacesModel", "split", "(I)I"⟩, 13), (⟨"PieceSurfacesModel", "remember", "()V"⟩, 13), (⟨"PieceSurfacesModel", "copyRow", "(II)V"⟩, 13), (⟨"PieceSurfacesModel", "mayGlue", "(II)Z"⟩, 13), (⟨"PieceSurfacesModel", "glueTo", "(III)V"⟩, 13), (⟨"PieceSurfacesModel", "newSurface", "()I"⟩, 13), (⟨"PieceSurfacesModel", "chance", "()V"⟩, 13), (⟨"PieceSurfacesModel", "draw", "(I)I"⟩, 13)]
theorem lw_r4 : ∀ q ∈ lw_privs_4, lw_okq q := List.forall_mem_cons.mpr ⟨lw_p48, List.forall_mem_cons.mpr ⟨lw_p49, List.forall_mem_cons.mpr ⟨lw_p50, List.forall_mem_cons.mpr ⟨lw_p51, List.forall_mem_cons.mpr ⟨lw_p52, List.forall_mem_cons.mpr ⟨lw_p53, List.forall_mem_cons.mpr ⟨lw_p54, List.forall_mem_cons.mpr ⟨lw_p55, List.forall_mem_cons.mpr ⟨lw_p56, List.forall_mem_cons.mpr ⟨lw_p57, List.forall_mem_cons.mpr ⟨lw_p58, List.forall_mem_cons.mpr ⟨lw_p59, List.forall_mem_cons.mpr ⟨lw_p60, List.forall_mem_cons.mpr ⟨lw_p61, List.forall_mem_cons.mpr ⟨lw_p62, List.forall_mem_cons.mpr ⟨lw_p63, fun _ h => absurd h List.not_mem_nil⟩⟩⟩⟩⟩⟩⟩⟩⟩⟩⟩⟩⟩⟩⟩⟩
def lw_privs : List (MethodName × Nat) := lw_privs_1 ++ (lw_privs_2 ++ (lw_privs_3 ++ (lw_privs_4)))
def lw_tbl : List Cond := k2_sels lw_privs ++ tables_1
theorem lw_privs_ok : ∀ q ∈ lw_privs, lw_okq q := by
  show ∀ q ∈ lw_privs_1 ++ (lw_privs_2 ++ (lw_privs_3 ++ (lw_privs_4))), lw_okq q
  exact List.forall_mem_append.mpr ⟨lw_r1, List.forall_mem_append.mpr ⟨lw_r2, List.forall_mem_append.mpr ⟨lw_r3, lw_r4⟩⟩⟩
theorem goodIn_r {big : List Cond} (ws : List Cond) (ps : List Nat) (hp : ws = ps.filterMap (fun i => big[i]?)) (h : ws.all goodWord = true) : GoodIn big ws := by
  intro w hw
  have h1 := List.all_eq_true.mp h w hw
  rw [hp] at hw
  obtain ⟨i, -, hi⟩ := List.mem_filterMap.mp hw
  have hm : w ∈ big := by first | exact List.mem_of_getElem? hi | exact List.getElem?_mem hi
  exact ⟨hm, good_of_word h1⟩
theorem goodIn_app {big a b : List Cond} (ha : GoodIn big a) (hb : GoodIn big b) : GoodIn big (a ++ b) := fun w h => (List.mem_append.mp h).elim (ha w) (hb w)
theorem goodIn_ca {big a b : List Cond} {c : Cond} (ha : GoodIn big (c :: a)) (hb : GoodIn big b) : GoodIn big (c :: (a ++ b)) := fun w h => (List.mem_cons.mp h).elim (fun e => ha w (List.mem_cons.mpr (Or.inl e))) (fun h => (List.mem_append.mp h).elim (fun h => ha w (List.mem_cons.mpr (Or.inr h))) (hb w))
theorem goodIn_sub {big ws : List Cond} (hm : ∀ w ∈ ws, w ∈ big) (h : ws.all goodWord = true) : GoodIn big ws := fun w hw => ⟨hm w hw, good_of_word (List.all_eq_true.mp h w hw)⟩
def RX0 : String := "PieceSurfaces$Book"
def TX0 : u_T := fun k => match k with
  | 0 => ("PieceSurfaces$Book", "surfaces", "[I", true)
  | 1 => ("PieceSurfaces$Book", "values", "[I", true)
  | _ => ("PieceSurfaces$Book", "count", "I", false)
def tyX0 : Nat → FieldType := fun k => match k with
  | 0 => .array .int
  | 1 => .array .int
  | _ => .int
abbrev wsX00 : List Cond := u_ws RX0 TX0 3
theorem nmX0 : ∀ a, a < 3 → ∀ b, b < 3 → a ≠ b → (TX0 a).2.1 ≠ (TX0 b).2.1 := by decide +kernel
theorem tyX0_ok : ∀ k, k < 3 → parseFieldDescriptor (TX0 k).2.2.1 = some (tyX0 k) := by decide +kernel
abbrev cX0_init : ByteArray := prog_2_method_1_code
def yX0_init : MethodName := ⟨RX0, "<init>", "()V"⟩
abbrev cX0_isFull : ByteArray := prog_2_method_2_code
def yX0_isFull : MethodName := ⟨RX0, "isFull", "()Z"⟩
abbrev cX0_enter : ByteArray := prog_2_method_3_code
def yX0_enter : MethodName := ⟨RX0, "enter", "(II)V"⟩
abbrev cX0_firstWrong : ByteArray := prog_2_method_4_code
def yX0_firstWrong : MethodName := ⟨RX0, "firstWrong", "(LPieceSurfaces$World;LPieceSurfaces$Survey;)I"⟩
abbrev cX0_isTrue : ByteArray := prog_2_method_5_code
def yX0_isTrue : MethodName := ⟨RX0, "isTrue", "(ILPieceSurfaces$World;LPieceSurfaces$Survey;)Z"⟩
def RX1 : String := "PieceSurfaces$Classes"
def TX1 : u_T := fun k => match k with
  | 0 => ("PieceSurfaces$Classes", "up", "[I", true)
  | _ => ("PieceSurfaces$Classes", "size", "I", false)
def tyX1 : Nat → FieldType := fun k => match k with
  | 0 => .array .int
  | _ => .int
abbrev wsX10 : List Cond := u_ws RX1 TX1 2
theorem nmX1 : ∀ a, a < 2 → ∀ b, b < 2 → a ≠ b → (TX1 a).2.1 ≠ (TX1 b).2.1 := by decide +kernel
theorem tyX1_ok : ∀ k, k < 2 → parseFieldDescriptor (TX1 k).2.2.1 = some (tyX1 k) := by decide +kernel
abbrev cX1_init : ByteArray := prog_3_method_1_code
def yX1_init : MethodName := ⟨RX1, "<init>", "(I)V"⟩
abbrev cX1_begin : ByteArray := prog_3_method_2_code
def yX1_begin : MethodName := ⟨RX1, "begin", "(I)V"⟩
abbrev cX1_least : ByteArray := prog_3_method_3_code
def yX1_least : MethodName := ⟨RX1, "least", "(I)I"⟩
abbrev cX1_join : ByteArray := prog_3_method_4_code
def yX1_join : MethodName := ⟨RX1, "join", "(II)V"⟩
abbrev cX1_countClasses : ByteArray := prog_3_method_5_code
def yX1_countClasses : MethodName := ⟨RX1, "countClasses", "()I"⟩
abbrev cX1_numberThem : ByteArray := prog_3_method_6_code
def yX1_numberThem : MethodName := ⟨RX1, "numberThem", "([I)I"⟩
def RX2 : String := "PieceSurfaces$Dice"
def TX2 : u_T := fun k => match k with
  | _ => ("PieceSurfaces$Dice", "state", "I", false)
def tyX2 : Nat → FieldType := fun k => match k with
  | _ => .int
abbrev wsX20 : List Cond := u_ws RX2 TX2 1
theorem nmX2 : ∀ a, a < 1 → ∀ b, b < 1 → a ≠ b → (TX2 a).2.1 ≠ (TX2 b).2.1 := by decide +kernel
theorem tyX2_ok : ∀ k, k < 1 → parseFieldDescriptor (TX2 k).2.2.1 = some (tyX2 k) := by decide +kernel
abbrev cX2_init : ByteArray := prog_4_method_1_code
def yX2_init : MethodName := ⟨RX2, "<init>", "()V"⟩
abbrev cX2_below : ByteArray := prog_4_method_2_code
def yX2_below : MethodName := ⟨RX2, "below", "(I)I"⟩
def RX3 : String := "PieceSurfaces$Image"
def TX3 : u_T := fun k => match k with
  | 0 => ("PieceSurfaces$Image", "world", "LPieceSurfaces$World;", true)
  | 1 => ("PieceSurfaces$Image", "state", "I", false)
  | _ => ("PieceSurfaces$Image", "saved", "Z", false)
def tyX3 : Nat → FieldType := fun k => match k with
  | 0 => .object "PieceSurfaces$World"
  | 1 => .int
  | _ => .boolean
abbrev wsX30 : List Cond := u_ws RX3 TX3 3
theorem nmX3 : ∀ a, a < 3 → ∀ b, b < 3 → a ≠ b → (TX3 a).2.1 ≠ (TX3 b).2.1 := by decide +kernel
theorem tyX3_ok : ∀ k, k < 3 → parseFieldDescriptor (TX3 k).2.2.1 = some (tyX3 k) := by decide +kernel
abbrev cX3_init : ByteArray := prog_5_method_1_code
def yX3_init : MethodName := ⟨RX3, "<init>", "()V"⟩
abbrev cX3_save : ByteArray := prog_5_method_2_code
def yX3_save : MethodName := ⟨RX3, "save", "(LPieceSurfaces$World;LPieceSurfaces$Dice;)V"⟩
abbrev cX3_load : ByteArray := prog_5_method_3_code
def yX3_load : MethodName := ⟨RX3, "load", "(LPieceSurfaces$World;LPieceSurfaces$Dice;)V"⟩
def RX4 : String := "PieceSurfaces$Matching"
def TX4 : u_T := fun k => match k with
  | 0 => ("PieceSurfaces$Matching", "terms", "[I", true)
  | _ => ("PieceSurfaces$Matching", "count", "I", false)
def tyX4 : Nat → FieldType := fun k => match k with
  | 0 => .array .int
  | _ => .int
abbrev wsX40 : List Cond := u_ws RX4 TX4 2
theorem nmX4 : ∀ a, a < 2 → ∀ b, b < 2 → a ≠ b → (TX4 a).2.1 ≠ (TX4 b).2.1 := by decide +kernel
theorem tyX4_ok : ∀ k, k < 2 → parseFieldDescriptor (TX4 k).2.2.1 = some (tyX4 k) := by decide +kernel
abbrev cX4_init : ByteArray := prog_6_method_1_code
def yX4_init : MethodName := ⟨RX4, "<init>", "()V"⟩
abbrev cX4_read : ByteArray := prog_6_method_2_code
def yX4_read : MethodName := ⟨RX4, "read", "(LPieceSurfaces$World;LPieceSurfaces$Sheet;)V"⟩
abbrev cX4_enter : ByteArray := prog_6_method_3_code
def yX4_enter : MethodName := ⟨RX4, "enter", "(IIIILPieceSurfaces$Sheet;)V"⟩
abbrev cX4_holds : ByteArray := prog_6_method_4_code
def yX4_holds : MethodName := ⟨RX4, "holds", "(LPieceSurfaces$Sheet;)Z"⟩
def RX5 : String := "PieceSurfaces$Past"
def TX5 : u_T := fun k => match k with
  | 0 => ("PieceSurfaces$Past", "ring", "[LPieceSurfaces$World;", true)
  | 1 => ("PieceSurfaces$Past", "next", "I", false)
  | _ => ("PieceSurfaces$Past", "count", "I", false)
def tyX5 : Nat → FieldType := fun k => match k with
  | 0 => .array (.object "PieceSurfaces$World")
  | 1 => .int
  | _ => .int
abbrev wsX50 : List Cond := u_ws RX5 TX5 3
theorem nmX5 : ∀ a, a < 3 → ∀ b, b < 3 → a ≠ b → (TX5 a).2.1 ≠ (TX5 b).2.1 := by decide +kernel
theorem tyX5_ok : ∀ k, k < 3 → parseFieldDescriptor (TX5 k).2.2.1 = some (tyX5 k) := by decide +kernel
abbrev cX5_init : ByteArray := prog_7_method_1_code
def yX5_init : MethodName := ⟨RX5, "<init>", "()V"⟩
abbrev cX5_record : ByteArray := prog_7_method_2_code
def yX5_record : MethodName := ⟨RX5, "record", "(LPieceSurfaces$World;)V"⟩
abbrev cX5_restore : ByteArray := prog_7_method_3_code
def yX5_restore : MethodName := ⟨RX5, "restore", "(ILPieceSurfaces$World;)V"⟩
def RX6 : String := "PieceSurfaces$Shape"
def TX6 : u_T := fun k => match k with
  | _ => ("", "", "", false)
def tyX6 : Nat → FieldType := fun k => match k with
  | _ => .int
abbrev wsX60 : List Cond := u_ws RX6 TX6 0
theorem nmX6 : ∀ a, a < 0 → ∀ b, b < 0 → a ≠ b → (TX6 a).2.1 ≠ (TX6 b).2.1 := by decide +kernel
theorem tyX6_ok : ∀ k, k < 0 → parseFieldDescriptor (TX6 k).2.2.1 = some (tyX6 k) := by decide +kernel
abbrev cX6_together : ByteArray := prog_8_method_2_code
def yX6_together : MethodName := ⟨RX6, "together", "(II)I"⟩
def RX7 : String := "PieceSurfaces$Sheet"
def TX7 : u_T := fun k => match k with
  | _ => ("PieceSurfaces$Sheet", "numbers", "[I", true)
def tyX7 : Nat → FieldType := fun k => match k with
  | _ => .array .int
abbrev wsX70 : List Cond := u_ws RX7 TX7 1
theorem nmX7 : ∀ a, a < 1 → ∀ b, b < 1 → a ≠ b → (TX7 a).2.1 ≠ (TX7 b).2.1 := by decide +kernel
theorem tyX7_ok : ∀ k, k < 1 → parseFieldDescriptor (TX7 k).2.2.1 = some (tyX7 k) := by decide +kernel
abbrev cX7_init : ByteArray := prog_9_method_1_code
def yX7_init : MethodName := ⟨RX7, "<init>", "()V"⟩
abbrev cX7_clear : ByteArray := prog_9_method_2_code
def yX7_clear : MethodName := ⟨RX7, "clear", "()V"⟩
abbrev cX7_copyFrom : ByteArray := prog_9_method_3_code
def yX7_copyFrom : MethodName := ⟨RX7, "copyFrom", "(LPieceSurfaces$Sheet;)V"⟩
abbrev cX7_fillSum : ByteArray := prog_9_method_4_code
def yX7_fillSum : MethodName := ⟨RX7, "fillSum", "(LPieceSurfaces$Sheet;LPieceSurfaces$Sheet;)V"⟩
abbrev cX7_total : ByteArray := prog_9_method_5_code
def yX7_total : MethodName := ⟨RX7, "total", "()I"⟩
abbrev cX7_most : ByteArray := prog_9_method_6_code
def yX7_most : MethodName := ⟨RX7, "most", "()I"⟩
abbrev cX7_crosses : ByteArray := prog_9_method_7_code
def yX7_crosses : MethodName := ⟨RX7, "crosses", "()Z"⟩
abbrev cX7_arcsAt : ByteArray := prog_9_method_8_code
def yX7_arcsAt : MethodName := ⟨RX7, "arcsAt", "(III)I"⟩
abbrev cX7_arcsOn : ByteArray := prog_9_method_9_code
def yX7_arcsOn : MethodName := ⟨RX7, "arcsOn", "(II)I"⟩
abbrev cX7_weightOn : ByteArray := prog_9_method_10_code
def yX7_weightOn : MethodName := ⟨RX7, "weightOn", "(II)I"⟩
def RX8 : String := "PieceSurfaces$Skeleton"
def TX8 : u_T := fun k => match k with
  | 0 => ("PieceSurfaces$Skeleton", "corners", "LPieceSurfaces$Classes;", true)
  | 1 => ("PieceSurfaces$Skeleton", "edges", "LPieceSurfaces$Classes;", true)
  | 2 => ("PieceSurfaces$Skeleton", "arrows", "LPieceSurfaces$Classes;", true)
  | 3 => ("PieceSurfaces$Skeleton", "vertexOf", "[I", true)
  | 4 => ("PieceSurfaces$Skeleton", "lineOf", "[I", true)
  | 5 => ("PieceSurfaces$Skeleton", "degree", "[I", true)
  | 6 => ("PieceSurfaces$Skeleton", "firstEdge", "[I", true)
  | 7 => ("PieceSurfaces$Skeleton", "vertices", "I", false)
  | _ => ("PieceSurfaces$Skeleton", "lines", "I", false)
def tyX8 : Nat → FieldType := fun k => match k with
  | 0 => .object "PieceSurfaces$Classes"
  | 1 => .object "PieceSurfaces$Classes"
  | 2 => .object "PieceSurfaces$Classes"
  | 3 => .array .int
  | 4 => .array .int
  | 5 => .array .int
  | 6 => .array .int
  | 7 => .int
  | _ => .int
abbrev wsX80 : List Cond := u_ws RX8 TX8 9
theorem nmX8 : ∀ a, a < 9 → ∀ b, b < 9 → a ≠ b → (TX8 a).2.1 ≠ (TX8 b).2.1 := by decide +kernel
theorem tyX8_ok : ∀ k, k < 9 → parseFieldDescriptor (TX8 k).2.2.1 = some (tyX8 k) := by decide +kernel
abbrev cX8_init : ByteArray := prog_10_method_1_code
def yX8_init : MethodName := ⟨RX8, "<init>", "()V"⟩
abbrev cX8_read : ByteArray := prog_10_method_2_code
def yX8_read : MethodName := ⟨RX8, "read", "(LPieceSurfaces$World;)V"⟩
abbrev cX8_joinFaces : ByteArray := prog_10_method_3_code
def yX8_joinFaces : MethodName := ⟨RX8, "joinFaces", "(LPieceSurfaces$World;I)V"⟩
abbrev cX8_joinArrows : ByteArray := prog_10_method_4_code
def yX8_joinArrows : MethodName := ⟨RX8, "joinArrows", "(II)V"⟩
abbrev cX8_edgeOf : ByteArray := prog_10_method_5_code
def yX8_edgeOf : MethodName := ⟨RX8, "edgeOf", "(I)I"⟩
abbrev cX8_measureLines : ByteArray := prog_10_method_6_code
def yX8_measureLines : MethodName := ⟨RX8, "measureLines", "(I)V"⟩
abbrev cX8_isReversed : ByteArray := prog_10_method_7_code
def yX8_isReversed : MethodName := ⟨RX8, "isReversed", "(I)Z"⟩
abbrev cX8_reversedLines : ByteArray := prog_10_method_8_code
def yX8_reversedLines : MethodName := ⟨RX8, "reversedLines", "()I"⟩
def RX9 : String := "PieceSurfaces$Survey"
def TX9 : u_T := fun k => match k with
  | 0 => ("PieceSurfaces$Survey", "world", "LPieceSurfaces$World;", true)
  | 1 => ("PieceSurfaces$Survey", "skeleton", "LPieceSurfaces$Skeleton;", true)
  | 2 => ("PieceSurfaces$Survey", "matching", "LPieceSurfaces$Matching;", true)
  | 3 => ("PieceSurfaces$Survey", "joined", "LPieceSurfaces$Classes;", true)
  | 4 => ("PieceSurfaces$Survey", "sides", "LPieceSurfaces$Classes;", true)
  | 5 => ("PieceSurfaces$Survey", "start", "[I", true)
  | 6 => ("PieceSurfaces$Survey", "link", "LPieceSurfaces$Sheet;", true)
  | 7 => ("PieceSurfaces$Survey", "part", "LPieceSurfaces$Sheet;", true)
  | 8 => ("PieceSurfaces$Survey", "used", "[I", true)
  | 9 => ("PieceSurfaces$Survey", "usedCount", "I", false)
  | 10 => ("PieceSurfaces$Survey", "components", "I", false)
  | _ => ("PieceSurfaces$Survey", "twoSided", "I", false)
def tyX9 : Nat → FieldType := fun k => match k with
  | 0 => .object "PieceSurfaces$World"
  | 1 => .object "PieceSurfaces$Skeleton"
  | 2 => .object "PieceSurfaces$Matching"
  | 3 => .object "PieceSurfaces$Classes"
  | 4 => .object "PieceSurfaces$Classes"
  | 5 => .array .int
  | 6 => .object "PieceSurfaces$Sheet"
  | 7 => .object "PieceSurfaces$Sheet"
  | 8 => .array .int
  | 9 => .int
  | 10 => .int
  | _ => .int
abbrev wsX90 : List Cond := u_ws RX9 TX9 12
theorem nmX9 : ∀ a, a < 12 → ∀ b, b < 12 → a ≠ b → (TX9 a).2.1 ≠ (TX9 b).2.1 := by decide +kernel
theorem tyX9_ok : ∀ k, k < 12 → parseFieldDescriptor (TX9 k).2.2.1 = some (tyX9 k) := by decide +kernel
abbrev cX9_init : ByteArray := prog_11_method_1_code
def yX9_init : MethodName := ⟨RX9, "<init>", "()V"⟩
abbrev cX9_matches : ByteArray := prog_11_method_2_code
def yX9_matches : MethodName := ⟨RX9, "matches", "(LPieceSurfaces$Sheet;)Z"⟩
abbrev cX9_isNormal : ByteArray := prog_11_method_3_code
def yX9_isNormal : MethodName := ⟨RX9, "isNormal", "(LPieceSurfaces$Sheet;)Z"⟩
abbrev cX9_ofNormal : ByteArray := prog_11_method_4_code
def yX9_ofNormal : MethodName := ⟨RX9, "ofNormal", "(LPieceSurfaces$Sheet;I)I"⟩
abbrev cX9_characteristic : ByteArray := prog_11_method_5_code
def yX9_characteristic : MethodName := ⟨RX9, "characteristic", "(LPieceSurfaces$Sheet;)I"⟩
abbrev cX9_boundary : ByteArray := prog_11_method_6_code
def yX9_boundary : MethodName := ⟨RX9, "boundary", "(LPieceSurfaces$Sheet;)I"⟩
abbrev cX9_type : ByteArray := prog_11_method_7_code
def yX9_type : MethodName := ⟨RX9, "type", "(LPieceSurfaces$Sheet;)I"⟩
abbrev cX9_trace : ByteArray := prog_11_method_8_code
def yX9_trace : MethodName := ⟨RX9, "trace", "(LPieceSurfaces$Sheet;)V"⟩
abbrev cX9_joinPieces : ByteArray := prog_11_method_9_code
def yX9_joinPieces : MethodName := ⟨RX9, "joinPieces", "(LPieceSurfaces$Sheet;I)V"⟩
abbrev cX9_sideAt : ByteArray := prog_11_method_10_code
def yX9_sideAt : MethodName := ⟨RX9, "sideAt", "(LPieceSurfaces$Sheet;III)I"⟩
abbrev cX9_fillLink : ByteArray := prog_11_method_11_code
def yX9_fillLink : MethodName := ⟨RX9, "fillLink", "(ILPieceSurfaces$Sheet;)V"⟩
abbrev cX9_isGood : ByteArray := prog_11_method_12_code
def yX9_isGood : MethodName := ⟨RX9, "isGood", "(I)Z"⟩
abbrev cX9_goodVertices : ByteArray := prog_11_method_13_code
def yX9_goodVertices : MethodName := ⟨RX9, "goodVertices", "()I"⟩
abbrev cX9_wholeCharacteristic : ByteArray := prog_11_method_14_code
def yX9_wholeCharacteristic : MethodName := ⟨RX9, "wholeCharacteristic", "()I"⟩
abbrev cX9_splits : ByteArray := prog_11_method_15_code
def yX9_splits : MethodName := ⟨RX9, "splits", "(LPieceSurfaces$Sheet;)I"⟩
abbrev cX9_countParts : ByteArray := prog_11_method_16_code
def yX9_countParts : MethodName := ⟨RX9, "countParts", "(LPieceSurfaces$Sheet;)I"⟩
abbrev cX9_listUsed : ByteArray := prog_11_method_17_code
def yX9_listUsed : MethodName := ⟨RX9, "listUsed", "(LPieceSurfaces$Sheet;)V"⟩
abbrev cX9_nextPart : ByteArray := prog_11_method_18_code
def yX9_nextPart : MethodName := ⟨RX9, "nextPart", "(LPieceSurfaces$Sheet;)V"⟩
def RX10 : String := "PieceSurfaces$World"
def TX10 : u_T := fun k => match k with
  | 0 => ("PieceSurfaces$World", "many", "I", false)
  | 1 => ("PieceSurfaces$World", "count", "I", false)
  | 2 => ("PieceSurfaces$World", "partner", "[I", true)
  | 3 => ("PieceSurfaces$World", "way", "[I", true)
  | _ => ("PieceSurfaces$World", "sheets", "[LPieceSurfaces$Sheet;", true)
def tyX10 : Nat → FieldType := fun k => match k with
  | 0 => .int
  | 1 => .int
  | 2 => .array .int
  | 3 => .array .int
  | _ => .array (.object "PieceSurfaces$Sheet")
abbrev wsX100 : List Cond := u_ws RX10 TX10 5
theorem nmX10 : ∀ a, a < 5 → ∀ b, b < 5 → a ≠ b → (TX10 a).2.1 ≠ (TX10 b).2.1 := by decide +kernel
theorem tyX10_ok : ∀ k, k < 5 → parseFieldDescriptor (TX10 k).2.2.1 = some (tyX10 k) := by decide +kernel
abbrev cX10_init : ByteArray := prog_12_method_1_code
def yX10_init : MethodName := ⟨RX10, "<init>", "()V"⟩
abbrev cX10_begin : ByteArray := prog_12_method_2_code
def yX10_begin : MethodName := ⟨RX10, "begin", "(I)V"⟩
abbrev cX10_copyFrom : ByteArray := prog_12_method_3_code
def yX10_copyFrom : MethodName := ⟨RX10, "copyFrom", "(LPieceSurfaces$World;)V"⟩
abbrev cX10_faces : ByteArray := prog_12_method_4_code
def yX10_faces : MethodName := ⟨RX10, "faces", "()I"⟩
abbrev cX10_freeFaces : ByteArray := prog_12_method_5_code
def yX10_freeFaces : MethodName := ⟨RX10, "freeFaces", "()I"⟩
abbrev cX10_canFasten : ByteArray := prog_12_method_6_code
def yX10_canFasten : MethodName := ⟨RX10, "canFasten", "(II)Z"⟩
abbrev cX10_fasten : ByteArray := prog_12_method_7_code
def yX10_fasten : MethodName := ⟨RX10, "fasten", "(III)V"⟩
abbrev cX10_loosen : ByteArray := prog_12_method_8_code
def yX10_loosen : MethodName := ⟨RX10, "loosen", "(I)V"⟩
abbrev cX10_leads : ByteArray := prog_12_method_9_code
def yX10_leads : MethodName := ⟨RX10, "leads", "(I)Z"⟩
abbrev cX10_across : ByteArray := prog_12_method_10_code
def yX10_across : MethodName := ⟨RX10, "across", "(II)I"⟩
abbrev cX10_isFull : ByteArray := prog_12_method_11_code
def yX10_isFull : MethodName := ⟨RX10, "isFull", "()Z"⟩
abbrev cX10_lastGrown : ByteArray := prog_12_method_12_code
def yX10_lastGrown : MethodName := ⟨RX10, "lastGrown", "()I"⟩
abbrev cX10_dropSheet : ByteArray := prog_12_method_13_code
def yX10_dropSheet : MethodName := ⟨RX10, "dropSheet", "(I)V"⟩
def RX11 : String := "PieceSurfaces"
def TX11 : u_T := fun k => match k with
  | 0 => ("PieceSurfaces", "world", "LPieceSurfaces$World;", true)
  | 1 => ("PieceSurfaces", "skeleton", "LPieceSurfaces$Skeleton;", true)
  | 2 => ("PieceSurfaces", "survey", "LPieceSurfaces$Survey;", true)
  | 3 => ("PieceSurfaces", "past", "LPieceSurfaces$Past;", true)
  | 4 => ("PieceSurfaces", "book", "LPieceSurfaces$Book;", true)
  | 5 => ("PieceSurfaces", "dice", "LPieceSurfaces$Dice;", true)
  | _ => ("PieceSurfaces", "images", "[LPieceSurfaces$Image;", true)
def tyX11 : Nat → FieldType := fun k => match k with
  | 0 => .object "PieceSurfaces$World"
  | 1 => .object "PieceSurfaces$Skeleton"
  | 2 => .object "PieceSurfaces$Survey"
  | 3 => .object "PieceSurfaces$Past"
  | 4 => .object "PieceSurfaces$Book"
  | 5 => .object "PieceSurfaces$Dice"
  | _ => .array (.object "PieceSurfaces$Image")
abbrev wsX110 : List Cond := u_ws RX11 TX11 7
theorem nmX11 : ∀ a, a < 7 → ∀ b, b < 7 → a ≠ b → (TX11 a).2.1 ≠ (TX11 b).2.1 := by decide +kernel
theorem tyX11_ok : ∀ k, k < 7 → parseFieldDescriptor (TX11 k).2.2.1 = some (tyX11 k) := by decide +kernel
abbrev cX11_init : ByteArray := prog_1_method_1_code
def yX11_init : MethodName := ⟨RX11, "<init>", "()V"⟩
abbrev cX11_told : ByteArray := prog_1_method_2_code
def yX11_told : MethodName := ⟨RX11, "told", "(I)I"⟩
abbrev cX11_wall : ByteArray := prog_1_method_3_code
def yX11_wall : MethodName := ⟨RX11, "wall", "(III)I"⟩
abbrev cX11_corner : ByteArray := prog_1_method_4_code
def yX11_corner : MethodName := ⟨RX11, "corner", "(III)I"⟩
abbrev cX11_edge : ByteArray := prog_1_method_5_code
def yX11_edge : MethodName := ⟨RX11, "edge", "(III)I"⟩
abbrev cX11_pieces : ByteArray := prog_1_method_6_code
def yX11_pieces : MethodName := ⟨RX11, "pieces", "(III)I"⟩
abbrev cX11_surface : ByteArray := prog_1_method_7_code
def yX11_surface : MethodName := ⟨RX11, "surface", "(II)I"⟩
abbrev cX11_weight : ByteArray := prog_1_method_8_code
def yX11_weight : MethodName := ⟨RX11, "weight", "(III)I"⟩
abbrev cX11_arcs : ByteArray := prog_1_method_9_code
def yX11_arcs : MethodName := ⟨RX11, "arcs", "(IIII)I"⟩
abbrev cX11_bodies : ByteArray := prog_1_method_10_code
def yX11_bodies : MethodName := ⟨RX11, "bodies", "(I)I"⟩
abbrev cX11_glue : ByteArray := prog_1_method_11_code
def yX11_glue : MethodName := ⟨RX11, "glue", "(IIIII)I"⟩
abbrev cX11_free : ByteArray := prog_1_method_12_code
def yX11_free : MethodName := ⟨RX11, "free", "(II)I"⟩
abbrev cX11_put : ByteArray := prog_1_method_13_code
def yX11_put : MethodName := ⟨RX11, "put", "()I"⟩
abbrev cX11_piece : ByteArray := prog_1_method_14_code
def yX11_piece : MethodName := ⟨RX11, "piece", "(IIII)I"⟩
abbrev cX11_about : ByteArray := prog_1_method_15_code
def yX11_about : MethodName := ⟨RX11, "about", "(I)I"⟩
abbrev cX11_add : ByteArray := prog_1_method_16_code
def yX11_add : MethodName := ⟨RX11, "add", "(II)I"⟩
abbrev cX11_take : ByteArray := prog_1_method_17_code
def yX11_take : MethodName := ⟨RX11, "take", "(I)I"⟩
abbrev cX11_drift : ByteArray := prog_1_method_18_code
def yX11_drift : MethodName := ⟨RX11, "drift", "(I)I"⟩
abbrev cX11_undo : ByteArray := prog_1_method_19_code
def yX11_undo : MethodName := ⟨RX11, "undo", "(I)I"⟩
abbrev cX11_write : ByteArray := prog_1_method_20_code
def yX11_write : MethodName := ⟨RX11, "write", "(II)I"⟩
abbrev cX11_tear : ByteArray := prog_1_method_21_code
def yX11_tear : MethodName := ⟨RX11, "tear", "()I"⟩
abbrev cX11_seed : ByteArray := prog_1_method_22_code
def yX11_seed : MethodName := ⟨RX11, "seed", "(I)I"⟩
abbrev cX11_keep : ByteArray := prog_1_method_23_code
def yX11_keep : MethodName := ⟨RX11, "keep", "(I)I"⟩
abbrev cX11_goBack : ByteArray := prog_1_method_24_code
def yX11_goBack : MethodName := ⟨RX11, "goBack", "(I)I"⟩
abbrev cX11_hasBody : ByteArray := prog_1_method_25_code
def yX11_hasBody : MethodName := ⟨RX11, "hasBody", "(I)Z"⟩
abbrev cX11_hasFace : ByteArray := prog_1_method_26_code
def yX11_hasFace : MethodName := ⟨RX11, "hasFace", "(II)Z"⟩
abbrev cX11_hasEdge : ByteArray := prog_1_method_27_code
def yX11_hasEdge : MethodName := ⟨RX11, "hasEdge", "(II)Z"⟩
abbrev cX11_hasSurface : ByteArray := prog_1_method_28_code
def yX11_hasSurface : MethodName := ⟨RX11, "hasSurface", "(I)Z"⟩
abbrev cX11_hasImage : ByteArray := prog_1_method_29_code
def yX11_hasImage : MethodName := ⟨RX11, "hasImage", "(I)Z"⟩
abbrev cX11_isKind : ByteArray := prog_1_method_30_code
def yX11_isKind : MethodName := ⟨RX11, "isKind", "(I)Z"⟩
abbrev cX11_driftOnce : ByteArray := prog_1_method_31_code
def yX11_driftOnce : MethodName := ⟨RX11, "driftOnce", "()V"⟩
def RX12 : String := "PieceSurfacesModel"
def TX12 : u_T := fun k => match k with
  | 0 => ("PieceSurfacesModel", "w", "[I", true)
  | 1 => ("PieceSurfacesModel", "known", "I", false)
  | 2 => ("PieceSurfacesModel", "kept", "I", false)
  | 3 => ("PieceSurfacesModel", "seed", "I", false)
  | 4 => ("PieceSurfacesModel", "keptSeed", "[I", true)
  | 5 => ("PieceSurfacesModel", "bookOf", "[I", true)
  | 6 => ("PieceSurfacesModel", "bookIs", "[I", true)
  | 7 => ("PieceSurfacesModel", "booked", "I", false)
  | 8 => ("PieceSurfacesModel", "point", "[I", true)
  | 9 => ("PieceSurfacesModel", "line", "[I", true)
  | 10 => ("PieceSurfacesModel", "arrow", "[I", true)
  | 11 => ("PieceSurfacesModel", "heap", "[I", true)
  | _ => ("PieceSurfacesModel", "face", "[I", true)
def tyX12 : Nat → FieldType := fun k => match k with
  | 0 => .array .int
  | 1 => .int
  | 2 => .int
  | 3 => .int
  | 4 => .array .int
  | 5 => .array .int
  | 6 => .array .int
  | 7 => .int
  | 8 => .array .int
  | 9 => .array .int
  | 10 => .array .int
  | 11 => .array .int
  | _ => .array .int
abbrev wsX120 : List Cond := u_ws RX12 TX12 13
theorem nmX12 : ∀ a, a < 13 → ∀ b, b < 13 → a ≠ b → (TX12 a).2.1 ≠ (TX12 b).2.1 := by decide +kernel
theorem tyX12_ok : ∀ k, k < 13 → parseFieldDescriptor (TX12 k).2.2.1 = some (tyX12 k) := by decide +kernel
abbrev cX12_init : ByteArray := prog_14_method_1_code
def yX12_init : MethodName := ⟨RX12, "<init>", "()V"⟩
abbrev cX12_in : ByteArray := prog_14_method_2_code
def yX12_in : MethodName := ⟨RX12, "in", "(III)Z"⟩
abbrev cX12_copyRow : ByteArray := prog_14_method_3_code
def yX12_copyRow : MethodName := ⟨RX12, "copyRow", "(II)V"⟩
abbrev cX12_unglueAll : ByteArray := prog_14_method_4_code
def yX12_unglueAll : MethodName := ⟨RX12, "unglueAll", "()V"⟩
abbrev cX12_isBody : ByteArray := prog_14_method_5_code
def yX12_isBody : MethodName := ⟨RX12, "isBody", "(I)Z"⟩
abbrev cX12_isSide : ByteArray := prog_14_method_6_code
def yX12_isSide : MethodName := ⟨RX12, "isSide", "(I)Z"⟩
abbrev cX12_isSurface : ByteArray := prog_14_method_7_code
def yX12_isSurface : MethodName := ⟨RX12, "isSurface", "(I)Z"⟩
abbrev cX12_surfaceAt : ByteArray := prog_14_method_8_code
def yX12_surfaceAt : MethodName := ⟨RX12, "surfaceAt", "(I)I"⟩
abbrev cX12_place : ByteArray := prog_14_method_9_code
def yX12_place : MethodName := ⟨RX12, "place", "(II)I"⟩
abbrev cX12_turnedBack : ByteArray := prog_14_method_10_code
def yX12_turnedBack : MethodName := ⟨RX12, "turnedBack", "(I)I"⟩
abbrev cX12_isFree : ByteArray := prog_14_method_11_code
def yX12_isFree : MethodName := ⟨RX12, "isFree", "(I)Z"⟩
abbrev cX12_goesTo : ByteArray := prog_14_method_12_code
def yX12_goesTo : MethodName := ⟨RX12, "goesTo", "(II)I"⟩
abbrev cX12_walls : ByteArray := prog_14_method_13_code
def yX12_walls : MethodName := ⟨RX12, "walls", "()I"⟩
abbrev cX12_freeMany : ByteArray := prog_14_method_14_code
def yX12_freeMany : MethodName := ⟨RX12, "freeMany", "()I"⟩
abbrev cX12_edgeOf : ByteArray := prog_14_method_15_code
def yX12_edgeOf : MethodName := ⟨RX12, "edgeOf", "(II)I"⟩
abbrev cX12_lowOf : ByteArray := prog_14_method_16_code
def yX12_lowOf : MethodName := ⟨RX12, "lowOf", "(I)I"⟩
abbrev cX12_highOf : ByteArray := prog_14_method_17_code
def yX12_highOf : MethodName := ⟨RX12, "highOf", "(I)I"⟩
abbrev cX12_alike : ByteArray := prog_14_method_18_code
def yX12_alike : MethodName := ⟨RX12, "alike", "([IIII)V"⟩
abbrev cX12_glueCorners : ByteArray := prog_14_method_19_code
def yX12_glueCorners : MethodName := ⟨RX12, "glueCorners", "(I)V"⟩
abbrev cX12_layRoom : ByteArray := prog_14_method_20_code
def yX12_layRoom : MethodName := ⟨RX12, "layRoom", "()V"⟩
abbrev cX12_firsts : ByteArray := prog_14_method_21_code
def yX12_firsts : MethodName := ⟨RX12, "firsts", "([II)I"⟩
abbrev cX12_isBent : ByteArray := prog_14_method_22_code
def yX12_isBent : MethodName := ⟨RX12, "isBent", "(I)Z"⟩
abbrev cX12_aroundOf : ByteArray := prog_14_method_23_code
def yX12_aroundOf : MethodName := ⟨RX12, "aroundOf", "(I)I"⟩
abbrev cX12_bentMany : ByteArray := prog_14_method_24_code
def yX12_bentMany : MethodName := ⟨RX12, "bentMany", "()I"⟩
abbrev cX12_four : ByteArray := prog_14_method_25_code
def yX12_four : MethodName := ⟨RX12, "four", "(II)I"⟩
abbrev cX12_arcsOf : ByteArray := prog_14_method_26_code
def yX12_arcsOf : MethodName := ⟨RX12, "arcsOf", "(III)I"⟩
abbrev cX12_weightOf : ByteArray := prog_14_method_27_code
def yX12_weightOf : MethodName := ⟨RX12, "weightOf", "(III)I"⟩
abbrev cX12_meets : ByteArray := prog_14_method_28_code
def yX12_meets : MethodName := ⟨RX12, "meets", "(I)Z"⟩
abbrev cX12_crosses : ByteArray := prog_14_method_29_code
def yX12_crosses : MethodName := ⟨RX12, "crosses", "(I)Z"⟩
abbrev cX12_isWell : ByteArray := prog_14_method_30_code
def yX12_isWell : MethodName := ⟨RX12, "isWell", "(I)Z"⟩
abbrev cX12_allPieces : ByteArray := prog_14_method_31_code
def yX12_allPieces : MethodName := ⟨RX12, "allPieces", "(I)I"⟩
abbrev cX12_arcsOfWall : ByteArray := prog_14_method_32_code
def yX12_arcsOfWall : MethodName := ⟨RX12, "arcsOfWall", "(II)I"⟩
abbrev cX12_border : ByteArray := prog_14_method_33_code
def yX12_border : MethodName := ⟨RX12, "border", "(I)I"⟩
abbrev cX12_euler : ByteArray := prog_14_method_34_code
def yX12_euler : MethodName := ⟨RX12, "euler", "(I)I"⟩
abbrev cX12_isWithFirst : ByteArray := prog_14_method_35_code
def yX12_isWithFirst : MethodName := ⟨RX12, "isWithFirst", "(II)Z"⟩
abbrev cX12_pieceAt : ByteArray := prog_14_method_36_code
def yX12_pieceAt : MethodName := ⟨RX12, "pieceAt", "(IIII)I"⟩
abbrev cX12_sideTo : ByteArray := prog_14_method_37_code
def yX12_sideTo : MethodName := ⟨RX12, "sideTo", "(II)I"⟩
abbrev cX12_joinArcs : ByteArray := prog_14_method_38_code
def yX12_joinArcs : MethodName := ⟨RX12, "joinArcs", "(III)V"⟩
abbrev cX12_join : ByteArray := prog_14_method_39_code
def yX12_join : MethodName := ⟨RX12, "join", "(I)V"⟩
abbrev cX12_isThere : ByteArray := prog_14_method_40_code
def yX12_isThere : MethodName := ⟨RX12, "isThere", "(II)Z"⟩
abbrev cX12_isTwoSided : ByteArray := prog_14_method_41_code
def yX12_isTwoSided : MethodName := ⟨RX12, "isTwoSided", "(II)Z"⟩
abbrev cX12_parts : ByteArray := prog_14_method_42_code
def yX12_parts : MethodName := ⟨RX12, "parts", "(IZ)I"⟩
abbrev cX12_name : ByteArray := prog_14_method_43_code
def yX12_name : MethodName := ⟨RX12, "name", "(I)I"⟩
abbrev cX12_layAbout : ByteArray := prog_14_method_44_code
def yX12_layAbout : MethodName := ⟨RX12, "layAbout", "(II)V"⟩
abbrev cX12_isGood : ByteArray := prog_14_method_45_code
def yX12_isGood : MethodName := ⟨RX12, "isGood", "(I)Z"⟩
abbrev cX12_goodMany : ByteArray := prog_14_method_46_code
def yX12_goodMany : MethodName := ⟨RX12, "goodMany", "()I"⟩
abbrev cX12_points : ByteArray := prog_14_method_47_code
def yX12_points : MethodName := ⟨RX12, "points", "()I"⟩
abbrev cX12_lines : ByteArray := prog_14_method_48_code
def yX12_lines : MethodName := ⟨RX12, "lines", "()I"⟩
abbrev cX12_bents : ByteArray := prog_14_method_49_code
def yX12_bents : MethodName := ⟨RX12, "bents", "()I"⟩
abbrev cX12_characteristic : ByteArray := prog_14_method_50_code
def yX12_characteristic : MethodName := ⟨RX12, "characteristic", "()I"⟩
abbrev cX12_split : ByteArray := prog_14_method_51_code
def yX12_split : MethodName := ⟨RX12, "split", "(I)I"⟩
abbrev cX12_wrongEntry : ByteArray := prog_14_method_52_code
def yX12_wrongEntry : MethodName := ⟨RX12, "wrongEntry", "()I"⟩
abbrev cX12_told : ByteArray := prog_14_method_53_code
def yX12_told : MethodName := ⟨RX12, "told", "(I)I"⟩
abbrev cX12_wall : ByteArray := prog_14_method_54_code
def yX12_wall : MethodName := ⟨RX12, "wall", "(III)I"⟩
abbrev cX12_corner : ByteArray := prog_14_method_55_code
def yX12_corner : MethodName := ⟨RX12, "corner", "(III)I"⟩
abbrev cX12_edge : ByteArray := prog_14_method_56_code
def yX12_edge : MethodName := ⟨RX12, "edge", "(III)I"⟩
abbrev cX12_pieces : ByteArray := prog_14_method_57_code
def yX12_pieces : MethodName := ⟨RX12, "pieces", "(III)I"⟩
abbrev cX12_ofWell : ByteArray := prog_14_method_58_code
def yX12_ofWell : MethodName := ⟨RX12, "ofWell", "(II)I"⟩
abbrev cX12_surface : ByteArray := prog_14_method_59_code
def yX12_surface : MethodName := ⟨RX12, "surface", "(II)I"⟩
abbrev cX12_weight : ByteArray := prog_14_method_60_code
def yX12_weight : MethodName := ⟨RX12, "weight", "(III)I"⟩
abbrev cX12_arcs : ByteArray := prog_14_method_61_code
def yX12_arcs : MethodName := ⟨RX12, "arcs", "(IIII)I"⟩
abbrev cX12_remember : ByteArray := prog_14_method_62_code
def yX12_remember : MethodName := ⟨RX12, "remember", "()V"⟩
abbrev cX12_bodies : ByteArray := prog_14_method_63_code
def yX12_bodies : MethodName := ⟨RX12, "bodies", "(I)I"⟩
abbrev cX12_mayGlue : ByteArray := prog_14_method_64_code
def yX12_mayGlue : MethodName := ⟨RX12, "mayGlue", "(II)Z"⟩
abbrev cX12_glueTo : ByteArray := prog_14_method_65_code
def yX12_glueTo : MethodName := ⟨RX12, "glueTo", "(III)V"⟩
abbrev cX12_glue : ByteArray := prog_14_method_66_code
def yX12_glue : MethodName := ⟨RX12, "glue", "(IIIII)I"⟩
abbrev cX12_free : ByteArray := prog_14_method_67_code
def yX12_free : MethodName := ⟨RX12, "free", "(II)I"⟩
abbrev cX12_newSurface : ByteArray := prog_14_method_68_code
def yX12_newSurface : MethodName := ⟨RX12, "newSurface", "()I"⟩
abbrev cX12_put : ByteArray := prog_14_method_69_code
def yX12_put : MethodName := ⟨RX12, "put", "()I"⟩
abbrev cX12_piece : ByteArray := prog_14_method_70_code
def yX12_piece : MethodName := ⟨RX12, "piece", "(IIII)I"⟩
abbrev cX12_about : ByteArray := prog_14_method_71_code
def yX12_about : MethodName := ⟨RX12, "about", "(I)I"⟩
abbrev cX12_add : ByteArray := prog_14_method_72_code
def yX12_add : MethodName := ⟨RX12, "add", "(II)I"⟩
abbrev cX12_take : ByteArray := prog_14_method_73_code
def yX12_take : MethodName := ⟨RX12, "take", "(I)I"⟩
abbrev cX12_draw : ByteArray := prog_14_method_74_code
def yX12_draw : MethodName := ⟨RX12, "draw", "(I)I"⟩
abbrev cX12_chance : ByteArray := prog_14_method_75_code
def yX12_chance : MethodName := ⟨RX12, "chance", "()V"⟩
abbrev cX12_drift : ByteArray := prog_14_method_76_code
def yX12_drift : MethodName := ⟨RX12, "drift", "(I)I"⟩
abbrev cX12_undo : ByteArray := prog_14_method_77_code
def yX12_undo : MethodName := ⟨RX12, "undo", "(I)I"⟩
abbrev cX12_write : ByteArray := prog_14_method_78_code
def yX12_write : MethodName := ⟨RX12, "write", "(II)I"⟩
abbrev cX12_tear : ByteArray := prog_14_method_79_code
def yX12_tear : MethodName := ⟨RX12, "tear", "()I"⟩
abbrev cX12_seed : ByteArray := prog_14_method_80_code
def yX12_seed : MethodName := ⟨RX12, "seed", "(I)I"⟩
abbrev cX12_keep : ByteArray := prog_14_method_81_code
def yX12_keep : MethodName := ⟨RX12, "keep", "(I)I"⟩
abbrev cX12_goBack : ByteArray := prog_14_method_82_code
def yX12_goBack : MethodName := ⟨RX12, "goBack", "(I)I"⟩
def RJ9 : String := "java/lang/Math"
abbrev cJ9_floorMod_7cf53 : ByteArray := prog_15_method_50_code
def yJ9_floorMod_7cf53 : MethodName := ⟨RJ9, "floorMod", "(II)I"⟩
abbrev cJ9_max_7cf53 : ByteArray := prog_15_method_65_code
def yJ9_max_7cf53 : MethodName := ⟨RJ9, "max", "(II)I"⟩
abbrev cJ9_min_7cf53 : ByteArray := prog_15_method_69_code
def yJ9_min_7cf53 : MethodName := ⟨RJ9, "min", "(II)I"⟩
def RJ10 : String := "java/lang/System"
def RJ7 : String := "java/util/Arrays"
abbrev cJ7_fill_53178 : ByteArray := prog_17_method_103_code
def yJ7_fill_53178 : MethodName := ⟨RJ7, "fill", "([II)V"⟩
def RL : String := "PieceSurfacesLaw"
abbrev cL_law : ByteArray := code
def yL_law : MethodName := ⟨RL, "law", "([I)Z"⟩
abbrev vwCl : List vw_C := [(RX0, TX0, 3), (RX1, TX1, 2), (RX2, TX2, 1), (RX3, TX3, 3), (RX4, TX4, 2), (RX5, TX5, 3), (RX7, TX7, 1), (RX8, TX8, 9), (RX9, TX9, 12), (RX10, TX10, 5), (RX11, TX11, 7), (RX12, TX12, 13)]
theorem inX0 : ∀ w ∈ wsX00, w ∈ lw_tbl := fun w h => (goodIn_r (big := lw_tbl) wsX00 [288, 290, 292] (by decide +kernel) (by decide +kernel) w h).1
theorem inX1 : ∀ w ∈ wsX10, w ∈ lw_tbl := fun w h => (goodIn_r (big := lw_tbl) wsX10 [160, 162] (by decide +kernel) (by decide +kernel) w h).1
theorem inX2 : ∀ w ∈ wsX20, w ∈ lw_tbl := fun w h => (goodIn_r (big := lw_tbl) wsX20 [304] (by decide +kernel) (by decide +kernel) w h).1
theorem inX3 : ∀ w ∈ wsX30, w ∈ lw_tbl := fun w h => (goodIn_r (big := lw_tbl) wsX30 [320, 322, 324] (by decide +kernel) (by decide +kernel) w h).1
theorem inX4 : ∀ w ∈ wsX40, w ∈ lw_tbl := fun w h => (goodIn_r (big := lw_tbl) wsX40 [210, 212] (by decide +kernel) (by decide +kernel) w h).1
theorem inX5 : ∀ w ∈ wsX50, w ∈ lw_tbl := fun w h => (goodIn_r (big := lw_tbl) wsX50 [271, 273, 275] (by decide +kernel) (by decide +kernel) w h).1
theorem inX7 : ∀ w ∈ wsX70, w ∈ lw_tbl := fun w h => (goodIn_r (big := lw_tbl) wsX70 [112] (by decide +kernel) (by decide +kernel) w h).1
theorem inX8 : ∀ w ∈ wsX80, w ∈ lw_tbl := fun w h => (goodIn_r (big := lw_tbl) wsX80 [183, 185, 187, 189, 191, 193, 195, 197, 199] (by decide +kernel) (by decide +kernel) w h).1
theorem inX9 : ∀ w ∈ wsX90, w ∈ lw_tbl := fun w h => (goodIn_r (big := lw_tbl) wsX90 [233, 235, 237, 239, 241, 243, 245, 247, 249, 251, 253, 255] (by decide +kernel) (by decide +kernel) w h).1
theorem inX10 : ∀ w ∈ wsX100, w ∈ lw_tbl := fun w h => (goodIn_r (big := lw_tbl) wsX100 [135, 137, 139, 141, 143] (by decide +kernel) (by decide +kernel) w h).1
theorem inX11 : ∀ w ∈ wsX110, w ∈ lw_tbl := fun w h => (goodIn_r (big := lw_tbl) wsX110 [334, 336, 338, 340, 342, 344, 346] (by decide +kernel) (by decide +kernel) w h).1
theorem inX12 : ∀ w ∈ wsX120, w ∈ lw_tbl := fun w h => (goodIn_r (big := lw_tbl) wsX120 [802, 804, 806, 808, 810, 812, 814, 816, 818, 820, 822, 824, 826] (by decide +kernel) (by decide +kernel) w h).1
end
section
theorem dX0_init_0 : decode cX0_init 0 = .ok (.aload_n 0, 1) := by decide +kernel
theorem dX0_init_1 : decode cX0_init 1 = .ok (.invokespecial 3, 3) := by decide +kernel
theorem dX0_init_4 : decode cX0_init 4 = .ok (.aload_n 0, 1) := by decide +kernel
theorem dX0_init_5 : decode cX0_init 5 = .ok (.bipush 20, 2) := by decide +kernel
theorem dX0_init_7 : decode cX0_init 7 = .ok (.newarray .int, 2) := by decide +kernel
theorem dX0_init_9 : decode cX0_init 9 = .ok (.putfield 11, 3) := by decide +kernel
theorem dX0_init_12 : decode cX0_init 12 = .ok (.aload_n 0, 1) := by decide +kernel
theorem dX0_init_13 : decode cX0_init 13 = .ok (.bipush 20, 2) := by decide +kernel
theorem dX0_init_15 : decode cX0_init 15 = .ok (.newarray .int, 2) := by decide +kernel
theorem dX0_init_17 : decode cX0_init 17 = .ok (.putfield 17, 3) := by decide +kernel
theorem dX0_init_20 : decode cX0_init 20 = .ok (.return_, 1) := by decide +kernel
theorem dX0_isFull_0 : decode cX0_isFull 0 = .ok (.aload_n 0, 1) := by decide +kernel
theorem dX0_isFull_1 : decode cX0_isFull 1 = .ok (.getfield 20, 3) := by decide +kernel
theorem dX0_isFull_4 : decode cX0_isFull 4 = .ok (.bipush 20, 2) := by decide +kernel
theorem dX0_isFull_6 : decode cX0_isFull 6 = .ok (.if_icmp .lt 7, 3) := by decide +kernel
theorem dX0_isFull_9 : decode cX0_isFull 9 = .ok (.iconst 1, 1) := by decide +kernel
theorem dX0_isFull_10 : decode cX0_isFull 10 = .ok (.goto 4, 3) := by decide +kernel
theorem dX0_isFull_13 : decode cX0_isFull 13 = .ok (.iconst 0, 1) := by decide +kernel
theorem dX0_isFull_14 : decode cX0_isFull 14 = .ok (.ireturn, 1) := by decide +kernel
theorem dX0_enter_0 : decode cX0_enter 0 = .ok (.aload_n 0, 1) := by decide +kernel
theorem dX0_enter_1 : decode cX0_enter 1 = .ok (.getfield 11, 3) := by decide +kernel
theorem dX0_enter_4 : decode cX0_enter 4 = .ok (.aload_n 0, 1) := by decide +kernel
theorem dX0_enter_5 : decode cX0_enter 5 = .ok (.getfield 20, 3) := by decide +kernel
theorem dX0_enter_8 : decode cX0_enter 8 = .ok (.iload_n 1, 1) := by decide +kernel
theorem dX0_enter_9 : decode cX0_enter 9 = .ok (.iastore, 1) := by decide +kernel
theorem dX0_enter_10 : decode cX0_enter 10 = .ok (.aload_n 0, 1) := by decide +kernel
theorem dX0_enter_11 : decode cX0_enter 11 = .ok (.getfield 17, 3) := by decide +kernel
theorem dX0_enter_14 : decode cX0_enter 14 = .ok (.aload_n 0, 1) := by decide +kernel
theorem dX0_enter_15 : decode cX0_enter 15 = .ok (.getfield 20, 3) := by decide +kernel
theorem dX0_enter_18 : decode cX0_enter 18 = .ok (.iload_n 2, 1) := by decide +kernel
theorem dX0_enter_19 : decode cX0_enter 19 = .ok (.iastore, 1) := by decide +kernel
theorem dX0_enter_20 : decode cX0_enter 20 = .ok (.aload_n 0, 1) := by decide +kernel
theorem dX0_enter_21 : decode cX0_enter 21 = .ok (.dup, 1) := by decide +kernel
theorem dX0_enter_22 : decode cX0_enter 22 = .ok (.getfield 20, 3) := by decide +kernel
theorem dX0_enter_25 : decode cX0_enter 25 = .ok (.iconst 1, 1) := by decide +kernel
theorem dX0_enter_26 : decode cX0_enter 26 = .ok (.iadd, 1) := by decide +kernel
theorem dX0_enter_27 : decode cX0_enter 27 = .ok (.putfield 20, 3) := by decide +kernel
theorem dX0_enter_30 : decode cX0_enter 30 = .ok (.return_, 1) := by decide +kernel
theorem dX0_firstWrong_0 : decode cX0_firstWrong 0 = .ok (.iconst 0, 1) := by decide +kernel
theorem dX0_firstWrong_1 : decode cX0_firstWrong 1 = .ok (.istore_n 3, 1) := by decide +kernel
theorem dX0_firstWrong_2 : decode cX0_firstWrong 2 = .ok (.iload_n 3, 1) := by decide +kernel
theorem dX0_firstWrong_3 : decode cX0_firstWrong 3 = .ok (.aload_n 0, 1) := by decide +kernel
theorem dX0_firstWrong_4 : decode cX0_firstWrong 4 = .ok (.getfield 20, 3) := by decide +kernel
theorem dX0_firstWrong_7 : decode cX0_firstWrong 7 = .ok (.if_icmp .ge 21, 3) := by decide +kernel
theorem dX0_firstWrong_10 : decode cX0_firstWrong 10 = .ok (.aload_n 0, 1) := by decide +kernel
theorem dX0_firstWrong_11 : decode cX0_firstWrong 11 = .ok (.iload_n 3, 1) := by decide +kernel
theorem dX0_firstWrong_12 : decode cX0_firstWrong 12 = .ok (.aload_n 1, 1) := by decide +kernel
theorem dX0_firstWrong_13 : decode cX0_firstWrong 13 = .ok (.aload_n 2, 1) := by decide +kernel
theorem dX0_firstWrong_14 : decode cX0_firstWrong 14 = .ok (.invokevirtual 24, 3) := by decide +kernel
theorem dX0_firstWrong_17 : decode cX0_firstWrong 17 = .ok (.ifCond .ne 5, 3) := by decide +kernel
theorem dX0_firstWrong_20 : decode cX0_firstWrong 20 = .ok (.iload_n 3, 1) := by decide +kernel
theorem dX0_firstWrong_21 : decode cX0_firstWrong 21 = .ok (.ireturn, 1) := by decide +kernel
theorem dX0_firstWrong_22 : decode cX0_firstWrong 22 = .ok (.iinc 3 1, 3) := by decide +kernel
theorem dX0_firstWrong_25 : decode cX0_firstWrong 25 = .ok (.goto (-23), 3) := by decide +kernel
theorem dX0_firstWrong_28 : decode cX0_firstWrong 28 = .ok (.iconst (-1), 1) := by decide +kernel
theorem dX0_firstWrong_29 : decode cX0_firstWrong 29 = .ok (.ireturn, 1) := by decide +kernel
theorem dX0_isTrue_0 : decode cX0_isTrue 0 = .ok (.aload_n 0, 1) := by decide +kernel
theorem dX0_isTrue_1 : decode cX0_isTrue 1 = .ok (.getfield 11, 3) := by decide +kernel
theorem dX0_isTrue_4 : decode cX0_isTrue 4 = .ok (.iload_n 1, 1) := by decide +kernel
theorem dX0_isTrue_5 : decode cX0_isTrue 5 = .ok (.iaload, 1) := by decide +kernel
theorem dX0_isTrue_6 : decode cX0_isTrue 6 = .ok (.aload_n 2, 1) := by decide +kernel
theorem dX0_isTrue_7 : decode cX0_isTrue 7 = .ok (.getfield 28, 3) := by decide +kernel
theorem dX0_isTrue_10 : decode cX0_isTrue 10 = .ok (.if_icmp .lt 5, 3) := by decide +kernel
theorem dX0_isTrue_13 : decode cX0_isTrue 13 = .ok (.iconst 0, 1) := by decide +kernel
theorem dX0_isTrue_14 : decode cX0_isTrue 14 = .ok (.ireturn, 1) := by decide +kernel
theorem dX0_isTrue_15 : decode cX0_isTrue 15 = .ok (.aload_n 2, 1) := by decide +kernel
theorem dX0_isTrue_16 : decode cX0_isTrue 16 = .ok (.getfield 31, 3) := by decide +kernel
theorem dX0_isTrue_19 : decode cX0_isTrue 19 = .ok (.aload_n 0, 1) := by decide +kernel
theorem dX0_isTrue_20 : decode cX0_isTrue 20 = .ok (.getfield 11, 3) := by decide +kernel
theorem dX0_isTrue_23 : decode cX0_isTrue 23 = .ok (.iload_n 1, 1) := by decide +kernel
theorem dX0_isTrue_24 : decode cX0_isTrue 24 = .ok (.iaload, 1) := by decide +kernel
theorem dX0_isTrue_25 : decode cX0_isTrue 25 = .ok (.aaload, 1) := by decide +kernel
theorem dX0_isTrue_26 : decode cX0_isTrue 26 = .ok (.astore 4, 2) := by decide +kernel
theorem dX0_isTrue_28 : decode cX0_isTrue 28 = .ok (.aload_n 3, 1) := by decide +kernel
theorem dX0_isTrue_29 : decode cX0_isTrue 29 = .ok (.aload 4, 2) := by decide +kernel
theorem dX0_isTrue_31 : decode cX0_isTrue 31 = .ok (.invokevirtual 35, 3) := by decide +kernel
theorem dX0_isTrue_34 : decode cX0_isTrue 34 = .ok (.ifCond .eq 22, 3) := by decide +kernel
theorem dX0_isTrue_37 : decode cX0_isTrue 37 = .ok (.aload_n 3, 1) := by decide +kernel
theorem dX0_isTrue_38 : decode cX0_isTrue 38 = .ok (.aload 4, 2) := by decide +kernel
theorem dX0_isTrue_40 : decode cX0_isTrue 40 = .ok (.invokevirtual 41, 3) := by decide +kernel
theorem dX0_isTrue_43 : decode cX0_isTrue 43 = .ok (.aload_n 0, 1) := by decide +kernel
theorem dX0_isTrue_44 : decode cX0_isTrue 44 = .ok (.getfield 17, 3) := by decide +kernel
theorem dX0_isTrue_47 : decode cX0_isTrue 47 = .ok (.iload_n 1, 1) := by decide +kernel
theorem dX0_isTrue_48 : decode cX0_isTrue 48 = .ok (.iaload, 1) := by decide +kernel
theorem dX0_isTrue_49 : decode cX0_isTrue 49 = .ok (.if_icmp .ne 7, 3) := by decide +kernel
theorem dX0_isTrue_52 : decode cX0_isTrue 52 = .ok (.iconst 1, 1) := by decide +kernel
theorem dX0_isTrue_53 : decode cX0_isTrue 53 = .ok (.goto 4, 3) := by decide +kernel
theorem dX0_isTrue_56 : decode cX0_isTrue 56 = .ok (.iconst 0, 1) := by decide +kernel
theorem dX0_isTrue_57 : decode cX0_isTrue 57 = .ok (.ireturn, 1) := by decide +kernel
theorem dX1_init_0 : decode cX1_init 0 = .ok (.aload_n 0, 1) := by decide +kernel
theorem dX1_init_1 : decode cX1_init 1 = .ok (.invokespecial 1, 3) := by decide +kernel
theorem dX1_init_4 : decode cX1_init 4 = .ok (.aload_n 0, 1) := by decide +kernel
theorem dX1_init_5 : decode cX1_init 5 = .ok (.iload_n 1, 1) := by decide +kernel
theorem dX1_init_6 : decode cX1_init 6 = .ok (.newarray .int, 2) := by decide +kernel
theorem dX1_init_8 : decode cX1_init 8 = .ok (.putfield 7, 3) := by decide +kernel
theorem dX1_init_11 : decode cX1_init 11 = .ok (.return_, 1) := by decide +kernel
theorem dX1_begin_0 : decode cX1_begin 0 = .ok (.aload_n 0, 1) := by decide +kernel
theorem dX1_begin_1 : decode cX1_begin 1 = .ok (.iload_n 1, 1) := by decide +kernel
theorem dX1_begin_2 : decode cX1_begin 2 = .ok (.aload_n 0, 1) := by decide +kernel
theorem dX1_begin_3 : decode cX1_begin 3 = .ok (.getfield 7, 3) := by decide +kernel
theorem dX1_begin_6 : decode cX1_begin 6 = .ok (.arraylength, 1) := by decide +kernel
theorem dX1_begin_7 : decode cX1_begin 7 = .ok (.invokestatic 13, 3) := by decide +kernel
theorem dX1_begin_10 : decode cX1_begin 10 = .ok (.putfield 19, 3) := by decide +kernel
theorem dX1_begin_13 : decode cX1_begin 13 = .ok (.iconst 0, 1) := by decide +kernel
theorem dX1_begin_14 : decode cX1_begin 14 = .ok (.istore_n 2, 1) := by decide +kernel
theorem dX1_begin_15 : decode cX1_begin 15 = .ok (.iload_n 2, 1) := by decide +kernel
theorem dX1_begin_16 : decode cX1_begin 16 = .ok (.aload_n 0, 1) := by decide +kernel
theorem dX1_begin_17 : decode cX1_begin 17 = .ok (.getfield 19, 3) := by decide +kernel
theorem dX1_begin_20 : decode cX1_begin 20 = .ok (.if_icmp .ge 16, 3) := by decide +kernel
theorem dX1_begin_23 : decode cX1_begin 23 = .ok (.aload_n 0, 1) := by decide +kernel
theorem dX1_begin_24 : decode cX1_begin 24 = .ok (.getfield 7, 3) := by decide +kernel
theorem dX1_begin_27 : decode cX1_begin 27 = .ok (.iload_n 2, 1) := by decide +kernel
theorem dX1_begin_28 : decode cX1_begin 28 = .ok (.iload_n 2, 1) := by decide +kernel
theorem dX1_begin_29 : decode cX1_begin 29 = .ok (.iastore, 1) := by decide +kernel
theorem dX1_begin_30 : decode cX1_begin 30 = .ok (.iinc 2 1, 3) := by decide +kernel
theorem dX1_begin_33 : decode cX1_begin 33 = .ok (.goto (-18), 3) := by decide +kernel
theorem dX1_begin_36 : decode cX1_begin 36 = .ok (.return_, 1) := by decide +kernel
theorem dX1_least_0 : decode cX1_least 0 = .ok (.iload_n 1, 1) := by decide +kernel
theorem dX1_least_1 : decode cX1_least 1 = .ok (.istore_n 2, 1) := by decide +kernel
theorem dX1_least_2 : decode cX1_least 2 = .ok (.iconst 0, 1) := by decide +kernel
theorem dX1_least_3 : decode cX1_least 3 = .ok (.istore_n 3, 1) := by decide +kernel
theorem dX1_least_4 : decode cX1_least 4 = .ok (.iload_n 3, 1) := by decide +kernel
theorem dX1_least_5 : decode cX1_least 5 = .ok (.aload_n 0, 1) := by decide +kernel
theorem dX1_least_6 : decode cX1_least 6 = .ok (.getfield 19, 3) := by decide +kernel
theorem dX1_least_9 : decode cX1_least 9 = .ok (.if_icmp .ge 43, 3) := by decide +kernel
theorem dX1_least_12 : decode cX1_least 12 = .ok (.aload_n 0, 1) := by decide +kernel
theorem dX1_least_13 : decode cX1_least 13 = .ok (.getfield 7, 3) := by decide +kernel
theorem dX1_least_16 : decode cX1_least 16 = .ok (.iload_n 2, 1) := by decide +kernel
theorem dX1_least_17 : decode cX1_least 17 = .ok (.iaload, 1) := by decide +kernel
theorem dX1_least_18 : decode cX1_least 18 = .ok (.iload_n 2, 1) := by decide +kernel
theorem dX1_least_19 : decode cX1_least 19 = .ok (.if_icmp .eq 33, 3) := by decide +kernel
theorem dX1_least_22 : decode cX1_least 22 = .ok (.aload_n 0, 1) := by decide +kernel
theorem dX1_least_23 : decode cX1_least 23 = .ok (.getfield 7, 3) := by decide +kernel
theorem dX1_least_26 : decode cX1_least 26 = .ok (.iload_n 2, 1) := by decide +kernel
theorem dX1_least_27 : decode cX1_least 27 = .ok (.aload_n 0, 1) := by decide +kernel
theorem dX1_least_28 : decode cX1_least 28 = .ok (.getfield 7, 3) := by decide +kernel
theorem dX1_least_31 : decode cX1_least 31 = .ok (.aload_n 0, 1) := by decide +kernel
theorem dX1_least_32 : decode cX1_least 32 = .ok (.getfield 7, 3) := by decide +kernel
theorem dX1_least_35 : decode cX1_least 35 = .ok (.iload_n 2, 1) := by decide +kernel
theorem dX1_least_36 : decode cX1_least 36 = .ok (.iaload, 1) := by decide +kernel
theorem dX1_least_37 : decode cX1_least 37 = .ok (.iaload, 1) := by decide +kernel
theorem dX1_least_38 : decode cX1_least 38 = .ok (.iastore, 1) := by decide +kernel
theorem dX1_least_39 : decode cX1_least 39 = .ok (.aload_n 0, 1) := by decide +kernel
theorem dX1_least_40 : decode cX1_least 40 = .ok (.getfield 7, 3) := by decide +kernel
theorem dX1_least_43 : decode cX1_least 43 = .ok (.iload_n 2, 1) := by decide +kernel
theorem dX1_least_44 : decode cX1_least 44 = .ok (.iaload, 1) := by decide +kernel
theorem dX1_least_45 : decode cX1_least 45 = .ok (.istore_n 2, 1) := by decide +kernel
theorem dX1_least_46 : decode cX1_least 46 = .ok (.iinc 3 1, 3) := by decide +kernel
theorem dX1_least_49 : decode cX1_least 49 = .ok (.goto (-45), 3) := by decide +kernel
theorem dX1_least_52 : decode cX1_least 52 = .ok (.iload_n 2, 1) := by decide +kernel
theorem dX1_least_53 : decode cX1_least 53 = .ok (.ireturn, 1) := by decide +kernel
theorem dX1_join_0 : decode cX1_join 0 = .ok (.aload_n 0, 1) := by decide +kernel
theorem dX1_join_1 : decode cX1_join 1 = .ok (.iload_n 1, 1) := by decide +kernel
theorem dX1_join_2 : decode cX1_join 2 = .ok (.invokevirtual 23, 3) := by decide +kernel
theorem dX1_join_5 : decode cX1_join 5 = .ok (.istore_n 3, 1) := by decide +kernel
theorem dX1_join_6 : decode cX1_join 6 = .ok (.aload_n 0, 1) := by decide +kernel
theorem dX1_join_7 : decode cX1_join 7 = .ok (.iload_n 2, 1) := by decide +kernel
theorem dX1_join_8 : decode cX1_join 8 = .ok (.invokevirtual 23, 3) := by decide +kernel
theorem dX1_join_11 : decode cX1_join 11 = .ok (.istore 4, 2) := by decide +kernel
theorem dX1_join_13 : decode cX1_join 13 = .ok (.iload_n 3, 1) := by decide +kernel
theorem dX1_join_14 : decode cX1_join 14 = .ok (.iload 4, 2) := by decide +kernel
theorem dX1_join_16 : decode cX1_join 16 = .ok (.if_icmp .ge 14, 3) := by decide +kernel
theorem dX1_join_19 : decode cX1_join 19 = .ok (.aload_n 0, 1) := by decide +kernel
theorem dX1_join_20 : decode cX1_join 20 = .ok (.getfield 7, 3) := by decide +kernel
theorem dX1_join_23 : decode cX1_join 23 = .ok (.iload 4, 2) := by decide +kernel
theorem dX1_join_25 : decode cX1_join 25 = .ok (.iload_n 3, 1) := by decide +kernel
theorem dX1_join_26 : decode cX1_join 26 = .ok (.iastore, 1) := by decide +kernel
theorem dX1_join_27 : decode cX1_join 27 = .ok (.goto 11, 3) := by decide +kernel
theorem dX1_join_30 : decode cX1_join 30 = .ok (.aload_n 0, 1) := by decide +kernel
theorem dX1_join_31 : decode cX1_join 31 = .ok (.getfield 7, 3) := by decide +kernel
theorem dX1_join_34 : decode cX1_join 34 = .ok (.iload_n 3, 1) := by decide +kernel
theorem dX1_join_35 : decode cX1_join 35 = .ok (.iload 4, 2) := by decide +kernel
theorem dX1_join_37 : decode cX1_join 37 = .ok (.iastore, 1) := by decide +kernel
theorem dX1_join_38 : decode cX1_join 38 = .ok (.return_, 1) := by decide +kernel
theorem dX1_countClasses_0 : decode cX1_countClasses 0 = .ok (.iconst 0, 1) := by decide +kernel
theorem dX1_countClasses_1 : decode cX1_countClasses 1 = .ok (.istore_n 1, 1) := by decide +kernel
theorem dX1_countClasses_2 : decode cX1_countClasses 2 = .ok (.iconst 0, 1) := by decide +kernel
theorem dX1_countClasses_3 : decode cX1_countClasses 3 = .ok (.istore_n 2, 1) := by decide +kernel
theorem dX1_countClasses_4 : decode cX1_countClasses 4 = .ok (.iload_n 2, 1) := by decide +kernel
theorem dX1_countClasses_5 : decode cX1_countClasses 5 = .ok (.aload_n 0, 1) := by decide +kernel
theorem dX1_countClasses_6 : decode cX1_countClasses 6 = .ok (.getfield 19, 3) := by decide +kernel
theorem dX1_countClasses_9 : decode cX1_countClasses 9 = .ok (.if_icmp .ge 27, 3) := by decide +kernel
theorem dX1_countClasses_12 : decode cX1_countClasses 12 = .ok (.iload_n 1, 1) := by decide +kernel
theorem dX1_countClasses_13 : decode cX1_countClasses 13 = .ok (.aload_n 0, 1) := by decide +kernel
theorem dX1_countClasses_14 : decode cX1_countClasses 14 = .ok (.getfield 7, 3) := by decide +kernel
theorem dX1_countClasses_17 : decode cX1_countClasses 17 = .ok (.iload_n 2, 1) := by decide +kernel
theorem dX1_countClasses_18 : decode cX1_countClasses 18 = .ok (.iaload, 1) := by decide +kernel
theorem dX1_countClasses_19 : decode cX1_countClasses 19 = .ok (.iload_n 2, 1) := by decide +kernel
theorem dX1_countClasses_20 : decode cX1_countClasses 20 = .ok (.if_icmp .ne 7, 3) := by decide +kernel
theorem dX1_countClasses_23 : decode cX1_countClasses 23 = .ok (.iconst 1, 1) := by decide +kernel
theorem dX1_countClasses_24 : decode cX1_countClasses 24 = .ok (.goto 4, 3) := by decide +kernel
theorem dX1_countClasses_27 : decode cX1_countClasses 27 = .ok (.iconst 0, 1) := by decide +kernel
theorem dX1_countClasses_28 : decode cX1_countClasses 28 = .ok (.iadd, 1) := by decide +kernel
theorem dX1_countClasses_29 : decode cX1_countClasses 29 = .ok (.istore_n 1, 1) := by decide +kernel
theorem dX1_countClasses_30 : decode cX1_countClasses 30 = .ok (.iinc 2 1, 3) := by decide +kernel
theorem dX1_countClasses_33 : decode cX1_countClasses 33 = .ok (.goto (-29), 3) := by decide +kernel
theorem dX1_countClasses_36 : decode cX1_countClasses 36 = .ok (.iload_n 1, 1) := by decide +kernel
theorem dX1_countClasses_37 : decode cX1_countClasses 37 = .ok (.ireturn, 1) := by decide +kernel
theorem dX1_numberThem_0 : decode cX1_numberThem 0 = .ok (.iconst 0, 1) := by decide +kernel
theorem dX1_numberThem_1 : decode cX1_numberThem 1 = .ok (.istore_n 2, 1) := by decide +kernel
theorem dX1_numberThem_2 : decode cX1_numberThem 2 = .ok (.iconst 0, 1) := by decide +kernel
theorem dX1_numberThem_3 : decode cX1_numberThem 3 = .ok (.istore_n 3, 1) := by decide +kernel
theorem dX1_numberThem_4 : decode cX1_numberThem 4 = .ok (.iload_n 3, 1) := by decide +kernel
theorem dX1_numberThem_5 : decode cX1_numberThem 5 = .ok (.aload_n 0, 1) := by decide +kernel
theorem dX1_numberThem_6 : decode cX1_numberThem 6 = .ok (.getfield 19, 3) := by decide +kernel
theorem dX1_numberThem_9 : decode cX1_numberThem 9 = .ok (.if_icmp .ge 39, 3) := by decide +kernel
theorem dX1_numberThem_12 : decode cX1_numberThem 12 = .ok (.aload_n 0, 1) := by decide +kernel
theorem dX1_numberThem_13 : decode cX1_numberThem 13 = .ok (.iload_n 3, 1) := by decide +kernel
theorem dX1_numberThem_14 : decode cX1_numberThem 14 = .ok (.invokevirtual 23, 3) := by decide +kernel
theorem dX1_numberThem_17 : decode cX1_numberThem 17 = .ok (.istore 4, 2) := by decide +kernel
theorem dX1_numberThem_19 : decode cX1_numberThem 19 = .ok (.iload 4, 2) := by decide +kernel
theorem dX1_numberThem_21 : decode cX1_numberThem 21 = .ok (.iload_n 3, 1) := by decide +kernel
theorem dX1_numberThem_22 : decode cX1_numberThem 22 = .ok (.if_icmp .ne 13, 3) := by decide +kernel
theorem dX1_numberThem_25 : decode cX1_numberThem 25 = .ok (.aload_n 1, 1) := by decide +kernel
theorem dX1_numberThem_26 : decode cX1_numberThem 26 = .ok (.iload_n 3, 1) := by decide +kernel
theorem dX1_numberThem_27 : decode cX1_numberThem 27 = .ok (.iload_n 2, 1) := by decide +kernel
theorem dX1_numberThem_28 : decode cX1_numberThem 28 = .ok (.iastore, 1) := by decide +kernel
theorem dX1_numberThem_29 : decode cX1_numberThem 29 = .ok (.iinc 2 1, 3) := by decide +kernel
theorem dX1_numberThem_32 : decode cX1_numberThem 32 = .ok (.goto 10, 3) := by decide +kernel
theorem dX1_numberThem_35 : decode cX1_numberThem 35 = .ok (.aload_n 1, 1) := by decide +kernel
theorem dX1_numberThem_36 : decode cX1_numberThem 36 = .ok (.iload_n 3, 1) := by decide +kernel
theorem dX1_numberThem_37 : decode cX1_numberThem 37 = .ok (.aload_n 1, 1) := by decide +kernel
theorem dX1_numberThem_38 : decode cX1_numberThem 38 = .ok (.iload 4, 2) := by decide +kernel
theorem dX1_numberThem_40 : decode cX1_numberThem 40 = .ok (.iaload, 1) := by decide +kernel
theorem dX1_numberThem_41 : decode cX1_numberThem 41 = .ok (.iastore, 1) := by decide +kernel
theorem dX1_numberThem_42 : decode cX1_numberThem 42 = .ok (.iinc 3 1, 3) := by decide +kernel
theorem dX1_numberThem_45 : decode cX1_numberThem 45 = .ok (.goto (-41), 3) := by decide +kernel
theorem dX1_numberThem_48 : decode cX1_numberThem 48 = .ok (.iload_n 2, 1) := by decide +kernel
theorem dX1_numberThem_49 : decode cX1_numberThem 49 = .ok (.ireturn, 1) := by decide +kernel
theorem dX2_init_0 : decode cX2_init 0 = .ok (.aload_n 0, 1) := by decide +kernel
theorem dX2_init_1 : decode cX2_init 1 = .ok (.invokespecial 1, 3) := by decide +kernel
theorem dX2_init_4 : decode cX2_init 4 = .ok (.return_, 1) := by decide +kernel
theorem dX2_below_0 : decode cX2_below 0 = .ok (.aload_n 0, 1) := by decide +kernel
theorem dX2_below_1 : decode cX2_below 1 = .ok (.ldc2_w 7, 3) := by decide +kernel
theorem dX2_below_4 : decode cX2_below 4 = .ok (.aload_n 0, 1) := by decide +kernel
theorem dX2_below_5 : decode cX2_below 5 = .ok (.getfield 9, 3) := by decide +kernel
theorem dX2_below_8 : decode cX2_below 8 = .ok (.i2l, 1) := by decide +kernel
theorem dX2_below_9 : decode cX2_below 9 = .ok (.lmul, 1) := by decide +kernel
theorem dX2_below_10 : decode cX2_below 10 = .ok (.ldc2_w 15, 3) := by decide +kernel
theorem dX2_below_13 : decode cX2_below 13 = .ok (.ladd, 1) := by decide +kernel
theorem dX2_below_14 : decode cX2_below 14 = .ok (.ldc2_w 17, 3) := by decide +kernel
theorem dX2_below_17 : decode cX2_below 17 = .ok (.lrem, 1) := by decide +kernel
theorem dX2_below_18 : decode cX2_below 18 = .ok (.l2i, 1) := by decide +kernel
theorem dX2_below_19 : decode cX2_below 19 = .ok (.putfield 9, 3) := by decide +kernel
theorem dX2_below_22 : decode cX2_below 22 = .ok (.iload_n 1, 1) := by decide +kernel
theorem dX2_below_23 : decode cX2_below 23 = .ok (.ifCond .le 15, 3) := by decide +kernel
theorem dX2_below_26 : decode cX2_below 26 = .ok (.aload_n 0, 1) := by decide +kernel
theorem dX2_below_27 : decode cX2_below 27 = .ok (.getfield 9, 3) := by decide +kernel
theorem dX2_below_30 : decode cX2_below 30 = .ok (.ldc 19, 2) := by decide +kernel
theorem dX2_below_32 : decode cX2_below 32 = .ok (.idiv, 1) := by decide +kernel
theorem dX2_below_33 : decode cX2_below 33 = .ok (.iload_n 1, 1) := by decide +kernel
theorem dX2_below_34 : decode cX2_below 34 = .ok (.irem, 1) := by decide +kernel
theorem dX2_below_35 : decode cX2_below 35 = .ok (.goto 4, 3) := by decide +kernel
theorem dX2_below_38 : decode cX2_below 38 = .ok (.iconst 0, 1) := by decide +kernel
theorem dX2_below_39 : decode cX2_below 39 = .ok (.ireturn, 1) := by decide +kernel
theorem dX3_init_0 : decode cX3_init 0 = .ok (.aload_n 0, 1) := by decide +kernel
theorem dX3_init_1 : decode cX3_init 1 = .ok (.invokespecial 1, 3) := by decide +kernel
theorem dX3_init_4 : decode cX3_init 4 = .ok (.aload_n 0, 1) := by decide +kernel
theorem dX3_init_5 : decode cX3_init 5 = .ok (.new 7, 3) := by decide +kernel
theorem dX3_init_8 : decode cX3_init 8 = .ok (.dup, 1) := by decide +kernel
theorem dX3_init_9 : decode cX3_init 9 = .ok (.invokespecial 9, 3) := by decide +kernel
theorem dX3_init_12 : decode cX3_init 12 = .ok (.putfield 10, 3) := by decide +kernel
theorem dX3_init_15 : decode cX3_init 15 = .ok (.return_, 1) := by decide +kernel
theorem dX3_save_0 : decode cX3_save 0 = .ok (.aload_n 0, 1) := by decide +kernel
theorem dX3_save_1 : decode cX3_save 1 = .ok (.getfield 10, 3) := by decide +kernel
theorem dX3_save_4 : decode cX3_save 4 = .ok (.aload_n 1, 1) := by decide +kernel
theorem dX3_save_5 : decode cX3_save 5 = .ok (.invokevirtual 16, 3) := by decide +kernel
theorem dX3_save_8 : decode cX3_save 8 = .ok (.aload_n 0, 1) := by decide +kernel
theorem dX3_save_9 : decode cX3_save 9 = .ok (.aload_n 2, 1) := by decide +kernel
theorem dX3_save_10 : decode cX3_save 10 = .ok (.getfield 20, 3) := by decide +kernel
theorem dX3_save_13 : decode cX3_save 13 = .ok (.putfield 26, 3) := by decide +kernel
theorem dX3_save_16 : decode cX3_save 16 = .ok (.aload_n 0, 1) := by decide +kernel
theorem dX3_save_17 : decode cX3_save 17 = .ok (.iconst 1, 1) := by decide +kernel
theorem dX3_save_18 : decode cX3_save 18 = .ok (.putfield 27, 3) := by decide +kernel
theorem dX3_save_21 : decode cX3_save 21 = .ok (.return_, 1) := by decide +kernel
theorem dX3_load_0 : decode cX3_load 0 = .ok (.aload_n 1, 1) := by decide +kernel
theorem dX3_load_1 : decode cX3_load 1 = .ok (.aload_n 0, 1) := by decide +kernel
theorem dX3_load_2 : decode cX3_load 2 = .ok (.getfield 10, 3) := by decide +kernel
theorem dX3_load_5 : decode cX3_load 5 = .ok (.invokevirtual 16, 3) := by decide +kernel
theorem dX3_load_8 : decode cX3_load 8 = .ok (.aload_n 2, 1) := by decide +kernel
theorem dX3_load_9 : decode cX3_load 9 = .ok (.aload_n 0, 1) := by decide +kernel
theorem dX3_load_10 : decode cX3_load 10 = .ok (.getfield 26, 3) := by decide +kernel
theorem dX3_load_13 : decode cX3_load 13 = .ok (.putfield 20, 3) := by decide +kernel
theorem dX3_load_16 : decode cX3_load 16 = .ok (.return_, 1) := by decide +kernel
theorem dX4_init_0 : decode cX4_init 0 = .ok (.aload_n 0, 1) := by decide +kernel
theorem dX4_init_1 : decode cX4_init 1 = .ok (.invokespecial 1, 3) := by decide +kernel
theorem dX4_init_4 : decode cX4_init 4 = .ok (.aload_n 0, 1) := by decide +kernel
theorem dX4_init_5 : decode cX4_init 5 = .ok (.bipush 72, 2) := by decide +kernel
theorem dX4_init_7 : decode cX4_init 7 = .ok (.newarray .int, 2) := by decide +kernel
theorem dX4_init_9 : decode cX4_init 9 = .ok (.putfield 9, 3) := by decide +kernel
theorem dX4_init_12 : decode cX4_init 12 = .ok (.return_, 1) := by decide +kernel
theorem dX4_read_0 : decode cX4_read 0 = .ok (.aload_n 0, 1) := by decide +kernel
theorem dX4_read_1 : decode cX4_read 1 = .ok (.iconst 0, 1) := by decide +kernel
theorem dX4_read_2 : decode cX4_read 2 = .ok (.putfield 15, 3) := by decide +kernel
theorem dX4_read_5 : decode cX4_read 5 = .ok (.iconst 0, 1) := by decide +kernel
theorem dX4_read_6 : decode cX4_read 6 = .ok (.istore_n 3, 1) := by decide +kernel
theorem dX4_read_7 : decode cX4_read 7 = .ok (.iload_n 3, 1) := by decide +kernel
theorem dX4_read_8 : decode cX4_read 8 = .ok (.aload_n 1, 1) := by decide +kernel
theorem dX4_read_9 : decode cX4_read 9 = .ok (.invokevirtual 19, 3) := by decide +kernel
theorem dX4_read_12 : decode cX4_read 12 = .ok (.if_icmp .ge 62, 3) := by decide +kernel
theorem dX4_read_15 : decode cX4_read 15 = .ok (.iconst 0, 1) := by decide +kernel
theorem dX4_read_16 : decode cX4_read 16 = .ok (.istore 4, 2) := by decide +kernel
theorem dX4_read_18 : decode cX4_read 18 = .ok (.iload 4, 2) := by decide +kernel
theorem dX4_read_20 : decode cX4_read 20 = .ok (.iconst 4, 1) := by decide +kernel
theorem dX4_read_21 : decode cX4_read 21 = .ok (.if_icmp .ge 47, 3) := by decide +kernel
theorem dX4_read_24 : decode cX4_read 24 = .ok (.aload_n 1, 1) := by decide +kernel
theorem dX4_read_25 : decode cX4_read 25 = .ok (.iload_n 3, 1) := by decide +kernel
theorem dX4_read_26 : decode cX4_read 26 = .ok (.iload 4, 2) := by decide +kernel
theorem dX4_read_28 : decode cX4_read 28 = .ok (.invokevirtual 25, 3) := by decide +kernel
theorem dX4_read_31 : decode cX4_read 31 = .ok (.istore 5, 2) := by decide +kernel
theorem dX4_read_33 : decode cX4_read 33 = .ok (.aload_n 1, 1) := by decide +kernel
theorem dX4_read_34 : decode cX4_read 34 = .ok (.iload_n 3, 1) := by decide +kernel
theorem dX4_read_35 : decode cX4_read 35 = .ok (.invokevirtual 29, 3) := by decide +kernel
theorem dX4_read_38 : decode cX4_read 38 = .ok (.ifCond .eq 24, 3) := by decide +kernel
theorem dX4_read_41 : decode cX4_read 41 = .ok (.iload 5, 2) := by decide +kernel
theorem dX4_read_43 : decode cX4_read 43 = .ok (.ifCond .lt 19, 3) := by decide +kernel
theorem dX4_read_46 : decode cX4_read 46 = .ok (.aload_n 0, 1) := by decide +kernel
theorem dX4_read_47 : decode cX4_read 47 = .ok (.iload_n 3, 1) := by decide +kernel
theorem dX4_read_48 : decode cX4_read 48 = .ok (.iload 4, 2) := by decide +kernel
theorem dX4_read_50 : decode cX4_read 50 = .ok (.iload 5, 2) := by decide +kernel
theorem dX4_read_52 : decode cX4_read 52 = .ok (.aload_n 1, 1) := by decide +kernel
theorem dX4_read_53 : decode cX4_read 53 = .ok (.getfield 33, 3) := by decide +kernel
theorem dX4_read_56 : decode cX4_read 56 = .ok (.iload_n 3, 1) := by decide +kernel
theorem dX4_read_57 : decode cX4_read 57 = .ok (.iaload, 1) := by decide +kernel
theorem dX4_read_58 : decode cX4_read 58 = .ok (.aload_n 2, 1) := by decide +kernel
theorem dX4_read_59 : decode cX4_read 59 = .ok (.invokevirtual 36, 3) := by decide +kernel
theorem dX4_read_62 : decode cX4_read 62 = .ok (.iinc 4 1, 3) := by decide +kernel
theorem dX4_read_65 : decode cX4_read 65 = .ok (.goto (-47), 3) := by decide +kernel
theorem dX4_read_68 : decode cX4_read 68 = .ok (.iinc 3 1, 3) := by decide +kernel
theorem dX4_read_71 : decode cX4_read 71 = .ok (.goto (-64), 3) := by decide +kernel
theorem dX4_read_74 : decode cX4_read 74 = .ok (.return_, 1) := by decide +kernel
theorem dX4_enter_0 : decode cX4_enter 0 = .ok (.iconst 4, 1) := by decide +kernel
theorem dX4_enter_1 : decode cX4_enter 1 = .ok (.aload_n 0, 1) := by decide +kernel
theorem dX4_enter_2 : decode cX4_enter 2 = .ok (.getfield 15, 3) := by decide +kernel
theorem dX4_enter_5 : decode cX4_enter 5 = .ok (.imul, 1) := by decide +kernel
theorem dX4_enter_6 : decode cX4_enter 6 = .ok (.istore 6, 2) := by decide +kernel
theorem dX4_enter_8 : decode cX4_enter 8 = .ok (.iload 6, 2) := by decide +kernel
theorem dX4_enter_10 : decode cX4_enter 10 = .ok (.iconst 3, 1) := by decide +kernel
theorem dX4_enter_11 : decode cX4_enter 11 = .ok (.iadd, 1) := by decide +kernel
theorem dX4_enter_12 : decode cX4_enter 12 = .ok (.aload_n 0, 1) := by decide +kernel
theorem dX4_enter_13 : decode cX4_enter 13 = .ok (.getfield 9, 3) := by decide +kernel
theorem dX4_enter_16 : decode cX4_enter 16 = .ok (.arraylength, 1) := by decide +kernel
theorem dX4_enter_17 : decode cX4_enter 17 = .ok (.if_icmp .lt 4, 3) := by decide +kernel
theorem dX4_enter_20 : decode cX4_enter 20 = .ok (.return_, 1) := by decide +kernel
theorem dX4_enter_21 : decode cX4_enter 21 = .ok (.iload_n 1, 1) := by decide +kernel
theorem dX4_enter_22 : decode cX4_enter 22 = .ok (.iconst 4, 1) := by decide +kernel
theorem dX4_enter_23 : decode cX4_enter 23 = .ok (.idiv, 1) := by decide +kernel
theorem dX4_enter_24 : decode cX4_enter 24 = .ok (.istore 7, 2) := by decide +kernel
theorem dX4_enter_26 : decode cX4_enter 26 = .ok (.iload 4, 2) := by decide +kernel
theorem dX4_enter_28 : decode cX4_enter 28 = .ok (.iconst 4, 1) := by decide +kernel
theorem dX4_enter_29 : decode cX4_enter 29 = .ok (.idiv, 1) := by decide +kernel
theorem dX4_enter_30 : decode cX4_enter 30 = .ok (.istore 8, 2) := by decide +kernel
theorem dX4_enter_32 : decode cX4_enter 32 = .ok (.aload_n 0, 1) := by decide +kernel
theorem dX4_enter_33 : decode cX4_enter 33 = .ok (.getfield 9, 3) := by decide +kernel
theorem dX4_enter_36 : decode cX4_enter 36 = .ok (.iload 6, 2) := by decide +kernel
theorem dX4_enter_38 : decode cX4_enter 38 = .ok (.bipush 7, 2) := by decide +kernel
theorem dX4_enter_40 : decode cX4_enter 40 = .ok (.iload 7, 2) := by decide +kernel
theorem dX4_enter_42 : decode cX4_enter 42 = .ok (.imul, 1) := by decide +kernel
theorem dX4_enter_43 : decode cX4_enter 43 = .ok (.iload_n 2, 1) := by decide +kernel
theorem dX4_enter_44 : decode cX4_enter 44 = .ok (.iadd, 1) := by decide +kernel
theorem dX4_enter_45 : decode cX4_enter 45 = .ok (.iastore, 1) := by decide +kernel
theorem dX4_enter_46 : decode cX4_enter 46 = .ok (.aload_n 0, 1) := by decide +kernel
theorem dX4_enter_47 : decode cX4_enter 47 = .ok (.getfield 9, 3) := by decide +kernel
theorem dX4_enter_50 : decode cX4_enter 50 = .ok (.iload 6, 2) := by decide +kernel
theorem dX4_enter_52 : decode cX4_enter 52 = .ok (.iconst 1, 1) := by decide +kernel
theorem dX4_enter_53 : decode cX4_enter 53 = .ok (.iadd, 1) := by decide +kernel
theorem dX4_enter_54 : decode cX4_enter 54 = .ok (.bipush 7, 2) := by decide +kernel
theorem dX4_enter_56 : decode cX4_enter 56 = .ok (.iload 7, 2) := by decide +kernel
theorem dX4_enter_58 : decode cX4_enter 58 = .ok (.imul, 1) := by decide +kernel
theorem dX4_enter_59 : decode cX4_enter 59 = .ok (.iload_n 2, 1) := by decide +kernel
theorem dX4_enter_60 : decode cX4_enter 60 = .ok (.iload_n 1, 1) := by decide +kernel
theorem dX4_enter_61 : decode cX4_enter 61 = .ok (.iconst 4, 1) := by decide +kernel
theorem dX4_enter_62 : decode cX4_enter 62 = .ok (.irem, 1) := by decide +kernel
theorem dX4_enter_63 : decode cX4_enter 63 = .ok (.invokestatic 40, 3) := by decide +kernel
theorem dX4_enter_66 : decode cX4_enter 66 = .ok (.iadd, 1) := by decide +kernel
theorem dX4_enter_67 : decode cX4_enter 67 = .ok (.iastore, 1) := by decide +kernel
theorem dX4_enter_68 : decode cX4_enter 68 = .ok (.aload_n 0, 1) := by decide +kernel
theorem dX4_enter_69 : decode cX4_enter 69 = .ok (.getfield 9, 3) := by decide +kernel
theorem dX4_enter_72 : decode cX4_enter 72 = .ok (.iload 6, 2) := by decide +kernel
theorem dX4_enter_74 : decode cX4_enter 74 = .ok (.iconst 2, 1) := by decide +kernel
theorem dX4_enter_75 : decode cX4_enter 75 = .ok (.iadd, 1) := by decide +kernel
theorem dX4_enter_76 : decode cX4_enter 76 = .ok (.bipush 7, 2) := by decide +kernel
theorem dX4_enter_78 : decode cX4_enter 78 = .ok (.iload 8, 2) := by decide +kernel
theorem dX4_enter_80 : decode cX4_enter 80 = .ok (.imul, 1) := by decide +kernel
theorem dX4_enter_81 : decode cX4_enter 81 = .ok (.iload_n 3, 1) := by decide +kernel
theorem dX4_enter_82 : decode cX4_enter 82 = .ok (.iconst 4, 1) := by decide +kernel
theorem dX4_enter_83 : decode cX4_enter 83 = .ok (.irem, 1) := by decide +kernel
theorem dX4_enter_84 : decode cX4_enter 84 = .ok (.iadd, 1) := by decide +kernel
theorem dX4_enter_85 : decode cX4_enter 85 = .ok (.iastore, 1) := by decide +kernel
theorem dX4_enter_86 : decode cX4_enter 86 = .ok (.aload_n 0, 1) := by decide +kernel
theorem dX4_enter_87 : decode cX4_enter 87 = .ok (.getfield 9, 3) := by decide +kernel
theorem dX4_enter_90 : decode cX4_enter 90 = .ok (.iload 6, 2) := by decide +kernel
theorem dX4_enter_92 : decode cX4_enter 92 = .ok (.iconst 3, 1) := by decide +kernel
theorem dX4_enter_93 : decode cX4_enter 93 = .ok (.iadd, 1) := by decide +kernel
theorem dX4_enter_94 : decode cX4_enter 94 = .ok (.bipush 7, 2) := by decide +kernel
theorem dX4_enter_96 : decode cX4_enter 96 = .ok (.iload 8, 2) := by decide +kernel
theorem dX4_enter_98 : decode cX4_enter 98 = .ok (.imul, 1) := by decide +kernel
theorem dX4_enter_99 : decode cX4_enter 99 = .ok (.iload_n 3, 1) := by decide +kernel
theorem dX4_enter_100 : decode cX4_enter 100 = .ok (.iconst 4, 1) := by decide +kernel
theorem dX4_enter_101 : decode cX4_enter 101 = .ok (.irem, 1) := by decide +kernel
theorem dX4_enter_102 : decode cX4_enter 102 = .ok (.iload 4, 2) := by decide +kernel
theorem dX4_enter_104 : decode cX4_enter 104 = .ok (.iconst 4, 1) := by decide +kernel
theorem dX4_enter_105 : decode cX4_enter 105 = .ok (.irem, 1) := by decide +kernel
theorem dX4_enter_106 : decode cX4_enter 106 = .ok (.invokestatic 40, 3) := by decide +kernel
theorem dX4_enter_109 : decode cX4_enter 109 = .ok (.iadd, 1) := by decide +kernel
theorem dX4_enter_110 : decode cX4_enter 110 = .ok (.iastore, 1) := by decide +kernel
theorem dX4_enter_111 : decode cX4_enter 111 = .ok (.aload 5, 2) := by decide +kernel
theorem dX4_enter_113 : decode cX4_enter 113 = .ok (.getfield 43, 3) := by decide +kernel
theorem dX4_enter_116 : decode cX4_enter 116 = .ok (.astore 9, 2) := by decide +kernel
theorem dX4_enter_118 : decode cX4_enter 118 = .ok (.aload 9, 2) := by decide +kernel
theorem dX4_enter_120 : decode cX4_enter 120 = .ok (.aload_n 0, 1) := by decide +kernel
theorem dX4_enter_121 : decode cX4_enter 121 = .ok (.getfield 9, 3) := by decide +kernel
theorem dX4_enter_124 : decode cX4_enter 124 = .ok (.iload 6, 2) := by decide +kernel
theorem dX4_enter_126 : decode cX4_enter 126 = .ok (.iaload, 1) := by decide +kernel
theorem dX4_enter_127 : decode cX4_enter 127 = .ok (.iaload, 1) := by decide +kernel
theorem dX4_enter_128 : decode cX4_enter 128 = .ok (.aload 9, 2) := by decide +kernel
theorem dX4_enter_130 : decode cX4_enter 130 = .ok (.aload_n 0, 1) := by decide +kernel
theorem dX4_enter_131 : decode cX4_enter 131 = .ok (.getfield 9, 3) := by decide +kernel
theorem dX4_enter_134 : decode cX4_enter 134 = .ok (.iload 6, 2) := by decide +kernel
theorem dX4_enter_136 : decode cX4_enter 136 = .ok (.iconst 1, 1) := by decide +kernel
theorem dX4_enter_137 : decode cX4_enter 137 = .ok (.iadd, 1) := by decide +kernel
theorem dX4_enter_138 : decode cX4_enter 138 = .ok (.iaload, 1) := by decide +kernel
theorem dX4_enter_139 : decode cX4_enter 139 = .ok (.iaload, 1) := by decide +kernel
theorem dX4_enter_140 : decode cX4_enter 140 = .ok (.iadd, 1) := by decide +kernel
theorem dX4_enter_141 : decode cX4_enter 141 = .ok (.aload 9, 2) := by decide +kernel
theorem dX4_enter_143 : decode cX4_enter 143 = .ok (.aload_n 0, 1) := by decide +kernel
theorem dX4_enter_144 : decode cX4_enter 144 = .ok (.getfield 9, 3) := by decide +kernel
theorem dX4_enter_147 : decode cX4_enter 147 = .ok (.iload 6, 2) := by decide +kernel
theorem dX4_enter_149 : decode cX4_enter 149 = .ok (.iconst 2, 1) := by decide +kernel
theorem dX4_enter_150 : decode cX4_enter 150 = .ok (.iadd, 1) := by decide +kernel
theorem dX4_enter_151 : decode cX4_enter 151 = .ok (.iaload, 1) := by decide +kernel
theorem dX4_enter_152 : decode cX4_enter 152 = .ok (.iaload, 1) := by decide +kernel
theorem dX4_enter_153 : decode cX4_enter 153 = .ok (.iadd, 1) := by decide +kernel
theorem dX4_enter_154 : decode cX4_enter 154 = .ok (.aload 9, 2) := by decide +kernel
theorem dX4_enter_156 : decode cX4_enter 156 = .ok (.aload_n 0, 1) := by decide +kernel
theorem dX4_enter_157 : decode cX4_enter 157 = .ok (.getfield 9, 3) := by decide +kernel
theorem dX4_enter_160 : decode cX4_enter 160 = .ok (.iload 6, 2) := by decide +kernel
theorem dX4_enter_162 : decode cX4_enter 162 = .ok (.iconst 3, 1) := by decide +kernel
theorem dX4_enter_163 : decode cX4_enter 163 = .ok (.iadd, 1) := by decide +kernel
theorem dX4_enter_164 : decode cX4_enter 164 = .ok (.iaload, 1) := by decide +kernel
theorem dX4_enter_165 : decode cX4_enter 165 = .ok (.iaload, 1) := by decide +kernel
theorem dX4_enter_166 : decode cX4_enter 166 = .ok (.iadd, 1) := by decide +kernel
theorem dX4_enter_167 : decode cX4_enter 167 = .ok (.ifCond .le 13, 3) := by decide +kernel
theorem dX4_enter_170 : decode cX4_enter 170 = .ok (.aload_n 0, 1) := by decide +kernel
theorem dX4_enter_171 : decode cX4_enter 171 = .ok (.dup, 1) := by decide +kernel
theorem dX4_enter_172 : decode cX4_enter 172 = .ok (.getfield 15, 3) := by decide +kernel
theorem dX4_enter_175 : decode cX4_enter 175 = .ok (.iconst 1, 1) := by decide +kernel
theorem dX4_enter_176 : decode cX4_enter 176 = .ok (.iadd, 1) := by decide +kernel
theorem dX4_enter_177 : decode cX4_enter 177 = .ok (.putfield 15, 3) := by decide +kernel
theorem dX4_enter_180 : decode cX4_enter 180 = .ok (.return_, 1) := by decide +kernel
theorem dX4_holds_0 : decode cX4_holds 0 = .ok (.aload_n 1, 1) := by decide +kernel
theorem dX4_holds_1 : decode cX4_holds 1 = .ok (.getfield 43, 3) := by decide +kernel
theorem dX4_holds_4 : decode cX4_holds 4 = .ok (.astore_n 2, 1) := by decide +kernel
theorem dX4_holds_5 : decode cX4_holds 5 = .ok (.iconst 0, 1) := by decide +kernel
theorem dX4_holds_6 : decode cX4_holds 6 = .ok (.istore_n 3, 1) := by decide +kernel
theorem dX4_holds_7 : decode cX4_holds 7 = .ok (.iload_n 3, 1) := by decide +kernel
theorem dX4_holds_8 : decode cX4_holds 8 = .ok (.iconst 4, 1) := by decide +kernel
theorem dX4_holds_9 : decode cX4_holds 9 = .ok (.aload_n 0, 1) := by decide +kernel
theorem dX4_holds_10 : decode cX4_holds 10 = .ok (.getfield 15, 3) := by decide +kernel
theorem dX4_holds_13 : decode cX4_holds 13 = .ok (.imul, 1) := by decide +kernel
theorem dX4_holds_14 : decode cX4_holds 14 = .ok (.if_icmp .ge 54, 3) := by decide +kernel
theorem dX4_holds_17 : decode cX4_holds 17 = .ok (.aload_n 2, 1) := by decide +kernel
theorem dX4_holds_18 : decode cX4_holds 18 = .ok (.aload_n 0, 1) := by decide +kernel
theorem dX4_holds_19 : decode cX4_holds 19 = .ok (.getfield 9, 3) := by decide +kernel
theorem dX4_holds_22 : decode cX4_holds 22 = .ok (.iload_n 3, 1) := by decide +kernel
theorem dX4_holds_23 : decode cX4_holds 23 = .ok (.iaload, 1) := by decide +kernel
theorem dX4_holds_24 : decode cX4_holds 24 = .ok (.iaload, 1) := by decide +kernel
theorem dX4_holds_25 : decode cX4_holds 25 = .ok (.aload_n 2, 1) := by decide +kernel
theorem dX4_holds_26 : decode cX4_holds 26 = .ok (.aload_n 0, 1) := by decide +kernel
theorem dX4_holds_27 : decode cX4_holds 27 = .ok (.getfield 9, 3) := by decide +kernel
theorem dX4_holds_30 : decode cX4_holds 30 = .ok (.iload_n 3, 1) := by decide +kernel
theorem dX4_holds_31 : decode cX4_holds 31 = .ok (.iconst 1, 1) := by decide +kernel
theorem dX4_holds_32 : decode cX4_holds 32 = .ok (.iadd, 1) := by decide +kernel
theorem dX4_holds_33 : decode cX4_holds 33 = .ok (.iaload, 1) := by decide +kernel
theorem dX4_holds_34 : decode cX4_holds 34 = .ok (.iaload, 1) := by decide +kernel
theorem dX4_holds_35 : decode cX4_holds 35 = .ok (.iadd, 1) := by decide +kernel
theorem dX4_holds_36 : decode cX4_holds 36 = .ok (.aload_n 2, 1) := by decide +kernel
theorem dX4_holds_37 : decode cX4_holds 37 = .ok (.aload_n 0, 1) := by decide +kernel
theorem dX4_holds_38 : decode cX4_holds 38 = .ok (.getfield 9, 3) := by decide +kernel
theorem dX4_holds_41 : decode cX4_holds 41 = .ok (.iload_n 3, 1) := by decide +kernel
theorem dX4_holds_42 : decode cX4_holds 42 = .ok (.iconst 2, 1) := by decide +kernel
theorem dX4_holds_43 : decode cX4_holds 43 = .ok (.iadd, 1) := by decide +kernel
theorem dX4_holds_44 : decode cX4_holds 44 = .ok (.iaload, 1) := by decide +kernel
theorem dX4_holds_45 : decode cX4_holds 45 = .ok (.iaload, 1) := by decide +kernel
theorem dX4_holds_46 : decode cX4_holds 46 = .ok (.aload_n 2, 1) := by decide +kernel
theorem dX4_holds_47 : decode cX4_holds 47 = .ok (.aload_n 0, 1) := by decide +kernel
theorem dX4_holds_48 : decode cX4_holds 48 = .ok (.getfield 9, 3) := by decide +kernel
theorem dX4_holds_51 : decode cX4_holds 51 = .ok (.iload_n 3, 1) := by decide +kernel
theorem dX4_holds_52 : decode cX4_holds 52 = .ok (.iconst 3, 1) := by decide +kernel
theorem dX4_holds_53 : decode cX4_holds 53 = .ok (.iadd, 1) := by decide +kernel
theorem dX4_holds_54 : decode cX4_holds 54 = .ok (.iaload, 1) := by decide +kernel
theorem dX4_holds_55 : decode cX4_holds 55 = .ok (.iaload, 1) := by decide +kernel
theorem dX4_holds_56 : decode cX4_holds 56 = .ok (.iadd, 1) := by decide +kernel
theorem dX4_holds_57 : decode cX4_holds 57 = .ok (.if_icmp .eq 5, 3) := by decide +kernel
theorem dX4_holds_60 : decode cX4_holds 60 = .ok (.iconst 0, 1) := by decide +kernel
theorem dX4_holds_61 : decode cX4_holds 61 = .ok (.ireturn, 1) := by decide +kernel
theorem dX4_holds_62 : decode cX4_holds 62 = .ok (.iinc 3 4, 3) := by decide +kernel
theorem dX4_holds_65 : decode cX4_holds 65 = .ok (.goto (-58), 3) := by decide +kernel
theorem dX4_holds_68 : decode cX4_holds 68 = .ok (.iconst 1, 1) := by decide +kernel
theorem dX4_holds_69 : decode cX4_holds 69 = .ok (.ireturn, 1) := by decide +kernel
theorem dX5_init_0 : decode cX5_init 0 = .ok (.aload_n 0, 1) := by decide +kernel
theorem dX5_init_1 : decode cX5_init 1 = .ok (.invokespecial 1, 3) := by decide +kernel
theorem dX5_init_4 : decode cX5_init 4 = .ok (.aload_n 0, 1) := by decide +kernel
theorem dX5_init_5 : decode cX5_init 5 = .ok (.bipush 16, 2) := by decide +kernel
theorem dX5_init_7 : decode cX5_init 7 = .ok (.anewarray 9, 3) := by decide +kernel
theorem dX5_init_10 : decode cX5_init 10 = .ok (.putfield 11, 3) := by decide +kernel
theorem dX5_init_13 : decode cX5_init 13 = .ok (.iconst 0, 1) := by decide +kernel
theorem dX5_init_14 : decode cX5_init 14 = .ok (.istore_n 1, 1) := by decide +kernel
theorem dX5_init_15 : decode cX5_init 15 = .ok (.iload_n 1, 1) := by decide +kernel
theorem dX5_init_16 : decode cX5_init 16 = .ok (.aload_n 0, 1) := by decide +kernel
theorem dX5_init_17 : decode cX5_init 17 = .ok (.getfield 11, 3) := by decide +kernel
theorem dX5_init_20 : decode cX5_init 20 = .ok (.arraylength, 1) := by decide +kernel
theorem dX5_init_21 : decode cX5_init 21 = .ok (.if_icmp .ge 22, 3) := by decide +kernel
theorem dX5_init_24 : decode cX5_init 24 = .ok (.aload_n 0, 1) := by decide +kernel
theorem dX5_init_25 : decode cX5_init 25 = .ok (.getfield 11, 3) := by decide +kernel
theorem dX5_init_28 : decode cX5_init 28 = .ok (.iload_n 1, 1) := by decide +kernel
theorem dX5_init_29 : decode cX5_init 29 = .ok (.new 9, 3) := by decide +kernel
theorem dX5_init_32 : decode cX5_init 32 = .ok (.dup, 1) := by decide +kernel
theorem dX5_init_33 : decode cX5_init 33 = .ok (.invokespecial 17, 3) := by decide +kernel
theorem dX5_init_36 : decode cX5_init 36 = .ok (.aastore, 1) := by decide +kernel
theorem dX5_init_37 : decode cX5_init 37 = .ok (.iinc 1 1, 3) := by decide +kernel
theorem dX5_init_40 : decode cX5_init 40 = .ok (.goto (-25), 3) := by decide +kernel
theorem dX5_init_43 : decode cX5_init 43 = .ok (.return_, 1) := by decide +kernel
theorem dX5_record_0 : decode cX5_record 0 = .ok (.aload_n 0, 1) := by decide +kernel
theorem dX5_record_1 : decode cX5_record 1 = .ok (.getfield 11, 3) := by decide +kernel
theorem dX5_record_4 : decode cX5_record 4 = .ok (.aload_n 0, 1) := by decide +kernel
theorem dX5_record_5 : decode cX5_record 5 = .ok (.getfield 18, 3) := by decide +kernel
theorem dX5_record_8 : decode cX5_record 8 = .ok (.aaload, 1) := by decide +kernel
theorem dX5_record_9 : decode cX5_record 9 = .ok (.aload_n 1, 1) := by decide +kernel
theorem dX5_record_10 : decode cX5_record 10 = .ok (.invokevirtual 22, 3) := by decide +kernel
theorem dX5_record_13 : decode cX5_record 13 = .ok (.aload_n 0, 1) := by decide +kernel
theorem dX5_record_14 : decode cX5_record 14 = .ok (.aload_n 0, 1) := by decide +kernel
theorem dX5_record_15 : decode cX5_record 15 = .ok (.getfield 18, 3) := by decide +kernel
theorem dX5_record_18 : decode cX5_record 18 = .ok (.iconst 1, 1) := by decide +kernel
theorem dX5_record_19 : decode cX5_record 19 = .ok (.iadd, 1) := by decide +kernel
theorem dX5_record_20 : decode cX5_record 20 = .ok (.bipush 16, 2) := by decide +kernel
theorem dX5_record_22 : decode cX5_record 22 = .ok (.irem, 1) := by decide +kernel
theorem dX5_record_23 : decode cX5_record 23 = .ok (.putfield 18, 3) := by decide +kernel
theorem dX5_record_26 : decode cX5_record 26 = .ok (.aload_n 0, 1) := by decide +kernel
theorem dX5_record_27 : decode cX5_record 27 = .ok (.aload_n 0, 1) := by decide +kernel
theorem dX5_record_28 : decode cX5_record 28 = .ok (.getfield 26, 3) := by decide +kernel
theorem dX5_record_31 : decode cX5_record 31 = .ok (.iconst 1, 1) := by decide +kernel
theorem dX5_record_32 : decode cX5_record 32 = .ok (.iadd, 1) := by decide +kernel
theorem dX5_record_33 : decode cX5_record 33 = .ok (.bipush 16, 2) := by decide +kernel
theorem dX5_record_35 : decode cX5_record 35 = .ok (.invokestatic 29, 3) := by decide +kernel
theorem dX5_record_38 : decode cX5_record 38 = .ok (.putfield 26, 3) := by decide +kernel
theorem dX5_record_41 : decode cX5_record 41 = .ok (.return_, 1) := by decide +kernel
theorem dX5_restore_0 : decode cX5_restore 0 = .ok (.aload_n 0, 1) := by decide +kernel
theorem dX5_restore_1 : decode cX5_restore 1 = .ok (.aload_n 0, 1) := by decide +kernel
theorem dX5_restore_2 : decode cX5_restore 2 = .ok (.getfield 18, 3) := by decide +kernel
theorem dX5_restore_5 : decode cX5_restore 5 = .ok (.iload_n 1, 1) := by decide +kernel
theorem dX5_restore_6 : decode cX5_restore 6 = .ok (.isub, 1) := by decide +kernel
theorem dX5_restore_7 : decode cX5_restore 7 = .ok (.bipush 16, 2) := by decide +kernel
theorem dX5_restore_9 : decode cX5_restore 9 = .ok (.invokestatic 35, 3) := by decide +kernel
theorem dX5_restore_12 : decode cX5_restore 12 = .ok (.putfield 18, 3) := by decide +kernel
theorem dX5_restore_15 : decode cX5_restore 15 = .ok (.aload_n 0, 1) := by decide +kernel
theorem dX5_restore_16 : decode cX5_restore 16 = .ok (.dup, 1) := by decide +kernel
theorem dX5_restore_17 : decode cX5_restore 17 = .ok (.getfield 26, 3) := by decide +kernel
theorem dX5_restore_20 : decode cX5_restore 20 = .ok (.iload_n 1, 1) := by decide +kernel
theorem dX5_restore_21 : decode cX5_restore 21 = .ok (.isub, 1) := by decide +kernel
theorem dX5_restore_22 : decode cX5_restore 22 = .ok (.putfield 26, 3) := by decide +kernel
theorem dX5_restore_25 : decode cX5_restore 25 = .ok (.aload_n 2, 1) := by decide +kernel
theorem dX5_restore_26 : decode cX5_restore 26 = .ok (.aload_n 0, 1) := by decide +kernel
theorem dX5_restore_27 : decode cX5_restore 27 = .ok (.getfield 11, 3) := by decide +kernel
theorem dX5_restore_30 : decode cX5_restore 30 = .ok (.aload_n 0, 1) := by decide +kernel
theorem dX5_restore_31 : decode cX5_restore 31 = .ok (.getfield 18, 3) := by decide +kernel
theorem dX5_restore_34 : decode cX5_restore 34 = .ok (.aaload, 1) := by decide +kernel
theorem dX5_restore_35 : decode cX5_restore 35 = .ok (.invokevirtual 22, 3) := by decide +kernel
theorem dX5_restore_38 : decode cX5_restore 38 = .ok (.return_, 1) := by decide +kernel
theorem dX6_together_0 : decode cX6_together 0 = .ok (.iconst 3, 1) := by decide +kernel
theorem dX6_together_1 : decode cX6_together 1 = .ok (.iload_n 0, 1) := by decide +kernel
theorem dX6_together_2 : decode cX6_together 2 = .ok (.iload_n 1, 1) := by decide +kernel
theorem dX6_together_3 : decode cX6_together 3 = .ok (.ixor, 1) := by decide +kernel
theorem dX6_together_4 : decode cX6_together 4 = .ok (.iadd, 1) := by decide +kernel
theorem dX6_together_5 : decode cX6_together 5 = .ok (.ireturn, 1) := by decide +kernel
theorem dX7_init_0 : decode cX7_init 0 = .ok (.aload_n 0, 1) := by decide +kernel
theorem dX7_init_1 : decode cX7_init 1 = .ok (.invokespecial 1, 3) := by decide +kernel
theorem dX7_init_4 : decode cX7_init 4 = .ok (.aload_n 0, 1) := by decide +kernel
theorem dX7_init_5 : decode cX7_init 5 = .ok (.bipush 21, 2) := by decide +kernel
theorem dX7_init_7 : decode cX7_init 7 = .ok (.newarray .int, 2) := by decide +kernel
theorem dX7_init_9 : decode cX7_init 9 = .ok (.putfield 9, 3) := by decide +kernel
theorem dX7_init_12 : decode cX7_init 12 = .ok (.return_, 1) := by decide +kernel
theorem dX7_clear_0 : decode cX7_clear 0 = .ok (.aload_n 0, 1) := by decide +kernel
theorem dX7_clear_1 : decode cX7_clear 1 = .ok (.getfield 9, 3) := by decide +kernel
theorem dX7_clear_4 : decode cX7_clear 4 = .ok (.iconst 0, 1) := by decide +kernel
theorem dX7_clear_5 : decode cX7_clear 5 = .ok (.invokestatic 15, 3) := by decide +kernel
theorem dX7_clear_8 : decode cX7_clear 8 = .ok (.return_, 1) := by decide +kernel
theorem dX7_copyFrom_0 : decode cX7_copyFrom 0 = .ok (.aload_n 1, 1) := by decide +kernel
theorem dX7_copyFrom_1 : decode cX7_copyFrom 1 = .ok (.getfield 9, 3) := by decide +kernel
theorem dX7_copyFrom_4 : decode cX7_copyFrom 4 = .ok (.iconst 0, 1) := by decide +kernel
theorem dX7_copyFrom_5 : decode cX7_copyFrom 5 = .ok (.aload_n 0, 1) := by decide +kernel
theorem dX7_copyFrom_6 : decode cX7_copyFrom 6 = .ok (.getfield 9, 3) := by decide +kernel
theorem dX7_copyFrom_9 : decode cX7_copyFrom 9 = .ok (.iconst 0, 1) := by decide +kernel
theorem dX7_copyFrom_10 : decode cX7_copyFrom 10 = .ok (.aload_n 0, 1) := by decide +kernel
theorem dX7_copyFrom_11 : decode cX7_copyFrom 11 = .ok (.getfield 9, 3) := by decide +kernel
theorem dX7_copyFrom_14 : decode cX7_copyFrom 14 = .ok (.arraylength, 1) := by decide +kernel
theorem dX7_copyFrom_15 : decode cX7_copyFrom 15 = .ok (.invokestatic 21, 3) := by decide +kernel
theorem dX7_copyFrom_18 : decode cX7_copyFrom 18 = .ok (.return_, 1) := by decide +kernel
theorem dX7_fillSum_0 : decode cX7_fillSum 0 = .ok (.iconst 0, 1) := by decide +kernel
theorem dX7_fillSum_1 : decode cX7_fillSum 1 = .ok (.istore_n 3, 1) := by decide +kernel
theorem dX7_fillSum_2 : decode cX7_fillSum 2 = .ok (.iload_n 3, 1) := by decide +kernel
theorem dX7_fillSum_3 : decode cX7_fillSum 3 = .ok (.bipush 21, 2) := by decide +kernel
theorem dX7_fillSum_5 : decode cX7_fillSum 5 = .ok (.if_icmp .ge 28, 3) := by decide +kernel
theorem dX7_fillSum_8 : decode cX7_fillSum 8 = .ok (.aload_n 0, 1) := by decide +kernel
theorem dX7_fillSum_9 : decode cX7_fillSum 9 = .ok (.getfield 9, 3) := by decide +kernel
theorem dX7_fillSum_12 : decode cX7_fillSum 12 = .ok (.iload_n 3, 1) := by decide +kernel
theorem dX7_fillSum_13 : decode cX7_fillSum 13 = .ok (.aload_n 1, 1) := by decide +kernel
theorem dX7_fillSum_14 : decode cX7_fillSum 14 = .ok (.getfield 9, 3) := by decide +kernel
theorem dX7_fillSum_17 : decode cX7_fillSum 17 = .ok (.iload_n 3, 1) := by decide +kernel
theorem dX7_fillSum_18 : decode cX7_fillSum 18 = .ok (.iaload, 1) := by decide +kernel
theorem dX7_fillSum_19 : decode cX7_fillSum 19 = .ok (.aload_n 2, 1) := by decide +kernel
theorem dX7_fillSum_20 : decode cX7_fillSum 20 = .ok (.getfield 9, 3) := by decide +kernel
theorem dX7_fillSum_23 : decode cX7_fillSum 23 = .ok (.iload_n 3, 1) := by decide +kernel
theorem dX7_fillSum_24 : decode cX7_fillSum 24 = .ok (.iaload, 1) := by decide +kernel
theorem dX7_fillSum_25 : decode cX7_fillSum 25 = .ok (.iadd, 1) := by decide +kernel
theorem dX7_fillSum_26 : decode cX7_fillSum 26 = .ok (.iastore, 1) := by decide +kernel
theorem dX7_fillSum_27 : decode cX7_fillSum 27 = .ok (.iinc 3 1, 3) := by decide +kernel
theorem dX7_fillSum_30 : decode cX7_fillSum 30 = .ok (.goto (-28), 3) := by decide +kernel
theorem dX7_fillSum_33 : decode cX7_fillSum 33 = .ok (.return_, 1) := by decide +kernel
theorem dX7_total_0 : decode cX7_total 0 = .ok (.iconst 0, 1) := by decide +kernel
theorem dX7_total_1 : decode cX7_total 1 = .ok (.istore_n 1, 1) := by decide +kernel
theorem dX7_total_2 : decode cX7_total 2 = .ok (.iconst 0, 1) := by decide +kernel
theorem dX7_total_3 : decode cX7_total 3 = .ok (.istore_n 2, 1) := by decide +kernel
theorem dX7_total_4 : decode cX7_total 4 = .ok (.iload_n 2, 1) := by decide +kernel
theorem dX7_total_5 : decode cX7_total 5 = .ok (.bipush 21, 2) := by decide +kernel
theorem dX7_total_7 : decode cX7_total 7 = .ok (.if_icmp .ge 18, 3) := by decide +kernel
theorem dX7_total_10 : decode cX7_total 10 = .ok (.iload_n 1, 1) := by decide +kernel
theorem dX7_total_11 : decode cX7_total 11 = .ok (.aload_n 0, 1) := by decide +kernel
theorem dX7_total_12 : decode cX7_total 12 = .ok (.getfield 9, 3) := by decide +kernel
theorem dX7_total_15 : decode cX7_total 15 = .ok (.iload_n 2, 1) := by decide +kernel
theorem dX7_total_16 : decode cX7_total 16 = .ok (.iaload, 1) := by decide +kernel
theorem dX7_total_17 : decode cX7_total 17 = .ok (.iadd, 1) := by decide +kernel
theorem dX7_total_18 : decode cX7_total 18 = .ok (.istore_n 1, 1) := by decide +kernel
theorem dX7_total_19 : decode cX7_total 19 = .ok (.iinc 2 1, 3) := by decide +kernel
theorem dX7_total_22 : decode cX7_total 22 = .ok (.goto (-18), 3) := by decide +kernel
theorem dX7_total_25 : decode cX7_total 25 = .ok (.iload_n 1, 1) := by decide +kernel
theorem dX7_total_26 : decode cX7_total 26 = .ok (.ireturn, 1) := by decide +kernel
theorem dX7_most_0 : decode cX7_most 0 = .ok (.iconst 0, 1) := by decide +kernel
theorem dX7_most_1 : decode cX7_most 1 = .ok (.istore_n 1, 1) := by decide +kernel
theorem dX7_most_2 : decode cX7_most 2 = .ok (.iconst 0, 1) := by decide +kernel
theorem dX7_most_3 : decode cX7_most 3 = .ok (.istore_n 2, 1) := by decide +kernel
theorem dX7_most_4 : decode cX7_most 4 = .ok (.iload_n 2, 1) := by decide +kernel
theorem dX7_most_5 : decode cX7_most 5 = .ok (.bipush 21, 2) := by decide +kernel
theorem dX7_most_7 : decode cX7_most 7 = .ok (.if_icmp .ge 20, 3) := by decide +kernel
theorem dX7_most_10 : decode cX7_most 10 = .ok (.iload_n 1, 1) := by decide +kernel
theorem dX7_most_11 : decode cX7_most 11 = .ok (.aload_n 0, 1) := by decide +kernel
theorem dX7_most_12 : decode cX7_most 12 = .ok (.getfield 9, 3) := by decide +kernel
theorem dX7_most_15 : decode cX7_most 15 = .ok (.iload_n 2, 1) := by decide +kernel
theorem dX7_most_16 : decode cX7_most 16 = .ok (.iaload, 1) := by decide +kernel
theorem dX7_most_17 : decode cX7_most 17 = .ok (.invokestatic 27, 3) := by decide +kernel
theorem dX7_most_20 : decode cX7_most 20 = .ok (.istore_n 1, 1) := by decide +kernel
theorem dX7_most_21 : decode cX7_most 21 = .ok (.iinc 2 1, 3) := by decide +kernel
theorem dX7_most_24 : decode cX7_most 24 = .ok (.goto (-20), 3) := by decide +kernel
theorem dX7_most_27 : decode cX7_most 27 = .ok (.iload_n 1, 1) := by decide +kernel
theorem dX7_most_28 : decode cX7_most 28 = .ok (.ireturn, 1) := by decide +kernel
theorem dX7_crosses_0 : decode cX7_crosses 0 = .ok (.iconst 0, 1) := by decide +kernel
theorem dX7_crosses_1 : decode cX7_crosses 1 = .ok (.istore_n 1, 1) := by decide +kernel
theorem dX7_crosses_2 : decode cX7_crosses 2 = .ok (.iload_n 1, 1) := by decide +kernel
theorem dX7_crosses_3 : decode cX7_crosses 3 = .ok (.iconst 3, 1) := by decide +kernel
theorem dX7_crosses_4 : decode cX7_crosses 4 = .ok (.if_icmp .ge 54, 3) := by decide +kernel
theorem dX7_crosses_7 : decode cX7_crosses 7 = .ok (.iconst 0, 1) := by decide +kernel
theorem dX7_crosses_8 : decode cX7_crosses 8 = .ok (.istore_n 2, 1) := by decide +kernel
theorem dX7_crosses_9 : decode cX7_crosses 9 = .ok (.iconst 4, 1) := by decide +kernel
theorem dX7_crosses_10 : decode cX7_crosses 10 = .ok (.istore_n 3, 1) := by decide +kernel
theorem dX7_crosses_11 : decode cX7_crosses 11 = .ok (.iload_n 3, 1) := by decide +kernel
theorem dX7_crosses_12 : decode cX7_crosses 12 = .ok (.bipush 7, 2) := by decide +kernel
theorem dX7_crosses_14 : decode cX7_crosses 14 = .ok (.if_icmp .ge 31, 3) := by decide +kernel
theorem dX7_crosses_17 : decode cX7_crosses 17 = .ok (.iload_n 2, 1) := by decide +kernel
theorem dX7_crosses_18 : decode cX7_crosses 18 = .ok (.aload_n 0, 1) := by decide +kernel
theorem dX7_crosses_19 : decode cX7_crosses 19 = .ok (.getfield 9, 3) := by decide +kernel
theorem dX7_crosses_22 : decode cX7_crosses 22 = .ok (.bipush 7, 2) := by decide +kernel
theorem dX7_crosses_24 : decode cX7_crosses 24 = .ok (.iload_n 1, 1) := by decide +kernel
theorem dX7_crosses_25 : decode cX7_crosses 25 = .ok (.imul, 1) := by decide +kernel
theorem dX7_crosses_26 : decode cX7_crosses 26 = .ok (.iload_n 3, 1) := by decide +kernel
theorem dX7_crosses_27 : decode cX7_crosses 27 = .ok (.iadd, 1) := by decide +kernel
theorem dX7_crosses_28 : decode cX7_crosses 28 = .ok (.iaload, 1) := by decide +kernel
theorem dX7_crosses_29 : decode cX7_crosses 29 = .ok (.ifCond .le 7, 3) := by decide +kernel
theorem dX7_crosses_32 : decode cX7_crosses 32 = .ok (.iconst 1, 1) := by decide +kernel
theorem dX7_crosses_33 : decode cX7_crosses 33 = .ok (.goto 4, 3) := by decide +kernel
theorem dX7_crosses_36 : decode cX7_crosses 36 = .ok (.iconst 0, 1) := by decide +kernel
theorem dX7_crosses_37 : decode cX7_crosses 37 = .ok (.iadd, 1) := by decide +kernel
theorem dX7_crosses_38 : decode cX7_crosses 38 = .ok (.istore_n 2, 1) := by decide +kernel
theorem dX7_crosses_39 : decode cX7_crosses 39 = .ok (.iinc 3 1, 3) := by decide +kernel
theorem dX7_crosses_42 : decode cX7_crosses 42 = .ok (.goto (-31), 3) := by decide +kernel
theorem dX7_crosses_45 : decode cX7_crosses 45 = .ok (.iload_n 2, 1) := by decide +kernel
theorem dX7_crosses_46 : decode cX7_crosses 46 = .ok (.iconst 1, 1) := by decide +kernel
theorem dX7_crosses_47 : decode cX7_crosses 47 = .ok (.if_icmp .le 5, 3) := by decide +kernel
theorem dX7_crosses_50 : decode cX7_crosses 50 = .ok (.iconst 1, 1) := by decide +kernel
theorem dX7_crosses_51 : decode cX7_crosses 51 = .ok (.ireturn, 1) := by decide +kernel
theorem dX7_crosses_52 : decode cX7_crosses 52 = .ok (.iinc 1 1, 3) := by decide +kernel
theorem dX7_crosses_55 : decode cX7_crosses 55 = .ok (.goto (-53), 3) := by decide +kernel
theorem dX7_crosses_58 : decode cX7_crosses 58 = .ok (.iconst 0, 1) := by decide +kernel
theorem dX7_crosses_59 : decode cX7_crosses 59 = .ok (.ireturn, 1) := by decide +kernel
theorem dX7_arcsAt_0 : decode cX7_arcsAt 0 = .ok (.aload_n 0, 1) := by decide +kernel
theorem dX7_arcsAt_1 : decode cX7_arcsAt 1 = .ok (.getfield 9, 3) := by decide +kernel
theorem dX7_arcsAt_4 : decode cX7_arcsAt 4 = .ok (.bipush 7, 2) := by decide +kernel
theorem dX7_arcsAt_6 : decode cX7_arcsAt 6 = .ok (.iload_n 1, 1) := by decide +kernel
theorem dX7_arcsAt_7 : decode cX7_arcsAt 7 = .ok (.imul, 1) := by decide +kernel
theorem dX7_arcsAt_8 : decode cX7_arcsAt 8 = .ok (.iload_n 3, 1) := by decide +kernel
theorem dX7_arcsAt_9 : decode cX7_arcsAt 9 = .ok (.iadd, 1) := by decide +kernel
theorem dX7_arcsAt_10 : decode cX7_arcsAt 10 = .ok (.iaload, 1) := by decide +kernel
theorem dX7_arcsAt_11 : decode cX7_arcsAt 11 = .ok (.aload_n 0, 1) := by decide +kernel
theorem dX7_arcsAt_12 : decode cX7_arcsAt 12 = .ok (.getfield 9, 3) := by decide +kernel
theorem dX7_arcsAt_15 : decode cX7_arcsAt 15 = .ok (.bipush 7, 2) := by decide +kernel
theorem dX7_arcsAt_17 : decode cX7_arcsAt 17 = .ok (.iload_n 1, 1) := by decide +kernel
theorem dX7_arcsAt_18 : decode cX7_arcsAt 18 = .ok (.imul, 1) := by decide +kernel
theorem dX7_arcsAt_19 : decode cX7_arcsAt 19 = .ok (.iload_n 3, 1) := by decide +kernel
theorem dX7_arcsAt_20 : decode cX7_arcsAt 20 = .ok (.iload_n 2, 1) := by decide +kernel
theorem dX7_arcsAt_21 : decode cX7_arcsAt 21 = .ok (.invokestatic 33, 3) := by decide +kernel
theorem dX7_arcsAt_24 : decode cX7_arcsAt 24 = .ok (.iadd, 1) := by decide +kernel
theorem dX7_arcsAt_25 : decode cX7_arcsAt 25 = .ok (.iaload, 1) := by decide +kernel
theorem dX7_arcsAt_26 : decode cX7_arcsAt 26 = .ok (.iadd, 1) := by decide +kernel
theorem dX7_arcsAt_27 : decode cX7_arcsAt 27 = .ok (.ireturn, 1) := by decide +kernel
theorem dX7_arcsOn_0 : decode cX7_arcsOn 0 = .ok (.iconst 0, 1) := by decide +kernel
theorem dX7_arcsOn_1 : decode cX7_arcsOn 1 = .ok (.istore_n 3, 1) := by decide +kernel
theorem dX7_arcsOn_2 : decode cX7_arcsOn 2 = .ok (.iconst 0, 1) := by decide +kernel
theorem dX7_arcsOn_3 : decode cX7_arcsOn 3 = .ok (.istore 4, 2) := by decide +kernel
theorem dX7_arcsOn_5 : decode cX7_arcsOn 5 = .ok (.iload 4, 2) := by decide +kernel
theorem dX7_arcsOn_7 : decode cX7_arcsOn 7 = .ok (.iconst 4, 1) := by decide +kernel
theorem dX7_arcsOn_8 : decode cX7_arcsOn 8 = .ok (.if_icmp .ge 30, 3) := by decide +kernel
theorem dX7_arcsOn_11 : decode cX7_arcsOn 11 = .ok (.iload_n 3, 1) := by decide +kernel
theorem dX7_arcsOn_12 : decode cX7_arcsOn 12 = .ok (.iload 4, 2) := by decide +kernel
theorem dX7_arcsOn_14 : decode cX7_arcsOn 14 = .ok (.iload_n 2, 1) := by decide +kernel
theorem dX7_arcsOn_15 : decode cX7_arcsOn 15 = .ok (.if_icmp .ne 7, 3) := by decide +kernel
theorem dX7_arcsOn_18 : decode cX7_arcsOn 18 = .ok (.iconst 0, 1) := by decide +kernel
theorem dX7_arcsOn_19 : decode cX7_arcsOn 19 = .ok (.goto 11, 3) := by decide +kernel
theorem dX7_arcsOn_22 : decode cX7_arcsOn 22 = .ok (.aload_n 0, 1) := by decide +kernel
theorem dX7_arcsOn_23 : decode cX7_arcsOn 23 = .ok (.iload_n 1, 1) := by decide +kernel
theorem dX7_arcsOn_24 : decode cX7_arcsOn 24 = .ok (.iload_n 2, 1) := by decide +kernel
theorem dX7_arcsOn_25 : decode cX7_arcsOn 25 = .ok (.iload 4, 2) := by decide +kernel
theorem dX7_arcsOn_27 : decode cX7_arcsOn 27 = .ok (.invokevirtual 36, 3) := by decide +kernel
theorem dX7_arcsOn_30 : decode cX7_arcsOn 30 = .ok (.iadd, 1) := by decide +kernel
theorem dX7_arcsOn_31 : decode cX7_arcsOn 31 = .ok (.istore_n 3, 1) := by decide +kernel
theorem dX7_arcsOn_32 : decode cX7_arcsOn 32 = .ok (.iinc 4 1, 3) := by decide +kernel
theorem dX7_arcsOn_35 : decode cX7_arcsOn 35 = .ok (.goto (-30), 3) := by decide +kernel
theorem dX7_arcsOn_38 : decode cX7_arcsOn 38 = .ok (.iload_n 3, 1) := by decide +kernel
theorem dX7_arcsOn_39 : decode cX7_arcsOn 39 = .ok (.ireturn, 1) := by decide +kernel
theorem dX7_weightOn_0 : decode cX7_weightOn 0 = .ok (.getstatic 40, 3) := by decide +kernel
theorem dX7_weightOn_3 : decode cX7_weightOn 3 = .ok (.iload_n 2, 1) := by decide +kernel
theorem dX7_weightOn_4 : decode cX7_weightOn 4 = .ok (.iaload, 1) := by decide +kernel
theorem dX7_weightOn_5 : decode cX7_weightOn 5 = .ok (.istore_n 3, 1) := by decide +kernel
theorem dX7_weightOn_6 : decode cX7_weightOn 6 = .ok (.getstatic 43, 3) := by decide +kernel
theorem dX7_weightOn_9 : decode cX7_weightOn 9 = .ok (.iload_n 2, 1) := by decide +kernel
theorem dX7_weightOn_10 : decode cX7_weightOn 10 = .ok (.iaload, 1) := by decide +kernel
theorem dX7_weightOn_11 : decode cX7_weightOn 11 = .ok (.istore 4, 2) := by decide +kernel
theorem dX7_weightOn_13 : decode cX7_weightOn 13 = .ok (.aload_n 0, 1) := by decide +kernel
theorem dX7_weightOn_14 : decode cX7_weightOn 14 = .ok (.getfield 9, 3) := by decide +kernel
theorem dX7_weightOn_17 : decode cX7_weightOn 17 = .ok (.bipush 7, 2) := by decide +kernel
theorem dX7_weightOn_19 : decode cX7_weightOn 19 = .ok (.iload_n 1, 1) := by decide +kernel
theorem dX7_weightOn_20 : decode cX7_weightOn 20 = .ok (.imul, 1) := by decide +kernel
theorem dX7_weightOn_21 : decode cX7_weightOn 21 = .ok (.iload_n 3, 1) := by decide +kernel
theorem dX7_weightOn_22 : decode cX7_weightOn 22 = .ok (.iadd, 1) := by decide +kernel
theorem dX7_weightOn_23 : decode cX7_weightOn 23 = .ok (.iaload, 1) := by decide +kernel
theorem dX7_weightOn_24 : decode cX7_weightOn 24 = .ok (.aload_n 0, 1) := by decide +kernel
theorem dX7_weightOn_25 : decode cX7_weightOn 25 = .ok (.getfield 9, 3) := by decide +kernel
theorem dX7_weightOn_28 : decode cX7_weightOn 28 = .ok (.bipush 7, 2) := by decide +kernel
theorem dX7_weightOn_30 : decode cX7_weightOn 30 = .ok (.iload_n 1, 1) := by decide +kernel
theorem dX7_weightOn_31 : decode cX7_weightOn 31 = .ok (.imul, 1) := by decide +kernel
theorem dX7_weightOn_32 : decode cX7_weightOn 32 = .ok (.iload 4, 2) := by decide +kernel
theorem dX7_weightOn_34 : decode cX7_weightOn 34 = .ok (.iadd, 1) := by decide +kernel
theorem dX7_weightOn_35 : decode cX7_weightOn 35 = .ok (.iaload, 1) := by decide +kernel
theorem dX7_weightOn_36 : decode cX7_weightOn 36 = .ok (.iadd, 1) := by decide +kernel
theorem dX7_weightOn_37 : decode cX7_weightOn 37 = .ok (.istore 5, 2) := by decide +kernel
theorem dX7_weightOn_39 : decode cX7_weightOn 39 = .ok (.iconst 4, 1) := by decide +kernel
theorem dX7_weightOn_40 : decode cX7_weightOn 40 = .ok (.istore 6, 2) := by decide +kernel
theorem dX7_weightOn_42 : decode cX7_weightOn 42 = .ok (.iload 6, 2) := by decide +kernel
theorem dX7_weightOn_44 : decode cX7_weightOn 44 = .ok (.bipush 7, 2) := by decide +kernel
theorem dX7_weightOn_46 : decode cX7_weightOn 46 = .ok (.if_icmp .ge 41, 3) := by decide +kernel
theorem dX7_weightOn_49 : decode cX7_weightOn 49 = .ok (.iload 5, 2) := by decide +kernel
theorem dX7_weightOn_51 : decode cX7_weightOn 51 = .ok (.iload 6, 2) := by decide +kernel
theorem dX7_weightOn_53 : decode cX7_weightOn 53 = .ok (.iload_n 3, 1) := by decide +kernel
theorem dX7_weightOn_54 : decode cX7_weightOn 54 = .ok (.iload 4, 2) := by decide +kernel
theorem dX7_weightOn_56 : decode cX7_weightOn 56 = .ok (.invokestatic 33, 3) := by decide +kernel
theorem dX7_weightOn_59 : decode cX7_weightOn 59 = .ok (.if_icmp .ne 7, 3) := by decide +kernel
theorem dX7_weightOn_62 : decode cX7_weightOn 62 = .ok (.iconst 0, 1) := by decide +kernel
theorem dX7_weightOn_63 : decode cX7_weightOn 63 = .ok (.goto 15, 3) := by decide +kernel
theorem dX7_weightOn_66 : decode cX7_weightOn 66 = .ok (.aload_n 0, 1) := by decide +kernel
theorem dX7_weightOn_67 : decode cX7_weightOn 67 = .ok (.getfield 9, 3) := by decide +kernel
theorem dX7_weightOn_70 : decode cX7_weightOn 70 = .ok (.bipush 7, 2) := by decide +kernel
theorem dX7_weightOn_72 : decode cX7_weightOn 72 = .ok (.iload_n 1, 1) := by decide +kernel
theorem dX7_weightOn_73 : decode cX7_weightOn 73 = .ok (.imul, 1) := by decide +kernel
theorem dX7_weightOn_74 : decode cX7_weightOn 74 = .ok (.iload 6, 2) := by decide +kernel
theorem dX7_weightOn_76 : decode cX7_weightOn 76 = .ok (.iadd, 1) := by decide +kernel
theorem dX7_weightOn_77 : decode cX7_weightOn 77 = .ok (.iaload, 1) := by decide +kernel
theorem dX7_weightOn_78 : decode cX7_weightOn 78 = .ok (.iadd, 1) := by decide +kernel
theorem dX7_weightOn_79 : decode cX7_weightOn 79 = .ok (.istore 5, 2) := by decide +kernel
theorem dX7_weightOn_81 : decode cX7_weightOn 81 = .ok (.iinc 6 1, 3) := by decide +kernel
theorem dX7_weightOn_84 : decode cX7_weightOn 84 = .ok (.goto (-42), 3) := by decide +kernel
theorem dX7_weightOn_87 : decode cX7_weightOn 87 = .ok (.iload 5, 2) := by decide +kernel
theorem dX7_weightOn_89 : decode cX7_weightOn 89 = .ok (.ireturn, 1) := by decide +kernel
theorem dX8_init_0 : decode cX8_init 0 = .ok (.aload_n 0, 1) := by decide +kernel
theorem dX8_init_1 : decode cX8_init 1 = .ok (.invokespecial 1, 3) := by decide +kernel
theorem dX8_init_4 : decode cX8_init 4 = .ok (.aload_n 0, 1) := by decide +kernel
theorem dX8_init_5 : decode cX8_init 5 = .ok (.new 7, 3) := by decide +kernel
theorem dX8_init_8 : decode cX8_init 8 = .ok (.dup, 1) := by decide +kernel
theorem dX8_init_9 : decode cX8_init 9 = .ok (.bipush 12, 2) := by decide +kernel
theorem dX8_init_11 : decode cX8_init 11 = .ok (.invokespecial 11, 3) := by decide +kernel
theorem dX8_init_14 : decode cX8_init 14 = .ok (.putfield 14, 3) := by decide +kernel
theorem dX8_init_17 : decode cX8_init 17 = .ok (.aload_n 0, 1) := by decide +kernel
theorem dX8_init_18 : decode cX8_init 18 = .ok (.new 7, 3) := by decide +kernel
theorem dX8_init_21 : decode cX8_init 21 = .ok (.dup, 1) := by decide +kernel
theorem dX8_init_22 : decode cX8_init 22 = .ok (.bipush 18, 2) := by decide +kernel
theorem dX8_init_24 : decode cX8_init 24 = .ok (.invokespecial 11, 3) := by decide +kernel
theorem dX8_init_27 : decode cX8_init 27 = .ok (.putfield 20, 3) := by decide +kernel
theorem dX8_init_30 : decode cX8_init 30 = .ok (.aload_n 0, 1) := by decide +kernel
theorem dX8_init_31 : decode cX8_init 31 = .ok (.new 7, 3) := by decide +kernel
theorem dX8_init_34 : decode cX8_init 34 = .ok (.dup, 1) := by decide +kernel
theorem dX8_init_35 : decode cX8_init 35 = .ok (.bipush 48, 2) := by decide +kernel
theorem dX8_init_37 : decode cX8_init 37 = .ok (.invokespecial 11, 3) := by decide +kernel
theorem dX8_init_40 : decode cX8_init 40 = .ok (.putfield 23, 3) := by decide +kernel
theorem dX8_init_43 : decode cX8_init 43 = .ok (.aload_n 0, 1) := by decide +kernel
theorem dX8_init_44 : decode cX8_init 44 = .ok (.bipush 12, 2) := by decide +kernel
theorem dX8_init_46 : decode cX8_init 46 = .ok (.newarray .int, 2) := by decide +kernel
theorem dX8_init_48 : decode cX8_init 48 = .ok (.putfield 26, 3) := by decide +kernel
theorem dX8_init_51 : decode cX8_init 51 = .ok (.aload_n 0, 1) := by decide +kernel
theorem dX8_init_52 : decode cX8_init 52 = .ok (.bipush 18, 2) := by decide +kernel
theorem dX8_init_54 : decode cX8_init 54 = .ok (.newarray .int, 2) := by decide +kernel
theorem dX8_init_56 : decode cX8_init 56 = .ok (.putfield 30, 3) := by decide +kernel
theorem dX8_init_59 : decode cX8_init 59 = .ok (.aload_n 0, 1) := by decide +kernel
theorem dX8_init_60 : decode cX8_init 60 = .ok (.bipush 18, 2) := by decide +kernel
theorem dX8_init_62 : decode cX8_init 62 = .ok (.newarray .int, 2) := by decide +kernel
theorem dX8_init_64 : decode cX8_init 64 = .ok (.putfield 33, 3) := by decide +kernel
theorem dX8_init_67 : decode cX8_init 67 = .ok (.aload_n 0, 1) := by decide +kernel
theorem dX8_init_68 : decode cX8_init 68 = .ok (.bipush 18, 2) := by decide +kernel
theorem dX8_init_70 : decode cX8_init 70 = .ok (.newarray .int, 2) := by decide +kernel
theorem dX8_init_72 : decode cX8_init 72 = .ok (.putfield 36, 3) := by decide +kernel
theorem dX8_init_75 : decode cX8_init 75 = .ok (.return_, 1) := by decide +kernel
theorem dX8_read_0 : decode cX8_read 0 = .ok (.aload_n 0, 1) := by decide +kernel
theorem dX8_read_1 : decode cX8_read 1 = .ok (.getfield 14, 3) := by decide +kernel
theorem dX8_read_4 : decode cX8_read 4 = .ok (.iconst 4, 1) := by decide +kernel
theorem dX8_read_5 : decode cX8_read 5 = .ok (.aload_n 1, 1) := by decide +kernel
theorem dX8_read_6 : decode cX8_read 6 = .ok (.getfield 39, 3) := by decide +kernel
theorem dX8_read_9 : decode cX8_read 9 = .ok (.imul, 1) := by decide +kernel
theorem dX8_read_10 : decode cX8_read 10 = .ok (.invokevirtual 45, 3) := by decide +kernel
theorem dX8_read_13 : decode cX8_read 13 = .ok (.aload_n 0, 1) := by decide +kernel
theorem dX8_read_14 : decode cX8_read 14 = .ok (.getfield 20, 3) := by decide +kernel
theorem dX8_read_17 : decode cX8_read 17 = .ok (.bipush 6, 2) := by decide +kernel
theorem dX8_read_19 : decode cX8_read 19 = .ok (.aload_n 1, 1) := by decide +kernel
theorem dX8_read_20 : decode cX8_read 20 = .ok (.getfield 39, 3) := by decide +kernel
theorem dX8_read_23 : decode cX8_read 23 = .ok (.imul, 1) := by decide +kernel
theorem dX8_read_24 : decode cX8_read 24 = .ok (.invokevirtual 45, 3) := by decide +kernel
theorem dX8_read_27 : decode cX8_read 27 = .ok (.aload_n 0, 1) := by decide +kernel
theorem dX8_read_28 : decode cX8_read 28 = .ok (.getfield 23, 3) := by decide +kernel
theorem dX8_read_31 : decode cX8_read 31 = .ok (.bipush 16, 2) := by decide +kernel
theorem dX8_read_33 : decode cX8_read 33 = .ok (.aload_n 1, 1) := by decide +kernel
theorem dX8_read_34 : decode cX8_read 34 = .ok (.getfield 39, 3) := by decide +kernel
theorem dX8_read_37 : decode cX8_read 37 = .ok (.imul, 1) := by decide +kernel
theorem dX8_read_38 : decode cX8_read 38 = .ok (.invokevirtual 45, 3) := by decide +kernel
theorem dX8_read_41 : decode cX8_read 41 = .ok (.iconst 0, 1) := by decide +kernel
theorem dX8_read_42 : decode cX8_read 42 = .ok (.istore_n 2, 1) := by decide +kernel
theorem dX8_read_43 : decode cX8_read 43 = .ok (.iload_n 2, 1) := by decide +kernel
theorem dX8_read_44 : decode cX8_read 44 = .ok (.aload_n 1, 1) := by decide +kernel
theorem dX8_read_45 : decode cX8_read 45 = .ok (.invokevirtual 48, 3) := by decide +kernel
theorem dX8_read_48 : decode cX8_read 48 = .ok (.if_icmp .ge 23, 3) := by decide +kernel
theorem dX8_read_51 : decode cX8_read 51 = .ok (.aload_n 1, 1) := by decide +kernel
theorem dX8_read_52 : decode cX8_read 52 = .ok (.iload_n 2, 1) := by decide +kernel
theorem dX8_read_53 : decode cX8_read 53 = .ok (.invokevirtual 52, 3) := by decide +kernel
theorem dX8_read_56 : decode cX8_read 56 = .ok (.ifCond .eq 9, 3) := by decide +kernel
theorem dX8_read_59 : decode cX8_read 59 = .ok (.aload_n 0, 1) := by decide +kernel
theorem dX8_read_60 : decode cX8_read 60 = .ok (.aload_n 1, 1) := by decide +kernel
theorem dX8_read_61 : decode cX8_read 61 = .ok (.iload_n 2, 1) := by decide +kernel
theorem dX8_read_62 : decode cX8_read 62 = .ok (.invokevirtual 56, 3) := by decide +kernel
theorem dX8_read_65 : decode cX8_read 65 = .ok (.iinc 2 1, 3) := by decide +kernel
theorem dX8_read_68 : decode cX8_read 68 = .ok (.goto (-25), 3) := by decide +kernel
theorem dX8_read_71 : decode cX8_read 71 = .ok (.aload_n 0, 1) := by decide +kernel
theorem dX8_read_72 : decode cX8_read 72 = .ok (.aload_n 0, 1) := by decide +kernel
theorem dX8_read_73 : decode cX8_read 73 = .ok (.getfield 14, 3) := by decide +kernel
theorem dX8_read_76 : decode cX8_read 76 = .ok (.aload_n 0, 1) := by decide +kernel
theorem dX8_read_77 : decode cX8_read 77 = .ok (.getfield 26, 3) := by decide +kernel
theorem dX8_read_80 : decode cX8_read 80 = .ok (.invokevirtual 60, 3) := by decide +kernel
theorem dX8_read_83 : decode cX8_read 83 = .ok (.putfield 64, 3) := by decide +kernel
theorem dX8_read_86 : decode cX8_read 86 = .ok (.aload_n 0, 1) := by decide +kernel
theorem dX8_read_87 : decode cX8_read 87 = .ok (.aload_n 0, 1) := by decide +kernel
theorem dX8_read_88 : decode cX8_read 88 = .ok (.getfield 20, 3) := by decide +kernel
theorem dX8_read_91 : decode cX8_read 91 = .ok (.aload_n 0, 1) := by decide +kernel
theorem dX8_read_92 : decode cX8_read 92 = .ok (.getfield 30, 3) := by decide +kernel
theorem dX8_read_95 : decode cX8_read 95 = .ok (.invokevirtual 60, 3) := by decide +kernel
theorem dX8_read_98 : decode cX8_read 98 = .ok (.putfield 67, 3) := by decide +kernel
theorem dX8_read_101 : decode cX8_read 101 = .ok (.aload_n 0, 1) := by decide +kernel
theorem dX8_read_102 : decode cX8_read 102 = .ok (.bipush 6, 2) := by decide +kernel
theorem dX8_read_104 : decode cX8_read 104 = .ok (.aload_n 1, 1) := by decide +kernel
theorem dX8_read_105 : decode cX8_read 105 = .ok (.getfield 39, 3) := by decide +kernel
theorem dX8_read_108 : decode cX8_read 108 = .ok (.imul, 1) := by decide +kernel
theorem dX8_read_109 : decode cX8_read 109 = .ok (.invokevirtual 70, 3) := by decide +kernel
theorem dX8_read_112 : decode cX8_read 112 = .ok (.return_, 1) := by decide +kernel
theorem dX8_joinFaces_0 : decode cX8_joinFaces 0 = .ok (.iload_n 2, 1) := by decide +kernel
theorem dX8_joinFaces_1 : decode cX8_joinFaces 1 = .ok (.iconst 4, 1) := by decide +kernel
theorem dX8_joinFaces_2 : decode cX8_joinFaces 2 = .ok (.irem, 1) := by decide +kernel
theorem dX8_joinFaces_3 : decode cX8_joinFaces 3 = .ok (.istore_n 3, 1) := by decide +kernel
theorem dX8_joinFaces_4 : decode cX8_joinFaces 4 = .ok (.iconst 0, 1) := by decide +kernel
theorem dX8_joinFaces_5 : decode cX8_joinFaces 5 = .ok (.istore 4, 2) := by decide +kernel
theorem dX8_joinFaces_7 : decode cX8_joinFaces 7 = .ok (.iload 4, 2) := by decide +kernel
theorem dX8_joinFaces_9 : decode cX8_joinFaces 9 = .ok (.iconst 4, 1) := by decide +kernel
theorem dX8_joinFaces_10 : decode cX8_joinFaces 10 = .ok (.if_icmp .ge 101, 3) := by decide +kernel
theorem dX8_joinFaces_13 : decode cX8_joinFaces 13 = .ok (.iload_n 2, 1) := by decide +kernel
theorem dX8_joinFaces_14 : decode cX8_joinFaces 14 = .ok (.iload_n 3, 1) := by decide +kernel
theorem dX8_joinFaces_15 : decode cX8_joinFaces 15 = .ok (.isub, 1) := by decide +kernel
theorem dX8_joinFaces_16 : decode cX8_joinFaces 16 = .ok (.iload 4, 2) := by decide +kernel
theorem dX8_joinFaces_18 : decode cX8_joinFaces 18 = .ok (.iadd, 1) := by decide +kernel
theorem dX8_joinFaces_19 : decode cX8_joinFaces 19 = .ok (.istore 5, 2) := by decide +kernel
theorem dX8_joinFaces_21 : decode cX8_joinFaces 21 = .ok (.aload_n 1, 1) := by decide +kernel
theorem dX8_joinFaces_22 : decode cX8_joinFaces 22 = .ok (.iload_n 2, 1) := by decide +kernel
theorem dX8_joinFaces_23 : decode cX8_joinFaces 23 = .ok (.iload 4, 2) := by decide +kernel
theorem dX8_joinFaces_25 : decode cX8_joinFaces 25 = .ok (.invokevirtual 73, 3) := by decide +kernel
theorem dX8_joinFaces_28 : decode cX8_joinFaces 28 = .ok (.istore 6, 2) := by decide +kernel
theorem dX8_joinFaces_30 : decode cX8_joinFaces 30 = .ok (.iload 6, 2) := by decide +kernel
theorem dX8_joinFaces_32 : decode cX8_joinFaces 32 = .ok (.ifCond .ge 6, 3) := by decide +kernel
theorem dX8_joinFaces_35 : decode cX8_joinFaces 35 = .ok (.goto 70, 3) := by decide +kernel
theorem dX8_joinFaces_38 : decode cX8_joinFaces 38 = .ok (.aload_n 0, 1) := by decide +kernel
theorem dX8_joinFaces_39 : decode cX8_joinFaces 39 = .ok (.getfield 14, 3) := by decide +kernel
theorem dX8_joinFaces_42 : decode cX8_joinFaces 42 = .ok (.iload 5, 2) := by decide +kernel
theorem dX8_joinFaces_44 : decode cX8_joinFaces 44 = .ok (.iload 6, 2) := by decide +kernel
theorem dX8_joinFaces_46 : decode cX8_joinFaces 46 = .ok (.invokevirtual 77, 3) := by decide +kernel
theorem dX8_joinFaces_49 : decode cX8_joinFaces 49 = .ok (.iconst 0, 1) := by decide +kernel
theorem dX8_joinFaces_50 : decode cX8_joinFaces 50 = .ok (.istore 7, 2) := by decide +kernel
theorem dX8_joinFaces_52 : decode cX8_joinFaces 52 = .ok (.iload 7, 2) := by decide +kernel
theorem dX8_joinFaces_54 : decode cX8_joinFaces 54 = .ok (.iconst 4, 1) := by decide +kernel
theorem dX8_joinFaces_55 : decode cX8_joinFaces 55 = .ok (.if_icmp .ge 50, 3) := by decide +kernel
theorem dX8_joinFaces_58 : decode cX8_joinFaces 58 = .ok (.aload_n 1, 1) := by decide +kernel
theorem dX8_joinFaces_59 : decode cX8_joinFaces 59 = .ok (.iload_n 2, 1) := by decide +kernel
theorem dX8_joinFaces_60 : decode cX8_joinFaces 60 = .ok (.iload 7, 2) := by decide +kernel
theorem dX8_joinFaces_62 : decode cX8_joinFaces 62 = .ok (.invokevirtual 73, 3) := by decide +kernel
theorem dX8_joinFaces_65 : decode cX8_joinFaces 65 = .ok (.istore 8, 2) := by decide +kernel
theorem dX8_joinFaces_67 : decode cX8_joinFaces 67 = .ok (.iload 7, 2) := by decide +kernel
theorem dX8_joinFaces_69 : decode cX8_joinFaces 69 = .ok (.iload 4, 2) := by decide +kernel
theorem dX8_joinFaces_71 : decode cX8_joinFaces 71 = .ok (.if_icmp .eq 28, 3) := by decide +kernel
theorem dX8_joinFaces_74 : decode cX8_joinFaces 74 = .ok (.iload 8, 2) := by decide +kernel
theorem dX8_joinFaces_76 : decode cX8_joinFaces 76 = .ok (.ifCond .lt 23, 3) := by decide +kernel
theorem dX8_joinFaces_79 : decode cX8_joinFaces 79 = .ok (.aload_n 0, 1) := by decide +kernel
theorem dX8_joinFaces_80 : decode cX8_joinFaces 80 = .ok (.iconst 4, 1) := by decide +kernel
theorem dX8_joinFaces_81 : decode cX8_joinFaces 81 = .ok (.iload 5, 2) := by decide +kernel
theorem dX8_joinFaces_83 : decode cX8_joinFaces 83 = .ok (.imul, 1) := by decide +kernel
theorem dX8_joinFaces_84 : decode cX8_joinFaces 84 = .ok (.iload 7, 2) := by decide +kernel
theorem dX8_joinFaces_86 : decode cX8_joinFaces 86 = .ok (.iadd, 1) := by decide +kernel
theorem dX8_joinFaces_87 : decode cX8_joinFaces 87 = .ok (.iconst 4, 1) := by decide +kernel
theorem dX8_joinFaces_88 : decode cX8_joinFaces 88 = .ok (.iload 6, 2) := by decide +kernel
theorem dX8_joinFaces_90 : decode cX8_joinFaces 90 = .ok (.imul, 1) := by decide +kernel
theorem dX8_joinFaces_91 : decode cX8_joinFaces 91 = .ok (.iload 8, 2) := by decide +kernel
theorem dX8_joinFaces_93 : decode cX8_joinFaces 93 = .ok (.iconst 4, 1) := by decide +kernel
theorem dX8_joinFaces_94 : decode cX8_joinFaces 94 = .ok (.irem, 1) := by decide +kernel
theorem dX8_joinFaces_95 : decode cX8_joinFaces 95 = .ok (.iadd, 1) := by decide +kernel
theorem dX8_joinFaces_96 : decode cX8_joinFaces 96 = .ok (.invokevirtual 81, 3) := by decide +kernel
theorem dX8_joinFaces_99 : decode cX8_joinFaces 99 = .ok (.iinc 7 1, 3) := by decide +kernel
theorem dX8_joinFaces_102 : decode cX8_joinFaces 102 = .ok (.goto (-50), 3) := by decide +kernel
theorem dX8_joinFaces_105 : decode cX8_joinFaces 105 = .ok (.iinc 4 1, 3) := by decide +kernel
theorem dX8_joinFaces_108 : decode cX8_joinFaces 108 = .ok (.goto (-101), 3) := by decide +kernel
theorem dX8_joinFaces_111 : decode cX8_joinFaces 111 = .ok (.return_, 1) := by decide +kernel
theorem dX8_joinArrows_0 : decode cX8_joinArrows 0 = .ok (.aload_n 0, 1) := by decide +kernel
theorem dX8_joinArrows_1 : decode cX8_joinArrows 1 = .ok (.getfield 23, 3) := by decide +kernel
theorem dX8_joinArrows_4 : decode cX8_joinArrows 4 = .ok (.iload_n 1, 1) := by decide +kernel
theorem dX8_joinArrows_5 : decode cX8_joinArrows 5 = .ok (.iload_n 2, 1) := by decide +kernel
theorem dX8_joinArrows_6 : decode cX8_joinArrows 6 = .ok (.invokevirtual 77, 3) := by decide +kernel
theorem dX8_joinArrows_9 : decode cX8_joinArrows 9 = .ok (.aload_n 0, 1) := by decide +kernel
theorem dX8_joinArrows_10 : decode cX8_joinArrows 10 = .ok (.getfield 20, 3) := by decide +kernel
theorem dX8_joinArrows_13 : decode cX8_joinArrows 13 = .ok (.iload_n 1, 1) := by decide +kernel
theorem dX8_joinArrows_14 : decode cX8_joinArrows 14 = .ok (.invokestatic 84, 3) := by decide +kernel
theorem dX8_joinArrows_17 : decode cX8_joinArrows 17 = .ok (.iload_n 2, 1) := by decide +kernel
theorem dX8_joinArrows_18 : decode cX8_joinArrows 18 = .ok (.invokestatic 84, 3) := by decide +kernel
theorem dX8_joinArrows_21 : decode cX8_joinArrows 21 = .ok (.invokevirtual 77, 3) := by decide +kernel
theorem dX8_joinArrows_24 : decode cX8_joinArrows 24 = .ok (.return_, 1) := by decide +kernel
theorem dX8_edgeOf_0 : decode cX8_edgeOf 0 = .ok (.bipush 6, 2) := by decide +kernel
theorem dX8_edgeOf_2 : decode cX8_edgeOf 2 = .ok (.iload_n 0, 1) := by decide +kernel
theorem dX8_edgeOf_3 : decode cX8_edgeOf 3 = .ok (.bipush 16, 2) := by decide +kernel
theorem dX8_edgeOf_5 : decode cX8_edgeOf 5 = .ok (.idiv, 1) := by decide +kernel
theorem dX8_edgeOf_6 : decode cX8_edgeOf 6 = .ok (.imul, 1) := by decide +kernel
theorem dX8_edgeOf_7 : decode cX8_edgeOf 7 = .ok (.getstatic 88, 3) := by decide +kernel
theorem dX8_edgeOf_10 : decode cX8_edgeOf 10 = .ok (.iload_n 0, 1) := by decide +kernel
theorem dX8_edgeOf_11 : decode cX8_edgeOf 11 = .ok (.bipush 16, 2) := by decide +kernel
theorem dX8_edgeOf_13 : decode cX8_edgeOf 13 = .ok (.irem, 1) := by decide +kernel
theorem dX8_edgeOf_14 : decode cX8_edgeOf 14 = .ok (.iaload, 1) := by decide +kernel
theorem dX8_edgeOf_15 : decode cX8_edgeOf 15 = .ok (.iadd, 1) := by decide +kernel
theorem dX8_edgeOf_16 : decode cX8_edgeOf 16 = .ok (.ireturn, 1) := by decide +kernel
theorem dX8_measureLines_0 : decode cX8_measureLines 0 = .ok (.aload_n 0, 1) := by decide +kernel
theorem dX8_measureLines_1 : decode cX8_measureLines 1 = .ok (.getfield 33, 3) := by decide +kernel
theorem dX8_measureLines_4 : decode cX8_measureLines 4 = .ok (.iconst 0, 1) := by decide +kernel
theorem dX8_measureLines_5 : decode cX8_measureLines 5 = .ok (.invokestatic 91, 3) := by decide +kernel
theorem dX8_measureLines_8 : decode cX8_measureLines 8 = .ok (.iload_n 1, 1) := by decide +kernel
theorem dX8_measureLines_9 : decode cX8_measureLines 9 = .ok (.iconst 1, 1) := by decide +kernel
theorem dX8_measureLines_10 : decode cX8_measureLines 10 = .ok (.isub, 1) := by decide +kernel
theorem dX8_measureLines_11 : decode cX8_measureLines 11 = .ok (.istore_n 2, 1) := by decide +kernel
theorem dX8_measureLines_12 : decode cX8_measureLines 12 = .ok (.iload_n 2, 1) := by decide +kernel
theorem dX8_measureLines_13 : decode cX8_measureLines 13 = .ok (.ifCond .lt 36, 3) := by decide +kernel
theorem dX8_measureLines_16 : decode cX8_measureLines 16 = .ok (.aload_n 0, 1) := by decide +kernel
theorem dX8_measureLines_17 : decode cX8_measureLines 17 = .ok (.getfield 33, 3) := by decide +kernel
theorem dX8_measureLines_20 : decode cX8_measureLines 20 = .ok (.aload_n 0, 1) := by decide +kernel
theorem dX8_measureLines_21 : decode cX8_measureLines 21 = .ok (.getfield 30, 3) := by decide +kernel
theorem dX8_measureLines_24 : decode cX8_measureLines 24 = .ok (.iload_n 2, 1) := by decide +kernel
theorem dX8_measureLines_25 : decode cX8_measureLines 25 = .ok (.iaload, 1) := by decide +kernel
theorem dX8_measureLines_26 : decode cX8_measureLines 26 = .ok (.dup2, 1) := by decide +kernel
theorem dX8_measureLines_27 : decode cX8_measureLines 27 = .ok (.iaload, 1) := by decide +kernel
theorem dX8_measureLines_28 : decode cX8_measureLines 28 = .ok (.iconst 1, 1) := by decide +kernel
theorem dX8_measureLines_29 : decode cX8_measureLines 29 = .ok (.iadd, 1) := by decide +kernel
theorem dX8_measureLines_30 : decode cX8_measureLines 30 = .ok (.iastore, 1) := by decide +kernel
theorem dX8_measureLines_31 : decode cX8_measureLines 31 = .ok (.aload_n 0, 1) := by decide +kernel
theorem dX8_measureLines_32 : decode cX8_measureLines 32 = .ok (.getfield 36, 3) := by decide +kernel
theorem dX8_measureLines_35 : decode cX8_measureLines 35 = .ok (.aload_n 0, 1) := by decide +kernel
theorem dX8_measureLines_36 : decode cX8_measureLines 36 = .ok (.getfield 30, 3) := by decide +kernel
theorem dX8_measureLines_39 : decode cX8_measureLines 39 = .ok (.iload_n 2, 1) := by decide +kernel
theorem dX8_measureLines_40 : decode cX8_measureLines 40 = .ok (.iaload, 1) := by decide +kernel
theorem dX8_measureLines_41 : decode cX8_measureLines 41 = .ok (.iload_n 2, 1) := by decide +kernel
theorem dX8_measureLines_42 : decode cX8_measureLines 42 = .ok (.iastore, 1) := by decide +kernel
theorem dX8_measureLines_43 : decode cX8_measureLines 43 = .ok (.iinc 2 (-1), 3) := by decide +kernel
theorem dX8_measureLines_46 : decode cX8_measureLines 46 = .ok (.goto (-34), 3) := by decide +kernel
theorem dX8_measureLines_49 : decode cX8_measureLines 49 = .ok (.return_, 1) := by decide +kernel
theorem dX8_isReversed_0 : decode cX8_isReversed 0 = .ok (.aload_n 0, 1) := by decide +kernel
theorem dX8_isReversed_1 : decode cX8_isReversed 1 = .ok (.getfield 36, 3) := by decide +kernel
theorem dX8_isReversed_4 : decode cX8_isReversed 4 = .ok (.iload_n 1, 1) := by decide +kernel
theorem dX8_isReversed_5 : decode cX8_isReversed 5 = .ok (.iaload, 1) := by decide +kernel
theorem dX8_isReversed_6 : decode cX8_isReversed 6 = .ok (.istore_n 2, 1) := by decide +kernel
theorem dX8_isReversed_7 : decode cX8_isReversed 7 = .ok (.bipush 16, 2) := by decide +kernel
theorem dX8_isReversed_9 : decode cX8_isReversed 9 = .ok (.iload_n 2, 1) := by decide +kernel
theorem dX8_isReversed_10 : decode cX8_isReversed 10 = .ok (.bipush 6, 2) := by decide +kernel
theorem dX8_isReversed_12 : decode cX8_isReversed 12 = .ok (.idiv, 1) := by decide +kernel
theorem dX8_isReversed_13 : decode cX8_isReversed 13 = .ok (.imul, 1) := by decide +kernel
theorem dX8_isReversed_14 : decode cX8_isReversed 14 = .ok (.istore_n 3, 1) := by decide +kernel
theorem dX8_isReversed_15 : decode cX8_isReversed 15 = .ok (.getstatic 97, 3) := by decide +kernel
theorem dX8_isReversed_18 : decode cX8_isReversed 18 = .ok (.iload_n 2, 1) := by decide +kernel
theorem dX8_isReversed_19 : decode cX8_isReversed 19 = .ok (.bipush 6, 2) := by decide +kernel
theorem dX8_isReversed_21 : decode cX8_isReversed 21 = .ok (.irem, 1) := by decide +kernel
theorem dX8_isReversed_22 : decode cX8_isReversed 22 = .ok (.iaload, 1) := by decide +kernel
theorem dX8_isReversed_23 : decode cX8_isReversed 23 = .ok (.istore 4, 2) := by decide +kernel
theorem dX8_isReversed_25 : decode cX8_isReversed 25 = .ok (.getstatic 100, 3) := by decide +kernel
theorem dX8_isReversed_28 : decode cX8_isReversed 28 = .ok (.iload_n 2, 1) := by decide +kernel
theorem dX8_isReversed_29 : decode cX8_isReversed 29 = .ok (.bipush 6, 2) := by decide +kernel
theorem dX8_isReversed_31 : decode cX8_isReversed 31 = .ok (.irem, 1) := by decide +kernel
theorem dX8_isReversed_32 : decode cX8_isReversed 32 = .ok (.iaload, 1) := by decide +kernel
theorem dX8_isReversed_33 : decode cX8_isReversed 33 = .ok (.istore 5, 2) := by decide +kernel
theorem dX8_isReversed_35 : decode cX8_isReversed 35 = .ok (.aload_n 0, 1) := by decide +kernel
theorem dX8_isReversed_36 : decode cX8_isReversed 36 = .ok (.getfield 23, 3) := by decide +kernel
theorem dX8_isReversed_39 : decode cX8_isReversed 39 = .ok (.iload_n 3, 1) := by decide +kernel
theorem dX8_isReversed_40 : decode cX8_isReversed 40 = .ok (.iconst 4, 1) := by decide +kernel
theorem dX8_isReversed_41 : decode cX8_isReversed 41 = .ok (.iload 4, 2) := by decide +kernel
theorem dX8_isReversed_43 : decode cX8_isReversed 43 = .ok (.imul, 1) := by decide +kernel
theorem dX8_isReversed_44 : decode cX8_isReversed 44 = .ok (.iadd, 1) := by decide +kernel
theorem dX8_isReversed_45 : decode cX8_isReversed 45 = .ok (.iload 5, 2) := by decide +kernel
theorem dX8_isReversed_47 : decode cX8_isReversed 47 = .ok (.iadd, 1) := by decide +kernel
theorem dX8_isReversed_48 : decode cX8_isReversed 48 = .ok (.invokevirtual 103, 3) := by decide +kernel
theorem dX8_isReversed_51 : decode cX8_isReversed 51 = .ok (.aload_n 0, 1) := by decide +kernel
theorem dX8_isReversed_52 : decode cX8_isReversed 52 = .ok (.getfield 23, 3) := by decide +kernel
theorem dX8_isReversed_55 : decode cX8_isReversed 55 = .ok (.iload_n 3, 1) := by decide +kernel
theorem dX8_isReversed_56 : decode cX8_isReversed 56 = .ok (.iconst 4, 1) := by decide +kernel
theorem dX8_isReversed_57 : decode cX8_isReversed 57 = .ok (.iload 5, 2) := by decide +kernel
theorem dX8_isReversed_59 : decode cX8_isReversed 59 = .ok (.imul, 1) := by decide +kernel
theorem dX8_isReversed_60 : decode cX8_isReversed 60 = .ok (.iadd, 1) := by decide +kernel
theorem dX8_isReversed_61 : decode cX8_isReversed 61 = .ok (.iload 4, 2) := by decide +kernel
theorem dX8_isReversed_63 : decode cX8_isReversed 63 = .ok (.iadd, 1) := by decide +kernel
theorem dX8_isReversed_64 : decode cX8_isReversed 64 = .ok (.invokevirtual 103, 3) := by decide +kernel
theorem dX8_isReversed_67 : decode cX8_isReversed 67 = .ok (.if_icmp .ne 7, 3) := by decide +kernel
theorem dX8_isReversed_70 : decode cX8_isReversed 70 = .ok (.iconst 1, 1) := by decide +kernel
theorem dX8_isReversed_71 : decode cX8_isReversed 71 = .ok (.goto 4, 3) := by decide +kernel
theorem dX8_isReversed_74 : decode cX8_isReversed 74 = .ok (.iconst 0, 1) := by decide +kernel
theorem dX8_isReversed_75 : decode cX8_isReversed 75 = .ok (.ireturn, 1) := by decide +kernel
theorem dX8_reversedLines_0 : decode cX8_reversedLines 0 = .ok (.iconst 0, 1) := by decide +kernel
theorem dX8_reversedLines_1 : decode cX8_reversedLines 1 = .ok (.istore_n 1, 1) := by decide +kernel
theorem dX8_reversedLines_2 : decode cX8_reversedLines 2 = .ok (.iconst 0, 1) := by decide +kernel
theorem dX8_reversedLines_3 : decode cX8_reversedLines 3 = .ok (.istore_n 2, 1) := by decide +kernel
theorem dX8_reversedLines_4 : decode cX8_reversedLines 4 = .ok (.iload_n 2, 1) := by decide +kernel
theorem dX8_reversedLines_5 : decode cX8_reversedLines 5 = .ok (.aload_n 0, 1) := by decide +kernel
theorem dX8_reversedLines_6 : decode cX8_reversedLines 6 = .ok (.getfield 67, 3) := by decide +kernel
theorem dX8_reversedLines_9 : decode cX8_reversedLines 9 = .ok (.if_icmp .ge 25, 3) := by decide +kernel
theorem dX8_reversedLines_12 : decode cX8_reversedLines 12 = .ok (.iload_n 1, 1) := by decide +kernel
theorem dX8_reversedLines_13 : decode cX8_reversedLines 13 = .ok (.aload_n 0, 1) := by decide +kernel
theorem dX8_reversedLines_14 : decode cX8_reversedLines 14 = .ok (.iload_n 2, 1) := by decide +kernel
theorem dX8_reversedLines_15 : decode cX8_reversedLines 15 = .ok (.invokevirtual 106, 3) := by decide +kernel
theorem dX8_reversedLines_18 : decode cX8_reversedLines 18 = .ok (.ifCond .eq 7, 3) := by decide +kernel
theorem dX8_reversedLines_21 : decode cX8_reversedLines 21 = .ok (.iconst 1, 1) := by decide +kernel
theorem dX8_reversedLines_22 : decode cX8_reversedLines 22 = .ok (.goto 4, 3) := by decide +kernel
theorem dX8_reversedLines_25 : decode cX8_reversedLines 25 = .ok (.iconst 0, 1) := by decide +kernel
theorem dX8_reversedLines_26 : decode cX8_reversedLines 26 = .ok (.iadd, 1) := by decide +kernel
theorem dX8_reversedLines_27 : decode cX8_reversedLines 27 = .ok (.istore_n 1, 1) := by decide +kernel
theorem dX8_reversedLines_28 : decode cX8_reversedLines 28 = .ok (.iinc 2 1, 3) := by decide +kernel
theorem dX8_reversedLines_31 : decode cX8_reversedLines 31 = .ok (.goto (-27), 3) := by decide +kernel
theorem dX8_reversedLines_34 : decode cX8_reversedLines 34 = .ok (.iload_n 1, 1) := by decide +kernel
theorem dX8_reversedLines_35 : decode cX8_reversedLines 35 = .ok (.ireturn, 1) := by decide +kernel
theorem dX9_init_0 : decode cX9_init 0 = .ok (.aload_n 0, 1) := by decide +kernel
theorem dX9_init_1 : decode cX9_init 1 = .ok (.invokespecial 3, 3) := by decide +kernel
theorem dX9_init_4 : decode cX9_init 4 = .ok (.aload_n 0, 1) := by decide +kernel
theorem dX9_init_5 : decode cX9_init 5 = .ok (.new 9, 3) := by decide +kernel
theorem dX9_init_8 : decode cX9_init 8 = .ok (.dup, 1) := by decide +kernel
theorem dX9_init_9 : decode cX9_init 9 = .ok (.invokespecial 11, 3) := by decide +kernel
theorem dX9_init_12 : decode cX9_init 12 = .ok (.putfield 12, 3) := by decide +kernel
theorem dX9_init_15 : decode cX9_init 15 = .ok (.aload_n 0, 1) := by decide +kernel
theorem dX9_init_16 : decode cX9_init 16 = .ok (.new 18, 3) := by decide +kernel
theorem dX9_init_19 : decode cX9_init 19 = .ok (.dup, 1) := by decide +kernel
theorem dX9_init_20 : decode cX9_init 20 = .ok (.invokespecial 20, 3) := by decide +kernel
theorem dX9_init_23 : decode cX9_init 23 = .ok (.putfield 21, 3) := by decide +kernel
theorem dX9_init_26 : decode cX9_init 26 = .ok (.aload_n 0, 1) := by decide +kernel
theorem dX9_init_27 : decode cX9_init 27 = .ok (.new 25, 3) := by decide +kernel
theorem dX9_init_30 : decode cX9_init 30 = .ok (.dup, 1) := by decide +kernel
theorem dX9_init_31 : decode cX9_init 31 = .ok (.invokespecial 27, 3) := by decide +kernel
theorem dX9_init_34 : decode cX9_init 34 = .ok (.putfield 28, 3) := by decide +kernel
theorem dX9_init_37 : decode cX9_init 37 = .ok (.aload_n 0, 1) := by decide +kernel
theorem dX9_init_38 : decode cX9_init 38 = .ok (.new 32, 3) := by decide +kernel
theorem dX9_init_41 : decode cX9_init 41 = .ok (.dup, 1) := by decide +kernel
theorem dX9_init_42 : decode cX9_init 42 = .ok (.sipush 420, 3) := by decide +kernel
theorem dX9_init_45 : decode cX9_init 45 = .ok (.invokespecial 36, 3) := by decide +kernel
theorem dX9_init_48 : decode cX9_init 48 = .ok (.putfield 39, 3) := by decide +kernel
theorem dX9_init_51 : decode cX9_init 51 = .ok (.aload_n 0, 1) := by decide +kernel
theorem dX9_init_52 : decode cX9_init 52 = .ok (.new 32, 3) := by decide +kernel
theorem dX9_init_55 : decode cX9_init 55 = .ok (.dup, 1) := by decide +kernel
theorem dX9_init_56 : decode cX9_init 56 = .ok (.sipush 840, 3) := by decide +kernel
theorem dX9_init_59 : decode cX9_init 59 = .ok (.invokespecial 36, 3) := by decide +kernel
theorem dX9_init_62 : decode cX9_init 62 = .ok (.putfield 43, 3) := by decide +kernel
theorem dX9_init_65 : decode cX9_init 65 = .ok (.aload_n 0, 1) := by decide +kernel
theorem dX9_init_66 : decode cX9_init 66 = .ok (.bipush 21, 2) := by decide +kernel
theorem dX9_init_68 : decode cX9_init 68 = .ok (.newarray .int, 2) := by decide +kernel
theorem dX9_init_70 : decode cX9_init 70 = .ok (.putfield 46, 3) := by decide +kernel
theorem dX9_init_73 : decode cX9_init 73 = .ok (.aload_n 0, 1) := by decide +kernel
theorem dX9_init_74 : decode cX9_init 74 = .ok (.new 50, 3) := by decide +kernel
theorem dX9_init_77 : decode cX9_init 77 = .ok (.dup, 1) := by decide +kernel
theorem dX9_init_78 : decode cX9_init 78 = .ok (.invokespecial 52, 3) := by decide +kernel
theorem dX9_init_81 : decode cX9_init 81 = .ok (.putfield 53, 3) := by decide +kernel
theorem dX9_init_84 : decode cX9_init 84 = .ok (.aload_n 0, 1) := by decide +kernel
theorem dX9_init_85 : decode cX9_init 85 = .ok (.new 50, 3) := by decide +kernel
theorem dX9_init_88 : decode cX9_init 88 = .ok (.dup, 1) := by decide +kernel
theorem dX9_init_89 : decode cX9_init 89 = .ok (.invokespecial 52, 3) := by decide +kernel
theorem dX9_init_92 : decode cX9_init 92 = .ok (.putfield 57, 3) := by decide +kernel
theorem dX9_init_95 : decode cX9_init 95 = .ok (.aload_n 0, 1) := by decide +kernel
theorem dX9_init_96 : decode cX9_init 96 = .ok (.bipush 21, 2) := by decide +kernel
theorem dX9_init_98 : decode cX9_init 98 = .ok (.newarray .int, 2) := by decide +kernel
theorem dX9_init_100 : decode cX9_init 100 = .ok (.putfield 60, 3) := by decide +kernel
theorem dX9_init_103 : decode cX9_init 103 = .ok (.return_, 1) := by decide +kernel
theorem dX9_matches_0 : decode cX9_matches 0 = .ok (.aload_n 0, 1) := by decide +kernel
theorem dX9_matches_1 : decode cX9_matches 1 = .ok (.getfield 28, 3) := by decide +kernel
theorem dX9_matches_4 : decode cX9_matches 4 = .ok (.aload_n 0, 1) := by decide +kernel
theorem dX9_matches_5 : decode cX9_matches 5 = .ok (.getfield 12, 3) := by decide +kernel
theorem dX9_matches_8 : decode cX9_matches 8 = .ok (.aload_n 1, 1) := by decide +kernel
theorem dX9_matches_9 : decode cX9_matches 9 = .ok (.invokevirtual 63, 3) := by decide +kernel
theorem dX9_matches_12 : decode cX9_matches 12 = .ok (.aload_n 0, 1) := by decide +kernel
theorem dX9_matches_13 : decode cX9_matches 13 = .ok (.getfield 28, 3) := by decide +kernel
theorem dX9_matches_16 : decode cX9_matches 16 = .ok (.aload_n 1, 1) := by decide +kernel
theorem dX9_matches_17 : decode cX9_matches 17 = .ok (.invokevirtual 67, 3) := by decide +kernel
theorem dX9_matches_20 : decode cX9_matches 20 = .ok (.ireturn, 1) := by decide +kernel
theorem dX9_isNormal_0 : decode cX9_isNormal 0 = .ok (.aload_n 1, 1) := by decide +kernel
theorem dX9_isNormal_1 : decode cX9_isNormal 1 = .ok (.invokevirtual 71, 3) := by decide +kernel
theorem dX9_isNormal_4 : decode cX9_isNormal 4 = .ok (.ifCond .ne 15, 3) := by decide +kernel
theorem dX9_isNormal_7 : decode cX9_isNormal 7 = .ok (.aload_n 0, 1) := by decide +kernel
theorem dX9_isNormal_8 : decode cX9_isNormal 8 = .ok (.aload_n 1, 1) := by decide +kernel
theorem dX9_isNormal_9 : decode cX9_isNormal 9 = .ok (.invokevirtual 75, 3) := by decide +kernel
theorem dX9_isNormal_12 : decode cX9_isNormal 12 = .ok (.ifCond .eq 7, 3) := by decide +kernel
theorem dX9_isNormal_15 : decode cX9_isNormal 15 = .ok (.iconst 1, 1) := by decide +kernel
theorem dX9_isNormal_16 : decode cX9_isNormal 16 = .ok (.goto 4, 3) := by decide +kernel
theorem dX9_isNormal_19 : decode cX9_isNormal 19 = .ok (.iconst 0, 1) := by decide +kernel
theorem dX9_isNormal_20 : decode cX9_isNormal 20 = .ok (.ireturn, 1) := by decide +kernel
theorem dX9_ofNormal_0 : decode cX9_ofNormal 0 = .ok (.iload_n 2, 1) := by decide +kernel
theorem dX9_ofNormal_1 : decode cX9_ofNormal 1 = .ok (.tableswitch 67 3 8 #[39, 67, 49, 67, 55, 61], 39) := by decide +kernel
theorem dX9_ofNormal_40 : decode cX9_ofNormal 40 = .ok (.aload_n 0, 1) := by decide +kernel
theorem dX9_ofNormal_41 : decode cX9_ofNormal 41 = .ok (.aload_n 1, 1) := by decide +kernel
theorem dX9_ofNormal_42 : decode cX9_ofNormal 42 = .ok (.invokevirtual 78, 3) := by decide +kernel
theorem dX9_ofNormal_45 : decode cX9_ofNormal 45 = .ok (.sipush 1000, 3) := by decide +kernel
theorem dX9_ofNormal_48 : decode cX9_ofNormal 48 = .ok (.iadd, 1) := by decide +kernel
theorem dX9_ofNormal_49 : decode cX9_ofNormal 49 = .ok (.ireturn, 1) := by decide +kernel
theorem dX9_ofNormal_50 : decode cX9_ofNormal 50 = .ok (.aload_n 0, 1) := by decide +kernel
theorem dX9_ofNormal_51 : decode cX9_ofNormal 51 = .ok (.aload_n 1, 1) := by decide +kernel
theorem dX9_ofNormal_52 : decode cX9_ofNormal 52 = .ok (.invokevirtual 82, 3) := by decide +kernel
theorem dX9_ofNormal_55 : decode cX9_ofNormal 55 = .ok (.ireturn, 1) := by decide +kernel
theorem dX9_ofNormal_56 : decode cX9_ofNormal 56 = .ok (.aload_n 0, 1) := by decide +kernel
theorem dX9_ofNormal_57 : decode cX9_ofNormal 57 = .ok (.aload_n 1, 1) := by decide +kernel
theorem dX9_ofNormal_58 : decode cX9_ofNormal 58 = .ok (.invokevirtual 85, 3) := by decide +kernel
theorem dX9_ofNormal_61 : decode cX9_ofNormal 61 = .ok (.ireturn, 1) := by decide +kernel
theorem dX9_ofNormal_62 : decode cX9_ofNormal 62 = .ok (.aload_n 0, 1) := by decide +kernel
theorem dX9_ofNormal_63 : decode cX9_ofNormal 63 = .ok (.aload_n 1, 1) := by decide +kernel
theorem dX9_ofNormal_64 : decode cX9_ofNormal 64 = .ok (.invokevirtual 88, 3) := by decide +kernel
theorem dX9_ofNormal_67 : decode cX9_ofNormal 67 = .ok (.ireturn, 1) := by decide +kernel
theorem dX9_ofNormal_68 : decode cX9_ofNormal 68 = .ok (.aload_n 0, 1) := by decide +kernel
theorem dX9_ofNormal_69 : decode cX9_ofNormal 69 = .ok (.aload_n 1, 1) := by decide +kernel
theorem dX9_ofNormal_70 : decode cX9_ofNormal 70 = .ok (.invokevirtual 91, 3) := by decide +kernel
theorem dX9_ofNormal_73 : decode cX9_ofNormal 73 = .ok (.iload_n 2, 1) := by decide +kernel
theorem dX9_ofNormal_74 : decode cX9_ofNormal 74 = .ok (.iconst 4, 1) := by decide +kernel
theorem dX9_ofNormal_75 : decode cX9_ofNormal 75 = .ok (.if_icmp .ne 10, 3) := by decide +kernel
theorem dX9_ofNormal_78 : decode cX9_ofNormal 78 = .ok (.aload_n 0, 1) := by decide +kernel
theorem dX9_ofNormal_79 : decode cX9_ofNormal 79 = .ok (.getfield 95, 3) := by decide +kernel
theorem dX9_ofNormal_82 : decode cX9_ofNormal 82 = .ok (.goto 7, 3) := by decide +kernel
theorem dX9_ofNormal_85 : decode cX9_ofNormal 85 = .ok (.aload_n 0, 1) := by decide +kernel
theorem dX9_ofNormal_86 : decode cX9_ofNormal 86 = .ok (.getfield 99, 3) := by decide +kernel
theorem dX9_ofNormal_89 : decode cX9_ofNormal 89 = .ok (.ireturn, 1) := by decide +kernel
theorem dX9_characteristic_0 : decode cX9_characteristic 0 = .ok (.aload_n 1, 1) := by decide +kernel
theorem dX9_characteristic_1 : decode cX9_characteristic 1 = .ok (.invokevirtual 102, 3) := by decide +kernel
theorem dX9_characteristic_4 : decode cX9_characteristic 4 = .ok (.istore_n 2, 1) := by decide +kernel
theorem dX9_characteristic_5 : decode cX9_characteristic 5 = .ok (.iconst 0, 1) := by decide +kernel
theorem dX9_characteristic_6 : decode cX9_characteristic 6 = .ok (.istore_n 3, 1) := by decide +kernel
theorem dX9_characteristic_7 : decode cX9_characteristic 7 = .ok (.iload_n 3, 1) := by decide +kernel
theorem dX9_characteristic_8 : decode cX9_characteristic 8 = .ok (.aload_n 0, 1) := by decide +kernel
theorem dX9_characteristic_9 : decode cX9_characteristic 9 = .ok (.getfield 21, 3) := by decide +kernel
theorem dX9_characteristic_12 : decode cX9_characteristic 12 = .ok (.getfield 106, 3) := by decide +kernel
theorem dX9_characteristic_15 : decode cX9_characteristic 15 = .ok (.if_icmp .ge 37, 3) := by decide +kernel
theorem dX9_characteristic_18 : decode cX9_characteristic 18 = .ok (.aload_n 0, 1) := by decide +kernel
theorem dX9_characteristic_19 : decode cX9_characteristic 19 = .ok (.getfield 21, 3) := by decide +kernel
theorem dX9_characteristic_22 : decode cX9_characteristic 22 = .ok (.getfield 109, 3) := by decide +kernel
theorem dX9_characteristic_25 : decode cX9_characteristic 25 = .ok (.iload_n 3, 1) := by decide +kernel
theorem dX9_characteristic_26 : decode cX9_characteristic 26 = .ok (.iaload, 1) := by decide +kernel
theorem dX9_characteristic_27 : decode cX9_characteristic 27 = .ok (.istore 4, 2) := by decide +kernel
theorem dX9_characteristic_29 : decode cX9_characteristic 29 = .ok (.iload_n 2, 1) := by decide +kernel
theorem dX9_characteristic_30 : decode cX9_characteristic 30 = .ok (.aload_n 1, 1) := by decide +kernel
theorem dX9_characteristic_31 : decode cX9_characteristic 31 = .ok (.iload 4, 2) := by decide +kernel
theorem dX9_characteristic_33 : decode cX9_characteristic 33 = .ok (.bipush 6, 2) := by decide +kernel
theorem dX9_characteristic_35 : decode cX9_characteristic 35 = .ok (.idiv, 1) := by decide +kernel
theorem dX9_characteristic_36 : decode cX9_characteristic 36 = .ok (.iload 4, 2) := by decide +kernel
theorem dX9_characteristic_38 : decode cX9_characteristic 38 = .ok (.bipush 6, 2) := by decide +kernel
theorem dX9_characteristic_40 : decode cX9_characteristic 40 = .ok (.irem, 1) := by decide +kernel
theorem dX9_characteristic_41 : decode cX9_characteristic 41 = .ok (.invokevirtual 112, 3) := by decide +kernel
theorem dX9_characteristic_44 : decode cX9_characteristic 44 = .ok (.iadd, 1) := by decide +kernel
theorem dX9_characteristic_45 : decode cX9_characteristic 45 = .ok (.istore_n 2, 1) := by decide +kernel
theorem dX9_characteristic_46 : decode cX9_characteristic 46 = .ok (.iinc 3 1, 3) := by decide +kernel
theorem dX9_characteristic_49 : decode cX9_characteristic 49 = .ok (.goto (-42), 3) := by decide +kernel
theorem dX9_characteristic_52 : decode cX9_characteristic 52 = .ok (.iconst 0, 1) := by decide +kernel
theorem dX9_characteristic_53 : decode cX9_characteristic 53 = .ok (.istore_n 3, 1) := by decide +kernel
theorem dX9_characteristic_54 : decode cX9_characteristic 54 = .ok (.iload_n 3, 1) := by decide +kernel
theorem dX9_characteristic_55 : decode cX9_characteristic 55 = .ok (.aload_n 0, 1) := by decide +kernel
theorem dX9_characteristic_56 : decode cX9_characteristic 56 = .ok (.getfield 12, 3) := by decide +kernel
theorem dX9_characteristic_59 : decode cX9_characteristic 59 = .ok (.invokevirtual 116, 3) := by decide +kernel
theorem dX9_characteristic_62 : decode cX9_characteristic 62 = .ok (.if_icmp .ge 45, 3) := by decide +kernel
theorem dX9_characteristic_65 : decode cX9_characteristic 65 = .ok (.aload_n 0, 1) := by decide +kernel
theorem dX9_characteristic_66 : decode cX9_characteristic 66 = .ok (.getfield 12, 3) := by decide +kernel
theorem dX9_characteristic_69 : decode cX9_characteristic 69 = .ok (.getfield 119, 3) := by decide +kernel
theorem dX9_characteristic_72 : decode cX9_characteristic 72 = .ok (.iload_n 3, 1) := by decide +kernel
theorem dX9_characteristic_73 : decode cX9_characteristic 73 = .ok (.iaload, 1) := by decide +kernel
theorem dX9_characteristic_74 : decode cX9_characteristic 74 = .ok (.ifCond .lt 14, 3) := by decide +kernel
theorem dX9_characteristic_77 : decode cX9_characteristic 77 = .ok (.aload_n 0, 1) := by decide +kernel
theorem dX9_characteristic_78 : decode cX9_characteristic 78 = .ok (.getfield 12, 3) := by decide +kernel
theorem dX9_characteristic_81 : decode cX9_characteristic 81 = .ok (.iload_n 3, 1) := by decide +kernel
theorem dX9_characteristic_82 : decode cX9_characteristic 82 = .ok (.invokevirtual 122, 3) := by decide +kernel
theorem dX9_characteristic_85 : decode cX9_characteristic 85 = .ok (.ifCond .eq 16, 3) := by decide +kernel
theorem dX9_characteristic_88 : decode cX9_characteristic 88 = .ok (.iload_n 2, 1) := by decide +kernel
theorem dX9_characteristic_89 : decode cX9_characteristic 89 = .ok (.aload_n 1, 1) := by decide +kernel
theorem dX9_characteristic_90 : decode cX9_characteristic 90 = .ok (.iload_n 3, 1) := by decide +kernel
theorem dX9_characteristic_91 : decode cX9_characteristic 91 = .ok (.iconst 4, 1) := by decide +kernel
theorem dX9_characteristic_92 : decode cX9_characteristic 92 = .ok (.idiv, 1) := by decide +kernel
theorem dX9_characteristic_93 : decode cX9_characteristic 93 = .ok (.iload_n 3, 1) := by decide +kernel
theorem dX9_characteristic_94 : decode cX9_characteristic 94 = .ok (.iconst 4, 1) := by decide +kernel
theorem dX9_characteristic_95 : decode cX9_characteristic 95 = .ok (.irem, 1) := by decide +kernel
theorem dX9_characteristic_96 : decode cX9_characteristic 96 = .ok (.invokevirtual 126, 3) := by decide +kernel
theorem dX9_characteristic_99 : decode cX9_characteristic 99 = .ok (.isub, 1) := by decide +kernel
theorem dX9_characteristic_100 : decode cX9_characteristic 100 = .ok (.istore_n 2, 1) := by decide +kernel
theorem dX9_characteristic_101 : decode cX9_characteristic 101 = .ok (.iinc 3 1, 3) := by decide +kernel
theorem dX9_characteristic_104 : decode cX9_characteristic 104 = .ok (.goto (-50), 3) := by decide +kernel
theorem dX9_characteristic_107 : decode cX9_characteristic 107 = .ok (.iload_n 2, 1) := by decide +kernel
theorem dX9_characteristic_108 : decode cX9_characteristic 108 = .ok (.ireturn, 1) := by decide +kernel
theorem dX9_boundary_0 : decode cX9_boundary 0 = .ok (.iconst 0, 1) := by decide +kernel
theorem dX9_boundary_1 : decode cX9_boundary 1 = .ok (.istore_n 2, 1) := by decide +kernel
theorem dX9_boundary_2 : decode cX9_boundary 2 = .ok (.iconst 0, 1) := by decide +kernel
theorem dX9_boundary_3 : decode cX9_boundary 3 = .ok (.istore_n 3, 1) := by decide +kernel
theorem dX9_boundary_4 : decode cX9_boundary 4 = .ok (.iload_n 3, 1) := by decide +kernel
theorem dX9_boundary_5 : decode cX9_boundary 5 = .ok (.aload_n 0, 1) := by decide +kernel
theorem dX9_boundary_6 : decode cX9_boundary 6 = .ok (.getfield 12, 3) := by decide +kernel
theorem dX9_boundary_9 : decode cX9_boundary 9 = .ok (.invokevirtual 116, 3) := by decide +kernel
theorem dX9_boundary_12 : decode cX9_boundary 12 = .ok (.if_icmp .ge 38, 3) := by decide +kernel
theorem dX9_boundary_15 : decode cX9_boundary 15 = .ok (.iload_n 2, 1) := by decide +kernel
theorem dX9_boundary_16 : decode cX9_boundary 16 = .ok (.aload_n 0, 1) := by decide +kernel
theorem dX9_boundary_17 : decode cX9_boundary 17 = .ok (.getfield 12, 3) := by decide +kernel
theorem dX9_boundary_20 : decode cX9_boundary 20 = .ok (.getfield 119, 3) := by decide +kernel
theorem dX9_boundary_23 : decode cX9_boundary 23 = .ok (.iload_n 3, 1) := by decide +kernel
theorem dX9_boundary_24 : decode cX9_boundary 24 = .ok (.iaload, 1) := by decide +kernel
theorem dX9_boundary_25 : decode cX9_boundary 25 = .ok (.ifCond .ge 16, 3) := by decide +kernel
theorem dX9_boundary_28 : decode cX9_boundary 28 = .ok (.aload_n 1, 1) := by decide +kernel
theorem dX9_boundary_29 : decode cX9_boundary 29 = .ok (.iload_n 3, 1) := by decide +kernel
theorem dX9_boundary_30 : decode cX9_boundary 30 = .ok (.iconst 4, 1) := by decide +kernel
theorem dX9_boundary_31 : decode cX9_boundary 31 = .ok (.idiv, 1) := by decide +kernel
theorem dX9_boundary_32 : decode cX9_boundary 32 = .ok (.iload_n 3, 1) := by decide +kernel
theorem dX9_boundary_33 : decode cX9_boundary 33 = .ok (.iconst 4, 1) := by decide +kernel
theorem dX9_boundary_34 : decode cX9_boundary 34 = .ok (.irem, 1) := by decide +kernel
theorem dX9_boundary_35 : decode cX9_boundary 35 = .ok (.invokevirtual 126, 3) := by decide +kernel
theorem dX9_boundary_38 : decode cX9_boundary 38 = .ok (.goto 4, 3) := by decide +kernel
theorem dX9_boundary_41 : decode cX9_boundary 41 = .ok (.iconst 0, 1) := by decide +kernel
theorem dX9_boundary_42 : decode cX9_boundary 42 = .ok (.iadd, 1) := by decide +kernel
theorem dX9_boundary_43 : decode cX9_boundary 43 = .ok (.istore_n 2, 1) := by decide +kernel
theorem dX9_boundary_44 : decode cX9_boundary 44 = .ok (.iinc 3 1, 3) := by decide +kernel
theorem dX9_boundary_47 : decode cX9_boundary 47 = .ok (.goto (-43), 3) := by decide +kernel
theorem dX9_boundary_50 : decode cX9_boundary 50 = .ok (.iload_n 2, 1) := by decide +kernel
theorem dX9_boundary_51 : decode cX9_boundary 51 = .ok (.ireturn, 1) := by decide +kernel
theorem dX9_type_0 : decode cX9_type 0 = .ok (.aload_n 0, 1) := by decide +kernel
theorem dX9_type_1 : decode cX9_type 1 = .ok (.aload_n 1, 1) := by decide +kernel
theorem dX9_type_2 : decode cX9_type 2 = .ok (.invokevirtual 91, 3) := by decide +kernel
theorem dX9_type_5 : decode cX9_type 5 = .ok (.aload_n 0, 1) := by decide +kernel
theorem dX9_type_6 : decode cX9_type 6 = .ok (.getfield 95, 3) := by decide +kernel
theorem dX9_type_9 : decode cX9_type 9 = .ok (.iconst 1, 1) := by decide +kernel
theorem dX9_type_10 : decode cX9_type 10 = .ok (.if_icmp .eq 5, 3) := by decide +kernel
theorem dX9_type_13 : decode cX9_type 13 = .ok (.iconst 0, 1) := by decide +kernel
theorem dX9_type_14 : decode cX9_type 14 = .ok (.ireturn, 1) := by decide +kernel
theorem dX9_type_15 : decode cX9_type 15 = .ok (.aload_n 0, 1) := by decide +kernel
theorem dX9_type_16 : decode cX9_type 16 = .ok (.aload_n 1, 1) := by decide +kernel
theorem dX9_type_17 : decode cX9_type 17 = .ok (.invokevirtual 82, 3) := by decide +kernel
theorem dX9_type_20 : decode cX9_type 20 = .ok (.ifCond .le 5, 3) := by decide +kernel
theorem dX9_type_23 : decode cX9_type 23 = .ok (.iconst 1, 1) := by decide +kernel
theorem dX9_type_24 : decode cX9_type 24 = .ok (.ireturn, 1) := by decide +kernel
theorem dX9_type_25 : decode cX9_type 25 = .ok (.aload_n 0, 1) := by decide +kernel
theorem dX9_type_26 : decode cX9_type 26 = .ok (.aload_n 1, 1) := by decide +kernel
theorem dX9_type_27 : decode cX9_type 27 = .ok (.invokevirtual 78, 3) := by decide +kernel
theorem dX9_type_30 : decode cX9_type 30 = .ok (.tableswitch 44 0 2 #[30, 28, 26], 26) := by decide +kernel
theorem dX9_type_56 : decode cX9_type 56 = .ok (.iconst 2, 1) := by decide +kernel
theorem dX9_type_57 : decode cX9_type 57 = .ok (.ireturn, 1) := by decide +kernel
theorem dX9_type_58 : decode cX9_type 58 = .ok (.iconst 3, 1) := by decide +kernel
theorem dX9_type_59 : decode cX9_type 59 = .ok (.ireturn, 1) := by decide +kernel
theorem dX9_type_60 : decode cX9_type 60 = .ok (.aload_n 0, 1) := by decide +kernel
theorem dX9_type_61 : decode cX9_type 61 = .ok (.getfield 99, 3) := by decide +kernel
theorem dX9_type_64 : decode cX9_type 64 = .ok (.iconst 1, 1) := by decide +kernel
theorem dX9_type_65 : decode cX9_type 65 = .ok (.if_icmp .ne 7, 3) := by decide +kernel
theorem dX9_type_68 : decode cX9_type 68 = .ok (.iconst 4, 1) := by decide +kernel
theorem dX9_type_69 : decode cX9_type 69 = .ok (.goto 4, 3) := by decide +kernel
theorem dX9_type_72 : decode cX9_type 72 = .ok (.iconst 5, 1) := by decide +kernel
theorem dX9_type_73 : decode cX9_type 73 = .ok (.ireturn, 1) := by decide +kernel
theorem dX9_type_74 : decode cX9_type 74 = .ok (.bipush 6, 2) := by decide +kernel
theorem dX9_type_76 : decode cX9_type 76 = .ok (.ireturn, 1) := by decide +kernel
theorem dX9_trace_0 : decode cX9_trace 0 = .ok (.iconst 0, 1) := by decide +kernel
theorem dX9_trace_1 : decode cX9_trace 1 = .ok (.istore_n 2, 1) := by decide +kernel
theorem dX9_trace_2 : decode cX9_trace 2 = .ok (.iconst 0, 1) := by decide +kernel
theorem dX9_trace_3 : decode cX9_trace 3 = .ok (.istore_n 3, 1) := by decide +kernel
theorem dX9_trace_4 : decode cX9_trace 4 = .ok (.iload_n 3, 1) := by decide +kernel
theorem dX9_trace_5 : decode cX9_trace 5 = .ok (.bipush 21, 2) := by decide +kernel
theorem dX9_trace_7 : decode cX9_trace 7 = .ok (.if_icmp .ge 25, 3) := by decide +kernel
theorem dX9_trace_10 : decode cX9_trace 10 = .ok (.aload_n 0, 1) := by decide +kernel
theorem dX9_trace_11 : decode cX9_trace 11 = .ok (.getfield 46, 3) := by decide +kernel
theorem dX9_trace_14 : decode cX9_trace 14 = .ok (.iload_n 3, 1) := by decide +kernel
theorem dX9_trace_15 : decode cX9_trace 15 = .ok (.iload_n 2, 1) := by decide +kernel
theorem dX9_trace_16 : decode cX9_trace 16 = .ok (.iastore, 1) := by decide +kernel
theorem dX9_trace_17 : decode cX9_trace 17 = .ok (.iload_n 2, 1) := by decide +kernel
theorem dX9_trace_18 : decode cX9_trace 18 = .ok (.aload_n 1, 1) := by decide +kernel
theorem dX9_trace_19 : decode cX9_trace 19 = .ok (.getfield 129, 3) := by decide +kernel
theorem dX9_trace_22 : decode cX9_trace 22 = .ok (.iload_n 3, 1) := by decide +kernel
theorem dX9_trace_23 : decode cX9_trace 23 = .ok (.iaload, 1) := by decide +kernel
theorem dX9_trace_24 : decode cX9_trace 24 = .ok (.iadd, 1) := by decide +kernel
theorem dX9_trace_25 : decode cX9_trace 25 = .ok (.istore_n 2, 1) := by decide +kernel
theorem dX9_trace_26 : decode cX9_trace 26 = .ok (.iinc 3 1, 3) := by decide +kernel
theorem dX9_trace_29 : decode cX9_trace 29 = .ok (.goto (-25), 3) := by decide +kernel
theorem dX9_trace_32 : decode cX9_trace 32 = .ok (.aload_n 0, 1) := by decide +kernel
theorem dX9_trace_33 : decode cX9_trace 33 = .ok (.getfield 39, 3) := by decide +kernel
theorem dX9_trace_36 : decode cX9_trace 36 = .ok (.iload_n 2, 1) := by decide +kernel
theorem dX9_trace_37 : decode cX9_trace 37 = .ok (.invokevirtual 132, 3) := by decide +kernel
theorem dX9_trace_40 : decode cX9_trace 40 = .ok (.aload_n 0, 1) := by decide +kernel
theorem dX9_trace_41 : decode cX9_trace 41 = .ok (.getfield 43, 3) := by decide +kernel
theorem dX9_trace_44 : decode cX9_trace 44 = .ok (.iconst 2, 1) := by decide +kernel
theorem dX9_trace_45 : decode cX9_trace 45 = .ok (.iload_n 2, 1) := by decide +kernel
theorem dX9_trace_46 : decode cX9_trace 46 = .ok (.imul, 1) := by decide +kernel
theorem dX9_trace_47 : decode cX9_trace 47 = .ok (.invokevirtual 132, 3) := by decide +kernel
theorem dX9_trace_50 : decode cX9_trace 50 = .ok (.iconst 0, 1) := by decide +kernel
theorem dX9_trace_51 : decode cX9_trace 51 = .ok (.istore_n 3, 1) := by decide +kernel
theorem dX9_trace_52 : decode cX9_trace 52 = .ok (.iload_n 3, 1) := by decide +kernel
theorem dX9_trace_53 : decode cX9_trace 53 = .ok (.aload_n 0, 1) := by decide +kernel
theorem dX9_trace_54 : decode cX9_trace 54 = .ok (.getfield 12, 3) := by decide +kernel
theorem dX9_trace_57 : decode cX9_trace 57 = .ok (.invokevirtual 116, 3) := by decide +kernel
theorem dX9_trace_60 : decode cX9_trace 60 = .ok (.if_icmp .ge 26, 3) := by decide +kernel
theorem dX9_trace_63 : decode cX9_trace 63 = .ok (.aload_n 0, 1) := by decide +kernel
theorem dX9_trace_64 : decode cX9_trace 64 = .ok (.getfield 12, 3) := by decide +kernel
theorem dX9_trace_67 : decode cX9_trace 67 = .ok (.iload_n 3, 1) := by decide +kernel
theorem dX9_trace_68 : decode cX9_trace 68 = .ok (.invokevirtual 122, 3) := by decide +kernel
theorem dX9_trace_71 : decode cX9_trace 71 = .ok (.ifCond .eq 9, 3) := by decide +kernel
theorem dX9_trace_74 : decode cX9_trace 74 = .ok (.aload_n 0, 1) := by decide +kernel
theorem dX9_trace_75 : decode cX9_trace 75 = .ok (.aload_n 1, 1) := by decide +kernel
theorem dX9_trace_76 : decode cX9_trace 76 = .ok (.iload_n 3, 1) := by decide +kernel
theorem dX9_trace_77 : decode cX9_trace 77 = .ok (.invokevirtual 135, 3) := by decide +kernel
theorem dX9_trace_80 : decode cX9_trace 80 = .ok (.iinc 3 1, 3) := by decide +kernel
theorem dX9_trace_83 : decode cX9_trace 83 = .ok (.goto (-31), 3) := by decide +kernel
theorem dX9_trace_86 : decode cX9_trace 86 = .ok (.aload_n 0, 1) := by decide +kernel
theorem dX9_trace_87 : decode cX9_trace 87 = .ok (.aload_n 0, 1) := by decide +kernel
theorem dX9_trace_88 : decode cX9_trace 88 = .ok (.getfield 39, 3) := by decide +kernel
theorem dX9_trace_91 : decode cX9_trace 91 = .ok (.invokevirtual 139, 3) := by decide +kernel
theorem dX9_trace_94 : decode cX9_trace 94 = .ok (.putfield 95, 3) := by decide +kernel
theorem dX9_trace_97 : decode cX9_trace 97 = .ok (.aload_n 0, 1) := by decide +kernel
theorem dX9_trace_98 : decode cX9_trace 98 = .ok (.aload_n 0, 1) := by decide +kernel
theorem dX9_trace_99 : decode cX9_trace 99 = .ok (.getfield 43, 3) := by decide +kernel
theorem dX9_trace_102 : decode cX9_trace 102 = .ok (.invokevirtual 139, 3) := by decide +kernel
theorem dX9_trace_105 : decode cX9_trace 105 = .ok (.aload_n 0, 1) := by decide +kernel
theorem dX9_trace_106 : decode cX9_trace 106 = .ok (.getfield 95, 3) := by decide +kernel
theorem dX9_trace_109 : decode cX9_trace 109 = .ok (.isub, 1) := by decide +kernel
theorem dX9_trace_110 : decode cX9_trace 110 = .ok (.putfield 99, 3) := by decide +kernel
theorem dX9_trace_113 : decode cX9_trace 113 = .ok (.return_, 1) := by decide +kernel
theorem dX9_joinPieces_0 : decode cX9_joinPieces 0 = .ok (.iconst 0, 1) := by decide +kernel
theorem dX9_joinPieces_1 : decode cX9_joinPieces 1 = .ok (.istore_n 3, 1) := by decide +kernel
theorem dX9_joinPieces_2 : decode cX9_joinPieces 2 = .ok (.iload_n 3, 1) := by decide +kernel
theorem dX9_joinPieces_3 : decode cX9_joinPieces 3 = .ok (.iconst 4, 1) := by decide +kernel
theorem dX9_joinPieces_4 : decode cX9_joinPieces 4 = .ok (.if_icmp .ge 131, 3) := by decide +kernel
theorem dX9_joinPieces_7 : decode cX9_joinPieces 7 = .ok (.aload_n 0, 1) := by decide +kernel
theorem dX9_joinPieces_8 : decode cX9_joinPieces 8 = .ok (.getfield 12, 3) := by decide +kernel
theorem dX9_joinPieces_11 : decode cX9_joinPieces 11 = .ok (.iload_n 2, 1) := by decide +kernel
theorem dX9_joinPieces_12 : decode cX9_joinPieces 12 = .ok (.iload_n 3, 1) := by decide +kernel
theorem dX9_joinPieces_13 : decode cX9_joinPieces 13 = .ok (.invokevirtual 142, 3) := by decide +kernel
theorem dX9_joinPieces_16 : decode cX9_joinPieces 16 = .ok (.istore 4, 2) := by decide +kernel
theorem dX9_joinPieces_18 : decode cX9_joinPieces 18 = .ok (.iload 4, 2) := by decide +kernel
theorem dX9_joinPieces_20 : decode cX9_joinPieces 20 = .ok (.ifCond .ge 6, 3) := by decide +kernel
theorem dX9_joinPieces_23 : decode cX9_joinPieces 23 = .ok (.goto 106, 3) := by decide +kernel
theorem dX9_joinPieces_26 : decode cX9_joinPieces 26 = .ok (.aload_n 1, 1) := by decide +kernel
theorem dX9_joinPieces_27 : decode cX9_joinPieces 27 = .ok (.iload_n 2, 1) := by decide +kernel
theorem dX9_joinPieces_28 : decode cX9_joinPieces 28 = .ok (.iconst 4, 1) := by decide +kernel
theorem dX9_joinPieces_29 : decode cX9_joinPieces 29 = .ok (.idiv, 1) := by decide +kernel
theorem dX9_joinPieces_30 : decode cX9_joinPieces 30 = .ok (.iload_n 2, 1) := by decide +kernel
theorem dX9_joinPieces_31 : decode cX9_joinPieces 31 = .ok (.iconst 4, 1) := by decide +kernel
theorem dX9_joinPieces_32 : decode cX9_joinPieces 32 = .ok (.irem, 1) := by decide +kernel
theorem dX9_joinPieces_33 : decode cX9_joinPieces 33 = .ok (.iload_n 3, 1) := by decide +kernel
theorem dX9_joinPieces_34 : decode cX9_joinPieces 34 = .ok (.invokevirtual 145, 3) := by decide +kernel
theorem dX9_joinPieces_37 : decode cX9_joinPieces 37 = .ok (.istore 5, 2) := by decide +kernel
theorem dX9_joinPieces_39 : decode cX9_joinPieces 39 = .ok (.iconst 0, 1) := by decide +kernel
theorem dX9_joinPieces_40 : decode cX9_joinPieces 40 = .ok (.istore 6, 2) := by decide +kernel
theorem dX9_joinPieces_42 : decode cX9_joinPieces 42 = .ok (.iload 6, 2) := by decide +kernel
theorem dX9_joinPieces_44 : decode cX9_joinPieces 44 = .ok (.iload 5, 2) := by decide +kernel
theorem dX9_joinPieces_46 : decode cX9_joinPieces 46 = .ok (.if_icmp .ge 83, 3) := by decide +kernel
theorem dX9_joinPieces_49 : decode cX9_joinPieces 49 = .ok (.aload_n 0, 1) := by decide +kernel
theorem dX9_joinPieces_50 : decode cX9_joinPieces 50 = .ok (.aload_n 1, 1) := by decide +kernel
theorem dX9_joinPieces_51 : decode cX9_joinPieces 51 = .ok (.iload_n 2, 1) := by decide +kernel
theorem dX9_joinPieces_52 : decode cX9_joinPieces 52 = .ok (.iload_n 3, 1) := by decide +kernel
theorem dX9_joinPieces_53 : decode cX9_joinPieces 53 = .ok (.iload 6, 2) := by decide +kernel
theorem dX9_joinPieces_55 : decode cX9_joinPieces 55 = .ok (.invokevirtual 149, 3) := by decide +kernel
theorem dX9_joinPieces_58 : decode cX9_joinPieces 58 = .ok (.istore 7, 2) := by decide +kernel
theorem dX9_joinPieces_60 : decode cX9_joinPieces 60 = .ok (.aload_n 0, 1) := by decide +kernel
theorem dX9_joinPieces_61 : decode cX9_joinPieces 61 = .ok (.aload_n 1, 1) := by decide +kernel
theorem dX9_joinPieces_62 : decode cX9_joinPieces 62 = .ok (.aload_n 0, 1) := by decide +kernel
theorem dX9_joinPieces_63 : decode cX9_joinPieces 63 = .ok (.getfield 12, 3) := by decide +kernel
theorem dX9_joinPieces_66 : decode cX9_joinPieces 66 = .ok (.getfield 119, 3) := by decide +kernel
theorem dX9_joinPieces_69 : decode cX9_joinPieces 69 = .ok (.iload_n 2, 1) := by decide +kernel
theorem dX9_joinPieces_70 : decode cX9_joinPieces 70 = .ok (.iaload, 1) := by decide +kernel
theorem dX9_joinPieces_71 : decode cX9_joinPieces 71 = .ok (.iload 4, 2) := by decide +kernel
theorem dX9_joinPieces_73 : decode cX9_joinPieces 73 = .ok (.iconst 4, 1) := by decide +kernel
theorem dX9_joinPieces_74 : decode cX9_joinPieces 74 = .ok (.irem, 1) := by decide +kernel
theorem dX9_joinPieces_75 : decode cX9_joinPieces 75 = .ok (.iload 6, 2) := by decide +kernel
theorem dX9_joinPieces_77 : decode cX9_joinPieces 77 = .ok (.invokevirtual 149, 3) := by decide +kernel
theorem dX9_joinPieces_80 : decode cX9_joinPieces 80 = .ok (.istore 8, 2) := by decide +kernel
theorem dX9_joinPieces_82 : decode cX9_joinPieces 82 = .ok (.aload_n 0, 1) := by decide +kernel
theorem dX9_joinPieces_83 : decode cX9_joinPieces 83 = .ok (.getfield 39, 3) := by decide +kernel
theorem dX9_joinPieces_86 : decode cX9_joinPieces 86 = .ok (.iload 7, 2) := by decide +kernel
theorem dX9_joinPieces_88 : decode cX9_joinPieces 88 = .ok (.iconst 2, 1) := by decide +kernel
theorem dX9_joinPieces_89 : decode cX9_joinPieces 89 = .ok (.idiv, 1) := by decide +kernel
theorem dX9_joinPieces_90 : decode cX9_joinPieces 90 = .ok (.iload 8, 2) := by decide +kernel
theorem dX9_joinPieces_92 : decode cX9_joinPieces 92 = .ok (.iconst 2, 1) := by decide +kernel
theorem dX9_joinPieces_93 : decode cX9_joinPieces 93 = .ok (.idiv, 1) := by decide +kernel
theorem dX9_joinPieces_94 : decode cX9_joinPieces 94 = .ok (.invokevirtual 153, 3) := by decide +kernel
theorem dX9_joinPieces_97 : decode cX9_joinPieces 97 = .ok (.aload_n 0, 1) := by decide +kernel
theorem dX9_joinPieces_98 : decode cX9_joinPieces 98 = .ok (.getfield 43, 3) := by decide +kernel
theorem dX9_joinPieces_101 : decode cX9_joinPieces 101 = .ok (.iload 7, 2) := by decide +kernel
theorem dX9_joinPieces_103 : decode cX9_joinPieces 103 = .ok (.iload 8, 2) := by decide +kernel
theorem dX9_joinPieces_105 : decode cX9_joinPieces 105 = .ok (.invokevirtual 153, 3) := by decide +kernel
theorem dX9_joinPieces_108 : decode cX9_joinPieces 108 = .ok (.aload_n 0, 1) := by decide +kernel
theorem dX9_joinPieces_109 : decode cX9_joinPieces 109 = .ok (.getfield 43, 3) := by decide +kernel
theorem dX9_joinPieces_112 : decode cX9_joinPieces 112 = .ok (.iload 7, 2) := by decide +kernel
theorem dX9_joinPieces_114 : decode cX9_joinPieces 114 = .ok (.iconst 1, 1) := by decide +kernel
theorem dX9_joinPieces_115 : decode cX9_joinPieces 115 = .ok (.ixor, 1) := by decide +kernel
theorem dX9_joinPieces_116 : decode cX9_joinPieces 116 = .ok (.iload 8, 2) := by decide +kernel
theorem dX9_joinPieces_118 : decode cX9_joinPieces 118 = .ok (.iconst 1, 1) := by decide +kernel
theorem dX9_joinPieces_119 : decode cX9_joinPieces 119 = .ok (.ixor, 1) := by decide +kernel
theorem dX9_joinPieces_120 : decode cX9_joinPieces 120 = .ok (.invokevirtual 153, 3) := by decide +kernel
theorem dX9_joinPieces_123 : decode cX9_joinPieces 123 = .ok (.iinc 6 1, 3) := by decide +kernel
theorem dX9_joinPieces_126 : decode cX9_joinPieces 126 = .ok (.goto (-84), 3) := by decide +kernel
theorem dX9_joinPieces_129 : decode cX9_joinPieces 129 = .ok (.iinc 3 1, 3) := by decide +kernel
theorem dX9_joinPieces_132 : decode cX9_joinPieces 132 = .ok (.goto (-130), 3) := by decide +kernel
theorem dX9_joinPieces_135 : decode cX9_joinPieces 135 = .ok (.return_, 1) := by decide +kernel
theorem dX9_sideAt_0 : decode cX9_sideAt 0 = .ok (.iload_n 2, 1) := by decide +kernel
theorem dX9_sideAt_1 : decode cX9_sideAt 1 = .ok (.iconst 4, 1) := by decide +kernel
theorem dX9_sideAt_2 : decode cX9_sideAt 2 = .ok (.idiv, 1) := by decide +kernel
theorem dX9_sideAt_3 : decode cX9_sideAt 3 = .ok (.istore 5, 2) := by decide +kernel
theorem dX9_sideAt_5 : decode cX9_sideAt 5 = .ok (.iload_n 2, 1) := by decide +kernel
theorem dX9_sideAt_6 : decode cX9_sideAt 6 = .ok (.iconst 4, 1) := by decide +kernel
theorem dX9_sideAt_7 : decode cX9_sideAt 7 = .ok (.irem, 1) := by decide +kernel
theorem dX9_sideAt_8 : decode cX9_sideAt 8 = .ok (.istore 6, 2) := by decide +kernel
theorem dX9_sideAt_10 : decode cX9_sideAt 10 = .ok (.aload_n 1, 1) := by decide +kernel
theorem dX9_sideAt_11 : decode cX9_sideAt 11 = .ok (.getfield 129, 3) := by decide +kernel
theorem dX9_sideAt_14 : decode cX9_sideAt 14 = .ok (.bipush 7, 2) := by decide +kernel
theorem dX9_sideAt_16 : decode cX9_sideAt 16 = .ok (.iload 5, 2) := by decide +kernel
theorem dX9_sideAt_18 : decode cX9_sideAt 18 = .ok (.imul, 1) := by decide +kernel
theorem dX9_sideAt_19 : decode cX9_sideAt 19 = .ok (.iload_n 3, 1) := by decide +kernel
theorem dX9_sideAt_20 : decode cX9_sideAt 20 = .ok (.iadd, 1) := by decide +kernel
theorem dX9_sideAt_21 : decode cX9_sideAt 21 = .ok (.iaload, 1) := by decide +kernel
theorem dX9_sideAt_22 : decode cX9_sideAt 22 = .ok (.istore 7, 2) := by decide +kernel
theorem dX9_sideAt_24 : decode cX9_sideAt 24 = .ok (.iload 4, 2) := by decide +kernel
theorem dX9_sideAt_26 : decode cX9_sideAt 26 = .ok (.iload 7, 2) := by decide +kernel
theorem dX9_sideAt_28 : decode cX9_sideAt 28 = .ok (.if_icmp .ge 21, 3) := by decide +kernel
theorem dX9_sideAt_31 : decode cX9_sideAt 31 = .ok (.iconst 2, 1) := by decide +kernel
theorem dX9_sideAt_32 : decode cX9_sideAt 32 = .ok (.aload_n 0, 1) := by decide +kernel
theorem dX9_sideAt_33 : decode cX9_sideAt 33 = .ok (.getfield 46, 3) := by decide +kernel
theorem dX9_sideAt_36 : decode cX9_sideAt 36 = .ok (.bipush 7, 2) := by decide +kernel
theorem dX9_sideAt_38 : decode cX9_sideAt 38 = .ok (.iload 5, 2) := by decide +kernel
theorem dX9_sideAt_40 : decode cX9_sideAt 40 = .ok (.imul, 1) := by decide +kernel
theorem dX9_sideAt_41 : decode cX9_sideAt 41 = .ok (.iload_n 3, 1) := by decide +kernel
theorem dX9_sideAt_42 : decode cX9_sideAt 42 = .ok (.iadd, 1) := by decide +kernel
theorem dX9_sideAt_43 : decode cX9_sideAt 43 = .ok (.iaload, 1) := by decide +kernel
theorem dX9_sideAt_44 : decode cX9_sideAt 44 = .ok (.iload 4, 2) := by decide +kernel
theorem dX9_sideAt_46 : decode cX9_sideAt 46 = .ok (.iadd, 1) := by decide +kernel
theorem dX9_sideAt_47 : decode cX9_sideAt 47 = .ok (.imul, 1) := by decide +kernel
theorem dX9_sideAt_48 : decode cX9_sideAt 48 = .ok (.ireturn, 1) := by decide +kernel
theorem dX9_sideAt_49 : decode cX9_sideAt 49 = .ok (.bipush 7, 2) := by decide +kernel
theorem dX9_sideAt_51 : decode cX9_sideAt 51 = .ok (.iload 5, 2) := by decide +kernel
theorem dX9_sideAt_53 : decode cX9_sideAt 53 = .ok (.imul, 1) := by decide +kernel
theorem dX9_sideAt_54 : decode cX9_sideAt 54 = .ok (.iload_n 3, 1) := by decide +kernel
theorem dX9_sideAt_55 : decode cX9_sideAt 55 = .ok (.iload 6, 2) := by decide +kernel
theorem dX9_sideAt_57 : decode cX9_sideAt 57 = .ok (.invokestatic 157, 3) := by decide +kernel
theorem dX9_sideAt_60 : decode cX9_sideAt 60 = .ok (.iadd, 1) := by decide +kernel
theorem dX9_sideAt_61 : decode cX9_sideAt 61 = .ok (.istore 8, 2) := by decide +kernel
theorem dX9_sideAt_63 : decode cX9_sideAt 63 = .ok (.iload 4, 2) := by decide +kernel
theorem dX9_sideAt_65 : decode cX9_sideAt 65 = .ok (.iload 7, 2) := by decide +kernel
theorem dX9_sideAt_67 : decode cX9_sideAt 67 = .ok (.isub, 1) := by decide +kernel
theorem dX9_sideAt_68 : decode cX9_sideAt 68 = .ok (.istore 9, 2) := by decide +kernel
theorem dX9_sideAt_70 : decode cX9_sideAt 70 = .ok (.iload_n 3, 1) := by decide +kernel
theorem dX9_sideAt_71 : decode cX9_sideAt 71 = .ok (.ifCond .eq 8, 3) := by decide +kernel
theorem dX9_sideAt_74 : decode cX9_sideAt 74 = .ok (.iload 6, 2) := by decide +kernel
theorem dX9_sideAt_76 : decode cX9_sideAt 76 = .ok (.ifCond .ne 16, 3) := by decide +kernel
theorem dX9_sideAt_79 : decode cX9_sideAt 79 = .ok (.iconst 2, 1) := by decide +kernel
theorem dX9_sideAt_80 : decode cX9_sideAt 80 = .ok (.aload_n 0, 1) := by decide +kernel
theorem dX9_sideAt_81 : decode cX9_sideAt 81 = .ok (.getfield 46, 3) := by decide +kernel
theorem dX9_sideAt_84 : decode cX9_sideAt 84 = .ok (.iload 8, 2) := by decide +kernel
theorem dX9_sideAt_86 : decode cX9_sideAt 86 = .ok (.iaload, 1) := by decide +kernel
theorem dX9_sideAt_87 : decode cX9_sideAt 87 = .ok (.iload 9, 2) := by decide +kernel
theorem dX9_sideAt_89 : decode cX9_sideAt 89 = .ok (.iadd, 1) := by decide +kernel
theorem dX9_sideAt_90 : decode cX9_sideAt 90 = .ok (.imul, 1) := by decide +kernel
theorem dX9_sideAt_91 : decode cX9_sideAt 91 = .ok (.ireturn, 1) := by decide +kernel
theorem dX9_sideAt_92 : decode cX9_sideAt 92 = .ok (.iconst 2, 1) := by decide +kernel
theorem dX9_sideAt_93 : decode cX9_sideAt 93 = .ok (.aload_n 0, 1) := by decide +kernel
theorem dX9_sideAt_94 : decode cX9_sideAt 94 = .ok (.getfield 46, 3) := by decide +kernel
theorem dX9_sideAt_97 : decode cX9_sideAt 97 = .ok (.iload 8, 2) := by decide +kernel
theorem dX9_sideAt_99 : decode cX9_sideAt 99 = .ok (.iaload, 1) := by decide +kernel
theorem dX9_sideAt_100 : decode cX9_sideAt 100 = .ok (.aload_n 1, 1) := by decide +kernel
theorem dX9_sideAt_101 : decode cX9_sideAt 101 = .ok (.getfield 129, 3) := by decide +kernel
theorem dX9_sideAt_104 : decode cX9_sideAt 104 = .ok (.iload 8, 2) := by decide +kernel
theorem dX9_sideAt_106 : decode cX9_sideAt 106 = .ok (.iaload, 1) := by decide +kernel
theorem dX9_sideAt_107 : decode cX9_sideAt 107 = .ok (.iadd, 1) := by decide +kernel
theorem dX9_sideAt_108 : decode cX9_sideAt 108 = .ok (.iconst 1, 1) := by decide +kernel
theorem dX9_sideAt_109 : decode cX9_sideAt 109 = .ok (.isub, 1) := by decide +kernel
theorem dX9_sideAt_110 : decode cX9_sideAt 110 = .ok (.iload 9, 2) := by decide +kernel
theorem dX9_sideAt_112 : decode cX9_sideAt 112 = .ok (.isub, 1) := by decide +kernel
theorem dX9_sideAt_113 : decode cX9_sideAt 113 = .ok (.imul, 1) := by decide +kernel
theorem dX9_sideAt_114 : decode cX9_sideAt 114 = .ok (.iconst 1, 1) := by decide +kernel
theorem dX9_sideAt_115 : decode cX9_sideAt 115 = .ok (.iadd, 1) := by decide +kernel
theorem dX9_sideAt_116 : decode cX9_sideAt 116 = .ok (.ireturn, 1) := by decide +kernel
theorem dX9_fillLink_0 : decode cX9_fillLink 0 = .ok (.aload_n 2, 1) := by decide +kernel
theorem dX9_fillLink_1 : decode cX9_fillLink 1 = .ok (.invokevirtual 160, 3) := by decide +kernel
theorem dX9_fillLink_4 : decode cX9_fillLink 4 = .ok (.iconst 0, 1) := by decide +kernel
theorem dX9_fillLink_5 : decode cX9_fillLink 5 = .ok (.istore_n 3, 1) := by decide +kernel
theorem dX9_fillLink_6 : decode cX9_fillLink 6 = .ok (.iload_n 3, 1) := by decide +kernel
theorem dX9_fillLink_7 : decode cX9_fillLink 7 = .ok (.iconst 4, 1) := by decide +kernel
theorem dX9_fillLink_8 : decode cX9_fillLink 8 = .ok (.aload_n 0, 1) := by decide +kernel
theorem dX9_fillLink_9 : decode cX9_fillLink 9 = .ok (.getfield 12, 3) := by decide +kernel
theorem dX9_fillLink_12 : decode cX9_fillLink 12 = .ok (.getfield 163, 3) := by decide +kernel
theorem dX9_fillLink_15 : decode cX9_fillLink 15 = .ok (.imul, 1) := by decide +kernel
theorem dX9_fillLink_16 : decode cX9_fillLink 16 = .ok (.if_icmp .ge 38, 3) := by decide +kernel
theorem dX9_fillLink_19 : decode cX9_fillLink 19 = .ok (.aload_n 0, 1) := by decide +kernel
theorem dX9_fillLink_20 : decode cX9_fillLink 20 = .ok (.getfield 21, 3) := by decide +kernel
theorem dX9_fillLink_23 : decode cX9_fillLink 23 = .ok (.getfield 166, 3) := by decide +kernel
theorem dX9_fillLink_26 : decode cX9_fillLink 26 = .ok (.iload_n 3, 1) := by decide +kernel
theorem dX9_fillLink_27 : decode cX9_fillLink 27 = .ok (.iaload, 1) := by decide +kernel
theorem dX9_fillLink_28 : decode cX9_fillLink 28 = .ok (.iload_n 1, 1) := by decide +kernel
theorem dX9_fillLink_29 : decode cX9_fillLink 29 = .ok (.if_icmp .ne 19, 3) := by decide +kernel
theorem dX9_fillLink_32 : decode cX9_fillLink 32 = .ok (.aload_n 2, 1) := by decide +kernel
theorem dX9_fillLink_33 : decode cX9_fillLink 33 = .ok (.getfield 129, 3) := by decide +kernel
theorem dX9_fillLink_36 : decode cX9_fillLink 36 = .ok (.bipush 7, 2) := by decide +kernel
theorem dX9_fillLink_38 : decode cX9_fillLink 38 = .ok (.iload_n 3, 1) := by decide +kernel
theorem dX9_fillLink_39 : decode cX9_fillLink 39 = .ok (.iconst 4, 1) := by decide +kernel
theorem dX9_fillLink_40 : decode cX9_fillLink 40 = .ok (.idiv, 1) := by decide +kernel
theorem dX9_fillLink_41 : decode cX9_fillLink 41 = .ok (.imul, 1) := by decide +kernel
theorem dX9_fillLink_42 : decode cX9_fillLink 42 = .ok (.iload_n 3, 1) := by decide +kernel
theorem dX9_fillLink_43 : decode cX9_fillLink 43 = .ok (.iconst 4, 1) := by decide +kernel
theorem dX9_fillLink_44 : decode cX9_fillLink 44 = .ok (.irem, 1) := by decide +kernel
theorem dX9_fillLink_45 : decode cX9_fillLink 45 = .ok (.iadd, 1) := by decide +kernel
theorem dX9_fillLink_46 : decode cX9_fillLink 46 = .ok (.iconst 1, 1) := by decide +kernel
theorem dX9_fillLink_47 : decode cX9_fillLink 47 = .ok (.iastore, 1) := by decide +kernel
theorem dX9_fillLink_48 : decode cX9_fillLink 48 = .ok (.iinc 3 1, 3) := by decide +kernel
theorem dX9_fillLink_51 : decode cX9_fillLink 51 = .ok (.goto (-45), 3) := by decide +kernel
theorem dX9_fillLink_54 : decode cX9_fillLink 54 = .ok (.return_, 1) := by decide +kernel
theorem dX9_isGood_0 : decode cX9_isGood 0 = .ok (.aload_n 0, 1) := by decide +kernel
theorem dX9_isGood_1 : decode cX9_isGood 1 = .ok (.iload_n 1, 1) := by decide +kernel
theorem dX9_isGood_2 : decode cX9_isGood 2 = .ok (.aload_n 0, 1) := by decide +kernel
theorem dX9_isGood_3 : decode cX9_isGood 3 = .ok (.getfield 53, 3) := by decide +kernel
theorem dX9_isGood_6 : decode cX9_isGood 6 = .ok (.invokevirtual 169, 3) := by decide +kernel
theorem dX9_isGood_9 : decode cX9_isGood 9 = .ok (.aload_n 0, 1) := by decide +kernel
theorem dX9_isGood_10 : decode cX9_isGood 10 = .ok (.aload_n 0, 1) := by decide +kernel
theorem dX9_isGood_11 : decode cX9_isGood 11 = .ok (.getfield 53, 3) := by decide +kernel
theorem dX9_isGood_14 : decode cX9_isGood 14 = .ok (.invokevirtual 91, 3) := by decide +kernel
theorem dX9_isGood_17 : decode cX9_isGood 17 = .ok (.aload_n 0, 1) := by decide +kernel
theorem dX9_isGood_18 : decode cX9_isGood 18 = .ok (.aload_n 0, 1) := by decide +kernel
theorem dX9_isGood_19 : decode cX9_isGood 19 = .ok (.getfield 53, 3) := by decide +kernel
theorem dX9_isGood_22 : decode cX9_isGood 22 = .ok (.invokevirtual 82, 3) := by decide +kernel
theorem dX9_isGood_25 : decode cX9_isGood 25 = .ok (.ifCond .le 7, 3) := by decide +kernel
theorem dX9_isGood_28 : decode cX9_isGood 28 = .ok (.iconst 1, 1) := by decide +kernel
theorem dX9_isGood_29 : decode cX9_isGood 29 = .ok (.goto 4, 3) := by decide +kernel
theorem dX9_isGood_32 : decode cX9_isGood 32 = .ok (.iconst 2, 1) := by decide +kernel
theorem dX9_isGood_33 : decode cX9_isGood 33 = .ok (.istore_n 2, 1) := by decide +kernel
theorem dX9_isGood_34 : decode cX9_isGood 34 = .ok (.aload_n 0, 1) := by decide +kernel
theorem dX9_isGood_35 : decode cX9_isGood 35 = .ok (.getfield 95, 3) := by decide +kernel
theorem dX9_isGood_38 : decode cX9_isGood 38 = .ok (.iconst 1, 1) := by decide +kernel
theorem dX9_isGood_39 : decode cX9_isGood 39 = .ok (.if_icmp .ne 19, 3) := by decide +kernel
theorem dX9_isGood_42 : decode cX9_isGood 42 = .ok (.aload_n 0, 1) := by decide +kernel
theorem dX9_isGood_43 : decode cX9_isGood 43 = .ok (.aload_n 0, 1) := by decide +kernel
theorem dX9_isGood_44 : decode cX9_isGood 44 = .ok (.getfield 53, 3) := by decide +kernel
theorem dX9_isGood_47 : decode cX9_isGood 47 = .ok (.invokevirtual 78, 3) := by decide +kernel
theorem dX9_isGood_50 : decode cX9_isGood 50 = .ok (.iload_n 2, 1) := by decide +kernel
theorem dX9_isGood_51 : decode cX9_isGood 51 = .ok (.if_icmp .ne 7, 3) := by decide +kernel
theorem dX9_isGood_54 : decode cX9_isGood 54 = .ok (.iconst 1, 1) := by decide +kernel
theorem dX9_isGood_55 : decode cX9_isGood 55 = .ok (.goto 4, 3) := by decide +kernel
theorem dX9_isGood_58 : decode cX9_isGood 58 = .ok (.iconst 0, 1) := by decide +kernel
theorem dX9_isGood_59 : decode cX9_isGood 59 = .ok (.ireturn, 1) := by decide +kernel
theorem dX9_goodVertices_0 : decode cX9_goodVertices 0 = .ok (.iconst 0, 1) := by decide +kernel
theorem dX9_goodVertices_1 : decode cX9_goodVertices 1 = .ok (.istore_n 1, 1) := by decide +kernel
theorem dX9_goodVertices_2 : decode cX9_goodVertices 2 = .ok (.iconst 0, 1) := by decide +kernel
theorem dX9_goodVertices_3 : decode cX9_goodVertices 3 = .ok (.istore_n 2, 1) := by decide +kernel
theorem dX9_goodVertices_4 : decode cX9_goodVertices 4 = .ok (.iload_n 2, 1) := by decide +kernel
theorem dX9_goodVertices_5 : decode cX9_goodVertices 5 = .ok (.aload_n 0, 1) := by decide +kernel
theorem dX9_goodVertices_6 : decode cX9_goodVertices 6 = .ok (.getfield 21, 3) := by decide +kernel
theorem dX9_goodVertices_9 : decode cX9_goodVertices 9 = .ok (.getfield 173, 3) := by decide +kernel
theorem dX9_goodVertices_12 : decode cX9_goodVertices 12 = .ok (.if_icmp .ge 25, 3) := by decide +kernel
theorem dX9_goodVertices_15 : decode cX9_goodVertices 15 = .ok (.iload_n 1, 1) := by decide +kernel
theorem dX9_goodVertices_16 : decode cX9_goodVertices 16 = .ok (.aload_n 0, 1) := by decide +kernel
theorem dX9_goodVertices_17 : decode cX9_goodVertices 17 = .ok (.iload_n 2, 1) := by decide +kernel
theorem dX9_goodVertices_18 : decode cX9_goodVertices 18 = .ok (.invokevirtual 176, 3) := by decide +kernel
theorem dX9_goodVertices_21 : decode cX9_goodVertices 21 = .ok (.ifCond .eq 7, 3) := by decide +kernel
theorem dX9_goodVertices_24 : decode cX9_goodVertices 24 = .ok (.iconst 1, 1) := by decide +kernel
theorem dX9_goodVertices_25 : decode cX9_goodVertices 25 = .ok (.goto 4, 3) := by decide +kernel
theorem dX9_goodVertices_28 : decode cX9_goodVertices 28 = .ok (.iconst 0, 1) := by decide +kernel
theorem dX9_goodVertices_29 : decode cX9_goodVertices 29 = .ok (.iadd, 1) := by decide +kernel
theorem dX9_goodVertices_30 : decode cX9_goodVertices 30 = .ok (.istore_n 1, 1) := by decide +kernel
theorem dX9_goodVertices_31 : decode cX9_goodVertices 31 = .ok (.iinc 2 1, 3) := by decide +kernel
theorem dX9_goodVertices_34 : decode cX9_goodVertices 34 = .ok (.goto (-30), 3) := by decide +kernel
theorem dX9_goodVertices_37 : decode cX9_goodVertices 37 = .ok (.iload_n 1, 1) := by decide +kernel
theorem dX9_goodVertices_38 : decode cX9_goodVertices 38 = .ok (.ireturn, 1) := by decide +kernel
theorem dX9_wholeCharacteristic_0 : decode cX9_wholeCharacteristic 0 = .ok (.aload_n 0, 1) := by decide +kernel
theorem dX9_wholeCharacteristic_1 : decode cX9_wholeCharacteristic 1 = .ok (.getfield 12, 3) := by decide +kernel
theorem dX9_wholeCharacteristic_4 : decode cX9_wholeCharacteristic 4 = .ok (.invokevirtual 116, 3) := by decide +kernel
theorem dX9_wholeCharacteristic_7 : decode cX9_wholeCharacteristic 7 = .ok (.aload_n 0, 1) := by decide +kernel
theorem dX9_wholeCharacteristic_8 : decode cX9_wholeCharacteristic 8 = .ok (.getfield 12, 3) := by decide +kernel
theorem dX9_wholeCharacteristic_11 : decode cX9_wholeCharacteristic 11 = .ok (.invokevirtual 179, 3) := by decide +kernel
theorem dX9_wholeCharacteristic_14 : decode cX9_wholeCharacteristic 14 = .ok (.iadd, 1) := by decide +kernel
theorem dX9_wholeCharacteristic_15 : decode cX9_wholeCharacteristic 15 = .ok (.iconst 2, 1) := by decide +kernel
theorem dX9_wholeCharacteristic_16 : decode cX9_wholeCharacteristic 16 = .ok (.idiv, 1) := by decide +kernel
theorem dX9_wholeCharacteristic_17 : decode cX9_wholeCharacteristic 17 = .ok (.istore_n 1, 1) := by decide +kernel
theorem dX9_wholeCharacteristic_18 : decode cX9_wholeCharacteristic 18 = .ok (.aload_n 0, 1) := by decide +kernel
theorem dX9_wholeCharacteristic_19 : decode cX9_wholeCharacteristic 19 = .ok (.getfield 21, 3) := by decide +kernel
theorem dX9_wholeCharacteristic_22 : decode cX9_wholeCharacteristic 22 = .ok (.getfield 173, 3) := by decide +kernel
theorem dX9_wholeCharacteristic_25 : decode cX9_wholeCharacteristic 25 = .ok (.aload_n 0, 1) := by decide +kernel
theorem dX9_wholeCharacteristic_26 : decode cX9_wholeCharacteristic 26 = .ok (.getfield 21, 3) := by decide +kernel
theorem dX9_wholeCharacteristic_29 : decode cX9_wholeCharacteristic 29 = .ok (.getfield 106, 3) := by decide +kernel
theorem dX9_wholeCharacteristic_32 : decode cX9_wholeCharacteristic 32 = .ok (.isub, 1) := by decide +kernel
theorem dX9_wholeCharacteristic_33 : decode cX9_wholeCharacteristic 33 = .ok (.iload_n 1, 1) := by decide +kernel
theorem dX9_wholeCharacteristic_34 : decode cX9_wholeCharacteristic 34 = .ok (.iadd, 1) := by decide +kernel
theorem dX9_wholeCharacteristic_35 : decode cX9_wholeCharacteristic 35 = .ok (.aload_n 0, 1) := by decide +kernel
theorem dX9_wholeCharacteristic_36 : decode cX9_wholeCharacteristic 36 = .ok (.getfield 12, 3) := by decide +kernel
theorem dX9_wholeCharacteristic_39 : decode cX9_wholeCharacteristic 39 = .ok (.getfield 163, 3) := by decide +kernel
theorem dX9_wholeCharacteristic_42 : decode cX9_wholeCharacteristic 42 = .ok (.isub, 1) := by decide +kernel
theorem dX9_wholeCharacteristic_43 : decode cX9_wholeCharacteristic 43 = .ok (.ireturn, 1) := by decide +kernel
theorem dX9_splits_0 : decode cX9_splits 0 = .ok (.aload_n 1, 1) := by decide +kernel
theorem dX9_splits_1 : decode cX9_splits 1 = .ok (.invokestatic 182, 3) := by decide +kernel
theorem dX9_splits_4 : decode cX9_splits 4 = .ok (.istore_n 2, 1) := by decide +kernel
theorem dX9_splits_5 : decode cX9_splits 5 = .ok (.iload_n 2, 1) := by decide +kernel
theorem dX9_splits_6 : decode cX9_splits 6 = .ok (.sipush 6000, 3) := by decide +kernel
theorem dX9_splits_9 : decode cX9_splits 9 = .ok (.if_icmp .le 5, 3) := by decide +kernel
theorem dX9_splits_12 : decode cX9_splits 12 = .ok (.iconst (-1), 1) := by decide +kernel
theorem dX9_splits_13 : decode cX9_splits 13 = .ok (.ireturn, 1) := by decide +kernel
theorem dX9_splits_14 : decode cX9_splits 14 = .ok (.aload_n 0, 1) := by decide +kernel
theorem dX9_splits_15 : decode cX9_splits 15 = .ok (.getfield 28, 3) := by decide +kernel
theorem dX9_splits_18 : decode cX9_splits 18 = .ok (.aload_n 0, 1) := by decide +kernel
theorem dX9_splits_19 : decode cX9_splits 19 = .ok (.getfield 12, 3) := by decide +kernel
theorem dX9_splits_22 : decode cX9_splits 22 = .ok (.aload_n 1, 1) := by decide +kernel
theorem dX9_splits_23 : decode cX9_splits 23 = .ok (.invokevirtual 63, 3) := by decide +kernel
theorem dX9_splits_26 : decode cX9_splits 26 = .ok (.aload_n 0, 1) := by decide +kernel
theorem dX9_splits_27 : decode cX9_splits 27 = .ok (.aload_n 1, 1) := by decide +kernel
theorem dX9_splits_28 : decode cX9_splits 28 = .ok (.invokevirtual 185, 3) := by decide +kernel
theorem dX9_splits_31 : decode cX9_splits 31 = .ok (.aload_n 0, 1) := by decide +kernel
theorem dX9_splits_32 : decode cX9_splits 32 = .ok (.getfield 57, 3) := by decide +kernel
theorem dX9_splits_35 : decode cX9_splits 35 = .ok (.invokevirtual 160, 3) := by decide +kernel
theorem dX9_splits_38 : decode cX9_splits 38 = .ok (.iconst 1, 1) := by decide +kernel
theorem dX9_splits_39 : decode cX9_splits 39 = .ok (.istore_n 3, 1) := by decide +kernel
theorem dX9_splits_40 : decode cX9_splits 40 = .ok (.iconst 2, 1) := by decide +kernel
theorem dX9_splits_41 : decode cX9_splits 41 = .ok (.iload_n 3, 1) := by decide +kernel
theorem dX9_splits_42 : decode cX9_splits 42 = .ok (.imul, 1) := by decide +kernel
theorem dX9_splits_43 : decode cX9_splits 43 = .ok (.iload_n 2, 1) := by decide +kernel
theorem dX9_splits_44 : decode cX9_splits 44 = .ok (.if_icmp .ge 30, 3) := by decide +kernel
theorem dX9_splits_47 : decode cX9_splits 47 = .ok (.aload_n 0, 1) := by decide +kernel
theorem dX9_splits_48 : decode cX9_splits 48 = .ok (.aload_n 1, 1) := by decide +kernel
theorem dX9_splits_49 : decode cX9_splits 49 = .ok (.invokevirtual 188, 3) := by decide +kernel
theorem dX9_splits_52 : decode cX9_splits 52 = .ok (.aload_n 0, 1) := by decide +kernel
theorem dX9_splits_53 : decode cX9_splits 53 = .ok (.getfield 28, 3) := by decide +kernel
theorem dX9_splits_56 : decode cX9_splits 56 = .ok (.aload_n 0, 1) := by decide +kernel
theorem dX9_splits_57 : decode cX9_splits 57 = .ok (.getfield 57, 3) := by decide +kernel
theorem dX9_splits_60 : decode cX9_splits 60 = .ok (.invokevirtual 67, 3) := by decide +kernel
theorem dX9_splits_63 : decode cX9_splits 63 = .ok (.ifCond .eq 5, 3) := by decide +kernel
theorem dX9_splits_66 : decode cX9_splits 66 = .ok (.iconst 1, 1) := by decide +kernel
theorem dX9_splits_67 : decode cX9_splits 67 = .ok (.ireturn, 1) := by decide +kernel
theorem dX9_splits_68 : decode cX9_splits 68 = .ok (.iinc 3 1, 3) := by decide +kernel
theorem dX9_splits_71 : decode cX9_splits 71 = .ok (.goto (-31), 3) := by decide +kernel
theorem dX9_splits_74 : decode cX9_splits 74 = .ok (.iconst 0, 1) := by decide +kernel
theorem dX9_splits_75 : decode cX9_splits 75 = .ok (.ireturn, 1) := by decide +kernel
theorem dX9_countParts_0 : decode cX9_countParts 0 = .ok (.iconst 1, 1) := by decide +kernel
theorem dX9_countParts_1 : decode cX9_countParts 1 = .ok (.istore_n 1, 1) := by decide +kernel
theorem dX9_countParts_2 : decode cX9_countParts 2 = .ok (.iconst 0, 1) := by decide +kernel
theorem dX9_countParts_3 : decode cX9_countParts 3 = .ok (.istore_n 2, 1) := by decide +kernel
theorem dX9_countParts_4 : decode cX9_countParts 4 = .ok (.iload_n 2, 1) := by decide +kernel
theorem dX9_countParts_5 : decode cX9_countParts 5 = .ok (.bipush 21, 2) := by decide +kernel
theorem dX9_countParts_7 : decode cX9_countParts 7 = .ok (.if_icmp .ge 27, 3) := by decide +kernel
theorem dX9_countParts_10 : decode cX9_countParts 10 = .ok (.iload_n 1, 1) := by decide +kernel
theorem dX9_countParts_11 : decode cX9_countParts 11 = .ok (.sipush 6000, 3) := by decide +kernel
theorem dX9_countParts_14 : decode cX9_countParts 14 = .ok (.if_icmp .gt 20, 3) := by decide +kernel
theorem dX9_countParts_17 : decode cX9_countParts 17 = .ok (.iload_n 1, 1) := by decide +kernel
theorem dX9_countParts_18 : decode cX9_countParts 18 = .ok (.aload_n 0, 1) := by decide +kernel
theorem dX9_countParts_19 : decode cX9_countParts 19 = .ok (.getfield 129, 3) := by decide +kernel
theorem dX9_countParts_22 : decode cX9_countParts 22 = .ok (.iload_n 2, 1) := by decide +kernel
theorem dX9_countParts_23 : decode cX9_countParts 23 = .ok (.iaload, 1) := by decide +kernel
theorem dX9_countParts_24 : decode cX9_countParts 24 = .ok (.iconst 1, 1) := by decide +kernel
theorem dX9_countParts_25 : decode cX9_countParts 25 = .ok (.iadd, 1) := by decide +kernel
theorem dX9_countParts_26 : decode cX9_countParts 26 = .ok (.imul, 1) := by decide +kernel
theorem dX9_countParts_27 : decode cX9_countParts 27 = .ok (.istore_n 1, 1) := by decide +kernel
theorem dX9_countParts_28 : decode cX9_countParts 28 = .ok (.iinc 2 1, 3) := by decide +kernel
theorem dX9_countParts_31 : decode cX9_countParts 31 = .ok (.goto (-27), 3) := by decide +kernel
theorem dX9_countParts_34 : decode cX9_countParts 34 = .ok (.iload_n 1, 1) := by decide +kernel
theorem dX9_countParts_35 : decode cX9_countParts 35 = .ok (.ireturn, 1) := by decide +kernel
theorem dX9_listUsed_0 : decode cX9_listUsed 0 = .ok (.aload_n 0, 1) := by decide +kernel
theorem dX9_listUsed_1 : decode cX9_listUsed 1 = .ok (.iconst 0, 1) := by decide +kernel
theorem dX9_listUsed_2 : decode cX9_listUsed 2 = .ok (.putfield 191, 3) := by decide +kernel
end
section
theorem dX9_listUsed_5 : decode cX9_listUsed 5 = .ok (.iconst 0, 1) := by decide +kernel
theorem dX9_listUsed_6 : decode cX9_listUsed 6 = .ok (.istore_n 2, 1) := by decide +kernel
theorem dX9_listUsed_7 : decode cX9_listUsed 7 = .ok (.iload_n 2, 1) := by decide +kernel
theorem dX9_listUsed_8 : decode cX9_listUsed 8 = .ok (.bipush 21, 2) := by decide +kernel
theorem dX9_listUsed_10 : decode cX9_listUsed 10 = .ok (.if_icmp .ge 38, 3) := by decide +kernel
theorem dX9_listUsed_13 : decode cX9_listUsed 13 = .ok (.aload_n 1, 1) := by decide +kernel
theorem dX9_listUsed_14 : decode cX9_listUsed 14 = .ok (.getfield 129, 3) := by decide +kernel
theorem dX9_listUsed_17 : decode cX9_listUsed 17 = .ok (.iload_n 2, 1) := by decide +kernel
theorem dX9_listUsed_18 : decode cX9_listUsed 18 = .ok (.iaload, 1) := by decide +kernel
theorem dX9_listUsed_19 : decode cX9_listUsed 19 = .ok (.ifCond .le 23, 3) := by decide +kernel
theorem dX9_listUsed_22 : decode cX9_listUsed 22 = .ok (.aload_n 0, 1) := by decide +kernel
theorem dX9_listUsed_23 : decode cX9_listUsed 23 = .ok (.getfield 60, 3) := by decide +kernel
theorem dX9_listUsed_26 : decode cX9_listUsed 26 = .ok (.aload_n 0, 1) := by decide +kernel
theorem dX9_listUsed_27 : decode cX9_listUsed 27 = .ok (.getfield 191, 3) := by decide +kernel
theorem dX9_listUsed_30 : decode cX9_listUsed 30 = .ok (.iload_n 2, 1) := by decide +kernel
theorem dX9_listUsed_31 : decode cX9_listUsed 31 = .ok (.iastore, 1) := by decide +kernel
theorem dX9_listUsed_32 : decode cX9_listUsed 32 = .ok (.aload_n 0, 1) := by decide +kernel
theorem dX9_listUsed_33 : decode cX9_listUsed 33 = .ok (.dup, 1) := by decide +kernel
theorem dX9_listUsed_34 : decode cX9_listUsed 34 = .ok (.getfield 191, 3) := by decide +kernel
theorem dX9_listUsed_37 : decode cX9_listUsed 37 = .ok (.iconst 1, 1) := by decide +kernel
theorem dX9_listUsed_38 : decode cX9_listUsed 38 = .ok (.iadd, 1) := by decide +kernel
theorem dX9_listUsed_39 : decode cX9_listUsed 39 = .ok (.putfield 191, 3) := by decide +kernel
theorem dX9_listUsed_42 : decode cX9_listUsed 42 = .ok (.iinc 2 1, 3) := by decide +kernel
theorem dX9_listUsed_45 : decode cX9_listUsed 45 = .ok (.goto (-38), 3) := by decide +kernel
theorem dX9_listUsed_48 : decode cX9_listUsed 48 = .ok (.return_, 1) := by decide +kernel
theorem dX9_nextPart_0 : decode cX9_nextPart 0 = .ok (.iconst 0, 1) := by decide +kernel
theorem dX9_nextPart_1 : decode cX9_nextPart 1 = .ok (.istore_n 2, 1) := by decide +kernel
theorem dX9_nextPart_2 : decode cX9_nextPart 2 = .ok (.iload_n 2, 1) := by decide +kernel
theorem dX9_nextPart_3 : decode cX9_nextPart 3 = .ok (.aload_n 0, 1) := by decide +kernel
theorem dX9_nextPart_4 : decode cX9_nextPart 4 = .ok (.getfield 191, 3) := by decide +kernel
theorem dX9_nextPart_7 : decode cX9_nextPart 7 = .ok (.if_icmp .ge 58, 3) := by decide +kernel
theorem dX9_nextPart_10 : decode cX9_nextPart 10 = .ok (.aload_n 0, 1) := by decide +kernel
theorem dX9_nextPart_11 : decode cX9_nextPart 11 = .ok (.getfield 60, 3) := by decide +kernel
theorem dX9_nextPart_14 : decode cX9_nextPart 14 = .ok (.iload_n 2, 1) := by decide +kernel
theorem dX9_nextPart_15 : decode cX9_nextPart 15 = .ok (.iaload, 1) := by decide +kernel
theorem dX9_nextPart_16 : decode cX9_nextPart 16 = .ok (.istore_n 3, 1) := by decide +kernel
theorem dX9_nextPart_17 : decode cX9_nextPart 17 = .ok (.aload_n 0, 1) := by decide +kernel
theorem dX9_nextPart_18 : decode cX9_nextPart 18 = .ok (.getfield 57, 3) := by decide +kernel
theorem dX9_nextPart_21 : decode cX9_nextPart 21 = .ok (.getfield 129, 3) := by decide +kernel
theorem dX9_nextPart_24 : decode cX9_nextPart 24 = .ok (.iload_n 3, 1) := by decide +kernel
theorem dX9_nextPart_25 : decode cX9_nextPart 25 = .ok (.iaload, 1) := by decide +kernel
theorem dX9_nextPart_26 : decode cX9_nextPart 26 = .ok (.aload_n 1, 1) := by decide +kernel
theorem dX9_nextPart_27 : decode cX9_nextPart 27 = .ok (.getfield 129, 3) := by decide +kernel
theorem dX9_nextPart_30 : decode cX9_nextPart 30 = .ok (.iload_n 3, 1) := by decide +kernel
theorem dX9_nextPart_31 : decode cX9_nextPart 31 = .ok (.iaload, 1) := by decide +kernel
theorem dX9_nextPart_32 : decode cX9_nextPart 32 = .ok (.if_icmp .ge 17, 3) := by decide +kernel
theorem dX9_nextPart_35 : decode cX9_nextPart 35 = .ok (.aload_n 0, 1) := by decide +kernel
theorem dX9_nextPart_36 : decode cX9_nextPart 36 = .ok (.getfield 57, 3) := by decide +kernel
theorem dX9_nextPart_39 : decode cX9_nextPart 39 = .ok (.getfield 129, 3) := by decide +kernel
theorem dX9_nextPart_42 : decode cX9_nextPart 42 = .ok (.iload_n 3, 1) := by decide +kernel
theorem dX9_nextPart_43 : decode cX9_nextPart 43 = .ok (.dup2, 1) := by decide +kernel
theorem dX9_nextPart_44 : decode cX9_nextPart 44 = .ok (.iaload, 1) := by decide +kernel
theorem dX9_nextPart_45 : decode cX9_nextPart 45 = .ok (.iconst 1, 1) := by decide +kernel
theorem dX9_nextPart_46 : decode cX9_nextPart 46 = .ok (.iadd, 1) := by decide +kernel
theorem dX9_nextPart_47 : decode cX9_nextPart 47 = .ok (.iastore, 1) := by decide +kernel
theorem dX9_nextPart_48 : decode cX9_nextPart 48 = .ok (.return_, 1) := by decide +kernel
theorem dX9_nextPart_49 : decode cX9_nextPart 49 = .ok (.aload_n 0, 1) := by decide +kernel
theorem dX9_nextPart_50 : decode cX9_nextPart 50 = .ok (.getfield 57, 3) := by decide +kernel
theorem dX9_nextPart_53 : decode cX9_nextPart 53 = .ok (.getfield 129, 3) := by decide +kernel
theorem dX9_nextPart_56 : decode cX9_nextPart 56 = .ok (.iload_n 3, 1) := by decide +kernel
theorem dX9_nextPart_57 : decode cX9_nextPart 57 = .ok (.iconst 0, 1) := by decide +kernel
theorem dX9_nextPart_58 : decode cX9_nextPart 58 = .ok (.iastore, 1) := by decide +kernel
theorem dX9_nextPart_59 : decode cX9_nextPart 59 = .ok (.iinc 2 1, 3) := by decide +kernel
theorem dX9_nextPart_62 : decode cX9_nextPart 62 = .ok (.goto (-60), 3) := by decide +kernel
theorem dX9_nextPart_65 : decode cX9_nextPart 65 = .ok (.return_, 1) := by decide +kernel
theorem dX10_init_0 : decode cX10_init 0 = .ok (.aload_n 0, 1) := by decide +kernel
theorem dX10_init_1 : decode cX10_init 1 = .ok (.invokespecial 3, 3) := by decide +kernel
theorem dX10_init_4 : decode cX10_init 4 = .ok (.aload_n 0, 1) := by decide +kernel
theorem dX10_init_5 : decode cX10_init 5 = .ok (.bipush 12, 2) := by decide +kernel
theorem dX10_init_7 : decode cX10_init 7 = .ok (.newarray .int, 2) := by decide +kernel
theorem dX10_init_9 : decode cX10_init 9 = .ok (.putfield 11, 3) := by decide +kernel
theorem dX10_init_12 : decode cX10_init 12 = .ok (.aload_n 0, 1) := by decide +kernel
theorem dX10_init_13 : decode cX10_init 13 = .ok (.bipush 12, 2) := by decide +kernel
theorem dX10_init_15 : decode cX10_init 15 = .ok (.newarray .int, 2) := by decide +kernel
theorem dX10_init_17 : decode cX10_init 17 = .ok (.putfield 17, 3) := by decide +kernel
theorem dX10_init_20 : decode cX10_init 20 = .ok (.aload_n 0, 1) := by decide +kernel
theorem dX10_init_21 : decode cX10_init 21 = .ok (.bipush 6, 2) := by decide +kernel
theorem dX10_init_23 : decode cX10_init 23 = .ok (.anewarray 20, 3) := by decide +kernel
theorem dX10_init_26 : decode cX10_init 26 = .ok (.putfield 22, 3) := by decide +kernel
theorem dX10_init_29 : decode cX10_init 29 = .ok (.iconst 0, 1) := by decide +kernel
theorem dX10_init_30 : decode cX10_init 30 = .ok (.istore_n 1, 1) := by decide +kernel
theorem dX10_init_31 : decode cX10_init 31 = .ok (.iload_n 1, 1) := by decide +kernel
theorem dX10_init_32 : decode cX10_init 32 = .ok (.aload_n 0, 1) := by decide +kernel
theorem dX10_init_33 : decode cX10_init 33 = .ok (.getfield 22, 3) := by decide +kernel
theorem dX10_init_36 : decode cX10_init 36 = .ok (.arraylength, 1) := by decide +kernel
theorem dX10_init_37 : decode cX10_init 37 = .ok (.if_icmp .ge 22, 3) := by decide +kernel
theorem dX10_init_40 : decode cX10_init 40 = .ok (.aload_n 0, 1) := by decide +kernel
theorem dX10_init_41 : decode cX10_init 41 = .ok (.getfield 22, 3) := by decide +kernel
theorem dX10_init_44 : decode cX10_init 44 = .ok (.iload_n 1, 1) := by decide +kernel
theorem dX10_init_45 : decode cX10_init 45 = .ok (.new 20, 3) := by decide +kernel
theorem dX10_init_48 : decode cX10_init 48 = .ok (.dup, 1) := by decide +kernel
theorem dX10_init_49 : decode cX10_init 49 = .ok (.invokespecial 26, 3) := by decide +kernel
theorem dX10_init_52 : decode cX10_init 52 = .ok (.aastore, 1) := by decide +kernel
theorem dX10_init_53 : decode cX10_init 53 = .ok (.iinc 1 1, 3) := by decide +kernel
theorem dX10_init_56 : decode cX10_init 56 = .ok (.goto (-25), 3) := by decide +kernel
theorem dX10_init_59 : decode cX10_init 59 = .ok (.aload_n 0, 1) := by decide +kernel
theorem dX10_init_60 : decode cX10_init 60 = .ok (.iconst 1, 1) := by decide +kernel
theorem dX10_init_61 : decode cX10_init 61 = .ok (.putfield 27, 3) := by decide +kernel
theorem dX10_init_64 : decode cX10_init 64 = .ok (.aload_n 0, 1) := by decide +kernel
theorem dX10_init_65 : decode cX10_init 65 = .ok (.getfield 11, 3) := by decide +kernel
theorem dX10_init_68 : decode cX10_init 68 = .ok (.iconst (-1), 1) := by decide +kernel
theorem dX10_init_69 : decode cX10_init 69 = .ok (.invokestatic 31, 3) := by decide +kernel
theorem dX10_init_72 : decode cX10_init 72 = .ok (.return_, 1) := by decide +kernel
theorem dX10_begin_0 : decode cX10_begin 0 = .ok (.aload_n 0, 1) := by decide +kernel
theorem dX10_begin_1 : decode cX10_begin 1 = .ok (.iload_n 1, 1) := by decide +kernel
theorem dX10_begin_2 : decode cX10_begin 2 = .ok (.putfield 27, 3) := by decide +kernel
theorem dX10_begin_5 : decode cX10_begin 5 = .ok (.aload_n 0, 1) := by decide +kernel
theorem dX10_begin_6 : decode cX10_begin 6 = .ok (.iconst 0, 1) := by decide +kernel
theorem dX10_begin_7 : decode cX10_begin 7 = .ok (.putfield 37, 3) := by decide +kernel
theorem dX10_begin_10 : decode cX10_begin 10 = .ok (.aload_n 0, 1) := by decide +kernel
theorem dX10_begin_11 : decode cX10_begin 11 = .ok (.getfield 11, 3) := by decide +kernel
theorem dX10_begin_14 : decode cX10_begin 14 = .ok (.iconst (-1), 1) := by decide +kernel
theorem dX10_begin_15 : decode cX10_begin 15 = .ok (.invokestatic 31, 3) := by decide +kernel
theorem dX10_begin_18 : decode cX10_begin 18 = .ok (.return_, 1) := by decide +kernel
theorem dX10_copyFrom_0 : decode cX10_copyFrom 0 = .ok (.aload_n 0, 1) := by decide +kernel
theorem dX10_copyFrom_1 : decode cX10_copyFrom 1 = .ok (.aload_n 1, 1) := by decide +kernel
theorem dX10_copyFrom_2 : decode cX10_copyFrom 2 = .ok (.getfield 27, 3) := by decide +kernel
theorem dX10_copyFrom_5 : decode cX10_copyFrom 5 = .ok (.putfield 27, 3) := by decide +kernel
theorem dX10_copyFrom_8 : decode cX10_copyFrom 8 = .ok (.aload_n 0, 1) := by decide +kernel
theorem dX10_copyFrom_9 : decode cX10_copyFrom 9 = .ok (.aload_n 1, 1) := by decide +kernel
theorem dX10_copyFrom_10 : decode cX10_copyFrom 10 = .ok (.getfield 37, 3) := by decide +kernel
theorem dX10_copyFrom_13 : decode cX10_copyFrom 13 = .ok (.putfield 37, 3) := by decide +kernel
theorem dX10_copyFrom_16 : decode cX10_copyFrom 16 = .ok (.aload_n 1, 1) := by decide +kernel
theorem dX10_copyFrom_17 : decode cX10_copyFrom 17 = .ok (.getfield 11, 3) := by decide +kernel
theorem dX10_copyFrom_20 : decode cX10_copyFrom 20 = .ok (.iconst 0, 1) := by decide +kernel
theorem dX10_copyFrom_21 : decode cX10_copyFrom 21 = .ok (.aload_n 0, 1) := by decide +kernel
theorem dX10_copyFrom_22 : decode cX10_copyFrom 22 = .ok (.getfield 11, 3) := by decide +kernel
theorem dX10_copyFrom_25 : decode cX10_copyFrom 25 = .ok (.iconst 0, 1) := by decide +kernel
theorem dX10_copyFrom_26 : decode cX10_copyFrom 26 = .ok (.aload_n 0, 1) := by decide +kernel
theorem dX10_copyFrom_27 : decode cX10_copyFrom 27 = .ok (.getfield 11, 3) := by decide +kernel
theorem dX10_copyFrom_30 : decode cX10_copyFrom 30 = .ok (.arraylength, 1) := by decide +kernel
theorem dX10_copyFrom_31 : decode cX10_copyFrom 31 = .ok (.invokestatic 40, 3) := by decide +kernel
theorem dX10_copyFrom_34 : decode cX10_copyFrom 34 = .ok (.aload_n 1, 1) := by decide +kernel
theorem dX10_copyFrom_35 : decode cX10_copyFrom 35 = .ok (.getfield 17, 3) := by decide +kernel
theorem dX10_copyFrom_38 : decode cX10_copyFrom 38 = .ok (.iconst 0, 1) := by decide +kernel
theorem dX10_copyFrom_39 : decode cX10_copyFrom 39 = .ok (.aload_n 0, 1) := by decide +kernel
theorem dX10_copyFrom_40 : decode cX10_copyFrom 40 = .ok (.getfield 17, 3) := by decide +kernel
theorem dX10_copyFrom_43 : decode cX10_copyFrom 43 = .ok (.iconst 0, 1) := by decide +kernel
theorem dX10_copyFrom_44 : decode cX10_copyFrom 44 = .ok (.aload_n 0, 1) := by decide +kernel
theorem dX10_copyFrom_45 : decode cX10_copyFrom 45 = .ok (.getfield 17, 3) := by decide +kernel
theorem dX10_copyFrom_48 : decode cX10_copyFrom 48 = .ok (.arraylength, 1) := by decide +kernel
theorem dX10_copyFrom_49 : decode cX10_copyFrom 49 = .ok (.invokestatic 40, 3) := by decide +kernel
theorem dX10_copyFrom_52 : decode cX10_copyFrom 52 = .ok (.iconst 0, 1) := by decide +kernel
theorem dX10_copyFrom_53 : decode cX10_copyFrom 53 = .ok (.istore_n 2, 1) := by decide +kernel
theorem dX10_copyFrom_54 : decode cX10_copyFrom 54 = .ok (.iload_n 2, 1) := by decide +kernel
theorem dX10_copyFrom_55 : decode cX10_copyFrom 55 = .ok (.aload_n 0, 1) := by decide +kernel
theorem dX10_copyFrom_56 : decode cX10_copyFrom 56 = .ok (.getfield 37, 3) := by decide +kernel
theorem dX10_copyFrom_59 : decode cX10_copyFrom 59 = .ok (.if_icmp .ge 24, 3) := by decide +kernel
theorem dX10_copyFrom_62 : decode cX10_copyFrom 62 = .ok (.aload_n 0, 1) := by decide +kernel
theorem dX10_copyFrom_63 : decode cX10_copyFrom 63 = .ok (.getfield 22, 3) := by decide +kernel
theorem dX10_copyFrom_66 : decode cX10_copyFrom 66 = .ok (.iload_n 2, 1) := by decide +kernel
theorem dX10_copyFrom_67 : decode cX10_copyFrom 67 = .ok (.aaload, 1) := by decide +kernel
theorem dX10_copyFrom_68 : decode cX10_copyFrom 68 = .ok (.aload_n 1, 1) := by decide +kernel
theorem dX10_copyFrom_69 : decode cX10_copyFrom 69 = .ok (.getfield 22, 3) := by decide +kernel
theorem dX10_copyFrom_72 : decode cX10_copyFrom 72 = .ok (.iload_n 2, 1) := by decide +kernel
theorem dX10_copyFrom_73 : decode cX10_copyFrom 73 = .ok (.aaload, 1) := by decide +kernel
theorem dX10_copyFrom_74 : decode cX10_copyFrom 74 = .ok (.invokevirtual 46, 3) := by decide +kernel
theorem dX10_copyFrom_77 : decode cX10_copyFrom 77 = .ok (.iinc 2 1, 3) := by decide +kernel
theorem dX10_copyFrom_80 : decode cX10_copyFrom 80 = .ok (.goto (-26), 3) := by decide +kernel
theorem dX10_copyFrom_83 : decode cX10_copyFrom 83 = .ok (.return_, 1) := by decide +kernel
theorem dX10_faces_0 : decode cX10_faces 0 = .ok (.iconst 4, 1) := by decide +kernel
theorem dX10_faces_1 : decode cX10_faces 1 = .ok (.aload_n 0, 1) := by decide +kernel
theorem dX10_faces_2 : decode cX10_faces 2 = .ok (.getfield 27, 3) := by decide +kernel
theorem dX10_faces_5 : decode cX10_faces 5 = .ok (.imul, 1) := by decide +kernel
theorem dX10_faces_6 : decode cX10_faces 6 = .ok (.ireturn, 1) := by decide +kernel
theorem dX10_freeFaces_0 : decode cX10_freeFaces 0 = .ok (.iconst 0, 1) := by decide +kernel
theorem dX10_freeFaces_1 : decode cX10_freeFaces 1 = .ok (.istore_n 1, 1) := by decide +kernel
theorem dX10_freeFaces_2 : decode cX10_freeFaces 2 = .ok (.iconst 0, 1) := by decide +kernel
theorem dX10_freeFaces_3 : decode cX10_freeFaces 3 = .ok (.istore_n 2, 1) := by decide +kernel
theorem dX10_freeFaces_4 : decode cX10_freeFaces 4 = .ok (.iload_n 2, 1) := by decide +kernel
theorem dX10_freeFaces_5 : decode cX10_freeFaces 5 = .ok (.aload_n 0, 1) := by decide +kernel
theorem dX10_freeFaces_6 : decode cX10_freeFaces 6 = .ok (.invokevirtual 50, 3) := by decide +kernel
theorem dX10_freeFaces_9 : decode cX10_freeFaces 9 = .ok (.if_icmp .ge 26, 3) := by decide +kernel
theorem dX10_freeFaces_12 : decode cX10_freeFaces 12 = .ok (.iload_n 1, 1) := by decide +kernel
theorem dX10_freeFaces_13 : decode cX10_freeFaces 13 = .ok (.aload_n 0, 1) := by decide +kernel
theorem dX10_freeFaces_14 : decode cX10_freeFaces 14 = .ok (.getfield 11, 3) := by decide +kernel
theorem dX10_freeFaces_17 : decode cX10_freeFaces 17 = .ok (.iload_n 2, 1) := by decide +kernel
theorem dX10_freeFaces_18 : decode cX10_freeFaces 18 = .ok (.iaload, 1) := by decide +kernel
theorem dX10_freeFaces_19 : decode cX10_freeFaces 19 = .ok (.ifCond .ge 7, 3) := by decide +kernel
theorem dX10_freeFaces_22 : decode cX10_freeFaces 22 = .ok (.iconst 1, 1) := by decide +kernel
theorem dX10_freeFaces_23 : decode cX10_freeFaces 23 = .ok (.goto 4, 3) := by decide +kernel
theorem dX10_freeFaces_26 : decode cX10_freeFaces 26 = .ok (.iconst 0, 1) := by decide +kernel
theorem dX10_freeFaces_27 : decode cX10_freeFaces 27 = .ok (.iadd, 1) := by decide +kernel
theorem dX10_freeFaces_28 : decode cX10_freeFaces 28 = .ok (.istore_n 1, 1) := by decide +kernel
theorem dX10_freeFaces_29 : decode cX10_freeFaces 29 = .ok (.iinc 2 1, 3) := by decide +kernel
theorem dX10_freeFaces_32 : decode cX10_freeFaces 32 = .ok (.goto (-28), 3) := by decide +kernel
theorem dX10_freeFaces_35 : decode cX10_freeFaces 35 = .ok (.iload_n 1, 1) := by decide +kernel
theorem dX10_freeFaces_36 : decode cX10_freeFaces 36 = .ok (.ireturn, 1) := by decide +kernel
theorem dX10_canFasten_0 : decode cX10_canFasten 0 = .ok (.iload_n 1, 1) := by decide +kernel
theorem dX10_canFasten_1 : decode cX10_canFasten 1 = .ok (.iload_n 2, 1) := by decide +kernel
theorem dX10_canFasten_2 : decode cX10_canFasten 2 = .ok (.if_icmp .eq 25, 3) := by decide +kernel
theorem dX10_canFasten_5 : decode cX10_canFasten 5 = .ok (.aload_n 0, 1) := by decide +kernel
theorem dX10_canFasten_6 : decode cX10_canFasten 6 = .ok (.getfield 11, 3) := by decide +kernel
theorem dX10_canFasten_9 : decode cX10_canFasten 9 = .ok (.iload_n 1, 1) := by decide +kernel
theorem dX10_canFasten_10 : decode cX10_canFasten 10 = .ok (.iaload, 1) := by decide +kernel
theorem dX10_canFasten_11 : decode cX10_canFasten 11 = .ok (.ifCond .ge 16, 3) := by decide +kernel
theorem dX10_canFasten_14 : decode cX10_canFasten 14 = .ok (.aload_n 0, 1) := by decide +kernel
theorem dX10_canFasten_15 : decode cX10_canFasten 15 = .ok (.getfield 11, 3) := by decide +kernel
theorem dX10_canFasten_18 : decode cX10_canFasten 18 = .ok (.iload_n 2, 1) := by decide +kernel
theorem dX10_canFasten_19 : decode cX10_canFasten 19 = .ok (.iaload, 1) := by decide +kernel
theorem dX10_canFasten_20 : decode cX10_canFasten 20 = .ok (.ifCond .ge 7, 3) := by decide +kernel
theorem dX10_canFasten_23 : decode cX10_canFasten 23 = .ok (.iconst 1, 1) := by decide +kernel
theorem dX10_canFasten_24 : decode cX10_canFasten 24 = .ok (.goto 4, 3) := by decide +kernel
theorem dX10_canFasten_27 : decode cX10_canFasten 27 = .ok (.iconst 0, 1) := by decide +kernel
theorem dX10_canFasten_28 : decode cX10_canFasten 28 = .ok (.ireturn, 1) := by decide +kernel
theorem dX10_fasten_0 : decode cX10_fasten 0 = .ok (.aload_n 0, 1) := by decide +kernel
theorem dX10_fasten_1 : decode cX10_fasten 1 = .ok (.getfield 11, 3) := by decide +kernel
theorem dX10_fasten_4 : decode cX10_fasten 4 = .ok (.iload_n 1, 1) := by decide +kernel
theorem dX10_fasten_5 : decode cX10_fasten 5 = .ok (.iload_n 2, 1) := by decide +kernel
theorem dX10_fasten_6 : decode cX10_fasten 6 = .ok (.iastore, 1) := by decide +kernel
theorem dX10_fasten_7 : decode cX10_fasten 7 = .ok (.aload_n 0, 1) := by decide +kernel
theorem dX10_fasten_8 : decode cX10_fasten 8 = .ok (.getfield 11, 3) := by decide +kernel
theorem dX10_fasten_11 : decode cX10_fasten 11 = .ok (.iload_n 2, 1) := by decide +kernel
theorem dX10_fasten_12 : decode cX10_fasten 12 = .ok (.iload_n 1, 1) := by decide +kernel
theorem dX10_fasten_13 : decode cX10_fasten 13 = .ok (.iastore, 1) := by decide +kernel
theorem dX10_fasten_14 : decode cX10_fasten 14 = .ok (.aload_n 0, 1) := by decide +kernel
theorem dX10_fasten_15 : decode cX10_fasten 15 = .ok (.getfield 17, 3) := by decide +kernel
theorem dX10_fasten_18 : decode cX10_fasten 18 = .ok (.iload_n 1, 1) := by decide +kernel
theorem dX10_fasten_19 : decode cX10_fasten 19 = .ok (.iload_n 3, 1) := by decide +kernel
theorem dX10_fasten_20 : decode cX10_fasten 20 = .ok (.iastore, 1) := by decide +kernel
theorem dX10_fasten_21 : decode cX10_fasten 21 = .ok (.aload_n 0, 1) := by decide +kernel
theorem dX10_fasten_22 : decode cX10_fasten 22 = .ok (.getfield 17, 3) := by decide +kernel
theorem dX10_fasten_25 : decode cX10_fasten 25 = .ok (.iload_n 2, 1) := by decide +kernel
theorem dX10_fasten_26 : decode cX10_fasten 26 = .ok (.getstatic 54, 3) := by decide +kernel
theorem dX10_fasten_29 : decode cX10_fasten 29 = .ok (.iload_n 3, 1) := by decide +kernel
theorem dX10_fasten_30 : decode cX10_fasten 30 = .ok (.iaload, 1) := by decide +kernel
theorem dX10_fasten_31 : decode cX10_fasten 31 = .ok (.iastore, 1) := by decide +kernel
theorem dX10_fasten_32 : decode cX10_fasten 32 = .ok (.aload_n 0, 1) := by decide +kernel
theorem dX10_fasten_33 : decode cX10_fasten 33 = .ok (.iconst 0, 1) := by decide +kernel
theorem dX10_fasten_34 : decode cX10_fasten 34 = .ok (.putfield 37, 3) := by decide +kernel
theorem dX10_fasten_37 : decode cX10_fasten 37 = .ok (.return_, 1) := by decide +kernel
theorem dX10_loosen_0 : decode cX10_loosen 0 = .ok (.aload_n 0, 1) := by decide +kernel
theorem dX10_loosen_1 : decode cX10_loosen 1 = .ok (.getfield 11, 3) := by decide +kernel
theorem dX10_loosen_4 : decode cX10_loosen 4 = .ok (.iload_n 1, 1) := by decide +kernel
theorem dX10_loosen_5 : decode cX10_loosen 5 = .ok (.iaload, 1) := by decide +kernel
theorem dX10_loosen_6 : decode cX10_loosen 6 = .ok (.istore_n 2, 1) := by decide +kernel
theorem dX10_loosen_7 : decode cX10_loosen 7 = .ok (.iload_n 2, 1) := by decide +kernel
theorem dX10_loosen_8 : decode cX10_loosen 8 = .ok (.ifCond .lt 22, 3) := by decide +kernel
theorem dX10_loosen_11 : decode cX10_loosen 11 = .ok (.aload_n 0, 1) := by decide +kernel
theorem dX10_loosen_12 : decode cX10_loosen 12 = .ok (.getfield 11, 3) := by decide +kernel
theorem dX10_loosen_15 : decode cX10_loosen 15 = .ok (.iload_n 1, 1) := by decide +kernel
theorem dX10_loosen_16 : decode cX10_loosen 16 = .ok (.iconst (-1), 1) := by decide +kernel
theorem dX10_loosen_17 : decode cX10_loosen 17 = .ok (.iastore, 1) := by decide +kernel
theorem dX10_loosen_18 : decode cX10_loosen 18 = .ok (.aload_n 0, 1) := by decide +kernel
theorem dX10_loosen_19 : decode cX10_loosen 19 = .ok (.getfield 11, 3) := by decide +kernel
theorem dX10_loosen_22 : decode cX10_loosen 22 = .ok (.iload_n 2, 1) := by decide +kernel
theorem dX10_loosen_23 : decode cX10_loosen 23 = .ok (.iconst (-1), 1) := by decide +kernel
theorem dX10_loosen_24 : decode cX10_loosen 24 = .ok (.iastore, 1) := by decide +kernel
theorem dX10_loosen_25 : decode cX10_loosen 25 = .ok (.aload_n 0, 1) := by decide +kernel
theorem dX10_loosen_26 : decode cX10_loosen 26 = .ok (.iconst 0, 1) := by decide +kernel
theorem dX10_loosen_27 : decode cX10_loosen 27 = .ok (.putfield 37, 3) := by decide +kernel
theorem dX10_loosen_30 : decode cX10_loosen 30 = .ok (.return_, 1) := by decide +kernel
theorem dX10_leads_0 : decode cX10_leads 0 = .ok (.aload_n 0, 1) := by decide +kernel
theorem dX10_leads_1 : decode cX10_leads 1 = .ok (.getfield 11, 3) := by decide +kernel
theorem dX10_leads_4 : decode cX10_leads 4 = .ok (.iload_n 1, 1) := by decide +kernel
theorem dX10_leads_5 : decode cX10_leads 5 = .ok (.iaload, 1) := by decide +kernel
theorem dX10_leads_6 : decode cX10_leads 6 = .ok (.iload_n 1, 1) := by decide +kernel
theorem dX10_leads_7 : decode cX10_leads 7 = .ok (.if_icmp .le 7, 3) := by decide +kernel
theorem dX10_leads_10 : decode cX10_leads 10 = .ok (.iconst 1, 1) := by decide +kernel
theorem dX10_leads_11 : decode cX10_leads 11 = .ok (.goto 4, 3) := by decide +kernel
theorem dX10_leads_14 : decode cX10_leads 14 = .ok (.iconst 0, 1) := by decide +kernel
theorem dX10_leads_15 : decode cX10_leads 15 = .ok (.ireturn, 1) := by decide +kernel
theorem dX10_across_0 : decode cX10_across 0 = .ok (.iload_n 1, 1) := by decide +kernel
theorem dX10_across_1 : decode cX10_across 1 = .ok (.iconst 4, 1) := by decide +kernel
theorem dX10_across_2 : decode cX10_across 2 = .ok (.irem, 1) := by decide +kernel
theorem dX10_across_3 : decode cX10_across 3 = .ok (.istore_n 3, 1) := by decide +kernel
theorem dX10_across_4 : decode cX10_across 4 = .ok (.aload_n 0, 1) := by decide +kernel
theorem dX10_across_5 : decode cX10_across 5 = .ok (.getfield 11, 3) := by decide +kernel
theorem dX10_across_8 : decode cX10_across 8 = .ok (.iload_n 1, 1) := by decide +kernel
theorem dX10_across_9 : decode cX10_across 9 = .ok (.iaload, 1) := by decide +kernel
theorem dX10_across_10 : decode cX10_across 10 = .ok (.istore 4, 2) := by decide +kernel
theorem dX10_across_12 : decode cX10_across 12 = .ok (.iload_n 2, 1) := by decide +kernel
theorem dX10_across_13 : decode cX10_across 13 = .ok (.iload_n 3, 1) := by decide +kernel
theorem dX10_across_14 : decode cX10_across 14 = .ok (.if_icmp .eq 8, 3) := by decide +kernel
theorem dX10_across_17 : decode cX10_across 17 = .ok (.iload 4, 2) := by decide +kernel
theorem dX10_across_19 : decode cX10_across 19 = .ok (.ifCond .ge 5, 3) := by decide +kernel
theorem dX10_across_22 : decode cX10_across 22 = .ok (.iconst (-1), 1) := by decide +kernel
theorem dX10_across_23 : decode cX10_across 23 = .ok (.ireturn, 1) := by decide +kernel
theorem dX10_across_24 : decode cX10_across 24 = .ok (.getstatic 57, 3) := by decide +kernel
theorem dX10_across_27 : decode cX10_across 27 = .ok (.iconst 3, 1) := by decide +kernel
theorem dX10_across_28 : decode cX10_across 28 = .ok (.aload_n 0, 1) := by decide +kernel
theorem dX10_across_29 : decode cX10_across 29 = .ok (.getfield 17, 3) := by decide +kernel
theorem dX10_across_32 : decode cX10_across 32 = .ok (.iload_n 1, 1) := by decide +kernel
theorem dX10_across_33 : decode cX10_across 33 = .ok (.iaload, 1) := by decide +kernel
theorem dX10_across_34 : decode cX10_across 34 = .ok (.imul, 1) := by decide +kernel
theorem dX10_across_35 : decode cX10_across 35 = .ok (.iload_n 2, 1) := by decide +kernel
theorem dX10_across_36 : decode cX10_across 36 = .ok (.iload_n 3, 1) := by decide +kernel
theorem dX10_across_37 : decode cX10_across 37 = .ok (.if_icmp .ge 7, 3) := by decide +kernel
theorem dX10_across_40 : decode cX10_across 40 = .ok (.iload_n 2, 1) := by decide +kernel
theorem dX10_across_41 : decode cX10_across 41 = .ok (.goto 6, 3) := by decide +kernel
theorem dX10_across_44 : decode cX10_across 44 = .ok (.iload_n 2, 1) := by decide +kernel
theorem dX10_across_45 : decode cX10_across 45 = .ok (.iconst 1, 1) := by decide +kernel
theorem dX10_across_46 : decode cX10_across 46 = .ok (.isub, 1) := by decide +kernel
theorem dX10_across_47 : decode cX10_across 47 = .ok (.iadd, 1) := by decide +kernel
theorem dX10_across_48 : decode cX10_across 48 = .ok (.iaload, 1) := by decide +kernel
theorem dX10_across_49 : decode cX10_across 49 = .ok (.istore 5, 2) := by decide +kernel
theorem dX10_across_51 : decode cX10_across 51 = .ok (.iload 4, 2) := by decide +kernel
theorem dX10_across_53 : decode cX10_across 53 = .ok (.iconst 4, 1) := by decide +kernel
theorem dX10_across_54 : decode cX10_across 54 = .ok (.irem, 1) := by decide +kernel
theorem dX10_across_55 : decode cX10_across 55 = .ok (.istore 6, 2) := by decide +kernel
theorem dX10_across_57 : decode cX10_across 57 = .ok (.iload 4, 2) := by decide +kernel
theorem dX10_across_59 : decode cX10_across 59 = .ok (.iload 6, 2) := by decide +kernel
theorem dX10_across_61 : decode cX10_across 61 = .ok (.isub, 1) := by decide +kernel
theorem dX10_across_62 : decode cX10_across 62 = .ok (.iload 5, 2) := by decide +kernel
theorem dX10_across_64 : decode cX10_across 64 = .ok (.iload 6, 2) := by decide +kernel
theorem dX10_across_66 : decode cX10_across 66 = .ok (.if_icmp .ge 8, 3) := by decide +kernel
theorem dX10_across_69 : decode cX10_across 69 = .ok (.iload 5, 2) := by decide +kernel
theorem dX10_across_71 : decode cX10_across 71 = .ok (.goto 7, 3) := by decide +kernel
theorem dX10_across_74 : decode cX10_across 74 = .ok (.iload 5, 2) := by decide +kernel
theorem dX10_across_76 : decode cX10_across 76 = .ok (.iconst 1, 1) := by decide +kernel
theorem dX10_across_77 : decode cX10_across 77 = .ok (.iadd, 1) := by decide +kernel
theorem dX10_across_78 : decode cX10_across 78 = .ok (.iadd, 1) := by decide +kernel
theorem dX10_across_79 : decode cX10_across 79 = .ok (.ireturn, 1) := by decide +kernel
theorem dX10_isFull_0 : decode cX10_isFull 0 = .ok (.aload_n 0, 1) := by decide +kernel
theorem dX10_isFull_1 : decode cX10_isFull 1 = .ok (.getfield 37, 3) := by decide +kernel
theorem dX10_isFull_4 : decode cX10_isFull 4 = .ok (.bipush 6, 2) := by decide +kernel
theorem dX10_isFull_6 : decode cX10_isFull 6 = .ok (.if_icmp .lt 7, 3) := by decide +kernel
theorem dX10_isFull_9 : decode cX10_isFull 9 = .ok (.iconst 1, 1) := by decide +kernel
theorem dX10_isFull_10 : decode cX10_isFull 10 = .ok (.goto 4, 3) := by decide +kernel
theorem dX10_isFull_13 : decode cX10_isFull 13 = .ok (.iconst 0, 1) := by decide +kernel
theorem dX10_isFull_14 : decode cX10_isFull 14 = .ok (.ireturn, 1) := by decide +kernel
theorem dX10_lastGrown_0 : decode cX10_lastGrown 0 = .ok (.aload_n 0, 1) := by decide +kernel
theorem dX10_lastGrown_1 : decode cX10_lastGrown 1 = .ok (.dup, 1) := by decide +kernel
theorem dX10_lastGrown_2 : decode cX10_lastGrown 2 = .ok (.getfield 37, 3) := by decide +kernel
theorem dX10_lastGrown_5 : decode cX10_lastGrown 5 = .ok (.iconst 1, 1) := by decide +kernel
theorem dX10_lastGrown_6 : decode cX10_lastGrown 6 = .ok (.iadd, 1) := by decide +kernel
theorem dX10_lastGrown_7 : decode cX10_lastGrown 7 = .ok (.putfield 37, 3) := by decide +kernel
theorem dX10_lastGrown_10 : decode cX10_lastGrown 10 = .ok (.aload_n 0, 1) := by decide +kernel
theorem dX10_lastGrown_11 : decode cX10_lastGrown 11 = .ok (.getfield 37, 3) := by decide +kernel
theorem dX10_lastGrown_14 : decode cX10_lastGrown 14 = .ok (.iconst 1, 1) := by decide +kernel
theorem dX10_lastGrown_15 : decode cX10_lastGrown 15 = .ok (.isub, 1) := by decide +kernel
theorem dX10_lastGrown_16 : decode cX10_lastGrown 16 = .ok (.ireturn, 1) := by decide +kernel
theorem dX10_dropSheet_0 : decode cX10_dropSheet 0 = .ok (.iload_n 1, 1) := by decide +kernel
theorem dX10_dropSheet_1 : decode cX10_dropSheet 1 = .ok (.istore_n 2, 1) := by decide +kernel
theorem dX10_dropSheet_2 : decode cX10_dropSheet 2 = .ok (.iload_n 2, 1) := by decide +kernel
theorem dX10_dropSheet_3 : decode cX10_dropSheet 3 = .ok (.iconst 1, 1) := by decide +kernel
theorem dX10_dropSheet_4 : decode cX10_dropSheet 4 = .ok (.iadd, 1) := by decide +kernel
theorem dX10_dropSheet_5 : decode cX10_dropSheet 5 = .ok (.aload_n 0, 1) := by decide +kernel
theorem dX10_dropSheet_6 : decode cX10_dropSheet 6 = .ok (.getfield 37, 3) := by decide +kernel
theorem dX10_dropSheet_9 : decode cX10_dropSheet 9 = .ok (.if_icmp .ge 26, 3) := by decide +kernel
theorem dX10_dropSheet_12 : decode cX10_dropSheet 12 = .ok (.aload_n 0, 1) := by decide +kernel
theorem dX10_dropSheet_13 : decode cX10_dropSheet 13 = .ok (.getfield 22, 3) := by decide +kernel
theorem dX10_dropSheet_16 : decode cX10_dropSheet 16 = .ok (.iload_n 2, 1) := by decide +kernel
theorem dX10_dropSheet_17 : decode cX10_dropSheet 17 = .ok (.aaload, 1) := by decide +kernel
theorem dX10_dropSheet_18 : decode cX10_dropSheet 18 = .ok (.aload_n 0, 1) := by decide +kernel
theorem dX10_dropSheet_19 : decode cX10_dropSheet 19 = .ok (.getfield 22, 3) := by decide +kernel
theorem dX10_dropSheet_22 : decode cX10_dropSheet 22 = .ok (.iload_n 2, 1) := by decide +kernel
theorem dX10_dropSheet_23 : decode cX10_dropSheet 23 = .ok (.iconst 1, 1) := by decide +kernel
theorem dX10_dropSheet_24 : decode cX10_dropSheet 24 = .ok (.iadd, 1) := by decide +kernel
theorem dX10_dropSheet_25 : decode cX10_dropSheet 25 = .ok (.aaload, 1) := by decide +kernel
theorem dX10_dropSheet_26 : decode cX10_dropSheet 26 = .ok (.invokevirtual 46, 3) := by decide +kernel
theorem dX10_dropSheet_29 : decode cX10_dropSheet 29 = .ok (.iinc 2 1, 3) := by decide +kernel
theorem dX10_dropSheet_32 : decode cX10_dropSheet 32 = .ok (.goto (-30), 3) := by decide +kernel
theorem dX10_dropSheet_35 : decode cX10_dropSheet 35 = .ok (.aload_n 0, 1) := by decide +kernel
theorem dX10_dropSheet_36 : decode cX10_dropSheet 36 = .ok (.dup, 1) := by decide +kernel
theorem dX10_dropSheet_37 : decode cX10_dropSheet 37 = .ok (.getfield 37, 3) := by decide +kernel
theorem dX10_dropSheet_40 : decode cX10_dropSheet 40 = .ok (.iconst 1, 1) := by decide +kernel
theorem dX10_dropSheet_41 : decode cX10_dropSheet 41 = .ok (.isub, 1) := by decide +kernel
theorem dX10_dropSheet_42 : decode cX10_dropSheet 42 = .ok (.putfield 37, 3) := by decide +kernel
theorem dX10_dropSheet_45 : decode cX10_dropSheet 45 = .ok (.return_, 1) := by decide +kernel
theorem dX11_init_0 : decode cX11_init 0 = .ok (.aload_n 0, 1) := by decide +kernel
theorem dX11_init_1 : decode cX11_init 1 = .ok (.invokespecial 1, 3) := by decide +kernel
theorem dX11_init_4 : decode cX11_init 4 = .ok (.aload_n 0, 1) := by decide +kernel
theorem dX11_init_5 : decode cX11_init 5 = .ok (.new 7, 3) := by decide +kernel
theorem dX11_init_8 : decode cX11_init 8 = .ok (.dup, 1) := by decide +kernel
theorem dX11_init_9 : decode cX11_init 9 = .ok (.invokespecial 9, 3) := by decide +kernel
theorem dX11_init_12 : decode cX11_init 12 = .ok (.putfield 10, 3) := by decide +kernel
theorem dX11_init_15 : decode cX11_init 15 = .ok (.aload_n 0, 1) := by decide +kernel
theorem dX11_init_16 : decode cX11_init 16 = .ok (.aload_n 0, 1) := by decide +kernel
theorem dX11_init_17 : decode cX11_init 17 = .ok (.getfield 10, 3) := by decide +kernel
theorem dX11_init_20 : decode cX11_init 20 = .ok (.getfield 16, 3) := by decide +kernel
theorem dX11_init_23 : decode cX11_init 23 = .ok (.putfield 20, 3) := by decide +kernel
theorem dX11_init_26 : decode cX11_init 26 = .ok (.aload_n 0, 1) := by decide +kernel
theorem dX11_init_27 : decode cX11_init 27 = .ok (.aload_n 0, 1) := by decide +kernel
theorem dX11_init_28 : decode cX11_init 28 = .ok (.getfield 10, 3) := by decide +kernel
theorem dX11_init_31 : decode cX11_init 31 = .ok (.getfield 21, 3) := by decide +kernel
theorem dX11_init_34 : decode cX11_init 34 = .ok (.putfield 25, 3) := by decide +kernel
theorem dX11_init_37 : decode cX11_init 37 = .ok (.aload_n 0, 1) := by decide +kernel
theorem dX11_init_38 : decode cX11_init 38 = .ok (.new 26, 3) := by decide +kernel
theorem dX11_init_41 : decode cX11_init 41 = .ok (.dup, 1) := by decide +kernel
theorem dX11_init_42 : decode cX11_init 42 = .ok (.invokespecial 28, 3) := by decide +kernel
theorem dX11_init_45 : decode cX11_init 45 = .ok (.putfield 29, 3) := by decide +kernel
theorem dX11_init_48 : decode cX11_init 48 = .ok (.aload_n 0, 1) := by decide +kernel
theorem dX11_init_49 : decode cX11_init 49 = .ok (.new 33, 3) := by decide +kernel
theorem dX11_init_52 : decode cX11_init 52 = .ok (.dup, 1) := by decide +kernel
theorem dX11_init_53 : decode cX11_init 53 = .ok (.invokespecial 35, 3) := by decide +kernel
theorem dX11_init_56 : decode cX11_init 56 = .ok (.putfield 36, 3) := by decide +kernel
theorem dX11_init_59 : decode cX11_init 59 = .ok (.aload_n 0, 1) := by decide +kernel
theorem dX11_init_60 : decode cX11_init 60 = .ok (.new 40, 3) := by decide +kernel
theorem dX11_init_63 : decode cX11_init 63 = .ok (.dup, 1) := by decide +kernel
theorem dX11_init_64 : decode cX11_init 64 = .ok (.invokespecial 42, 3) := by decide +kernel
theorem dX11_init_67 : decode cX11_init 67 = .ok (.putfield 43, 3) := by decide +kernel
theorem dX11_init_70 : decode cX11_init 70 = .ok (.aload_n 0, 1) := by decide +kernel
theorem dX11_init_71 : decode cX11_init 71 = .ok (.iconst 2, 1) := by decide +kernel
theorem dX11_init_72 : decode cX11_init 72 = .ok (.anewarray 49, 3) := by decide +kernel
theorem dX11_init_75 : decode cX11_init 75 = .ok (.putfield 51, 3) := by decide +kernel
theorem dX11_init_78 : decode cX11_init 78 = .ok (.iconst 0, 1) := by decide +kernel
theorem dX11_init_79 : decode cX11_init 79 = .ok (.istore_n 1, 1) := by decide +kernel
theorem dX11_init_80 : decode cX11_init 80 = .ok (.iload_n 1, 1) := by decide +kernel
theorem dX11_init_81 : decode cX11_init 81 = .ok (.aload_n 0, 1) := by decide +kernel
theorem dX11_init_82 : decode cX11_init 82 = .ok (.getfield 51, 3) := by decide +kernel
theorem dX11_init_85 : decode cX11_init 85 = .ok (.arraylength, 1) := by decide +kernel
theorem dX11_init_86 : decode cX11_init 86 = .ok (.if_icmp .ge 22, 3) := by decide +kernel
theorem dX11_init_89 : decode cX11_init 89 = .ok (.aload_n 0, 1) := by decide +kernel
theorem dX11_init_90 : decode cX11_init 90 = .ok (.getfield 51, 3) := by decide +kernel
theorem dX11_init_93 : decode cX11_init 93 = .ok (.iload_n 1, 1) := by decide +kernel
theorem dX11_init_94 : decode cX11_init 94 = .ok (.new 49, 3) := by decide +kernel
theorem dX11_init_97 : decode cX11_init 97 = .ok (.dup, 1) := by decide +kernel
theorem dX11_init_98 : decode cX11_init 98 = .ok (.invokespecial 55, 3) := by decide +kernel
theorem dX11_init_101 : decode cX11_init 101 = .ok (.aastore, 1) := by decide +kernel
theorem dX11_init_102 : decode cX11_init 102 = .ok (.iinc 1 1, 3) := by decide +kernel
theorem dX11_init_105 : decode cX11_init 105 = .ok (.goto (-25), 3) := by decide +kernel
theorem dX11_init_108 : decode cX11_init 108 = .ok (.return_, 1) := by decide +kernel
theorem dX11_told_0 : decode cX11_told 0 = .ok (.iload_n 1, 1) := by decide +kernel
theorem dX11_told_1 : decode cX11_told 1 = .ok (.tableswitch 103 0 11 #[63, 71, 103, 103, 103, 103, 103, 79, 103, 87, 103, 95], 63) := by decide +kernel
theorem dX11_told_64 : decode cX11_told 64 = .ok (.aload_n 0, 1) := by decide +kernel
theorem dX11_told_65 : decode cX11_told 65 = .ok (.getfield 20, 3) := by decide +kernel
theorem dX11_told_68 : decode cX11_told 68 = .ok (.getfield 56, 3) := by decide +kernel
theorem dX11_told_71 : decode cX11_told 71 = .ok (.ireturn, 1) := by decide +kernel
theorem dX11_told_72 : decode cX11_told 72 = .ok (.aload_n 0, 1) := by decide +kernel
theorem dX11_told_73 : decode cX11_told 73 = .ok (.getfield 20, 3) := by decide +kernel
theorem dX11_told_76 : decode cX11_told 76 = .ok (.invokevirtual 62, 3) := by decide +kernel
theorem dX11_told_79 : decode cX11_told 79 = .ok (.ireturn, 1) := by decide +kernel
theorem dX11_told_80 : decode cX11_told 80 = .ok (.aload_n 0, 1) := by decide +kernel
theorem dX11_told_81 : decode cX11_told 81 = .ok (.getfield 20, 3) := by decide +kernel
theorem dX11_told_84 : decode cX11_told 84 = .ok (.getfield 66, 3) := by decide +kernel
theorem dX11_told_87 : decode cX11_told 87 = .ok (.ireturn, 1) := by decide +kernel
theorem dX11_told_88 : decode cX11_told 88 = .ok (.aload_n 0, 1) := by decide +kernel
theorem dX11_told_89 : decode cX11_told 89 = .ok (.getfield 36, 3) := by decide +kernel
theorem dX11_told_92 : decode cX11_told 92 = .ok (.getfield 69, 3) := by decide +kernel
theorem dX11_told_95 : decode cX11_told 95 = .ok (.ireturn, 1) := by decide +kernel
theorem dX11_told_96 : decode cX11_told 96 = .ok (.aload_n 0, 1) := by decide +kernel
theorem dX11_told_97 : decode cX11_told 97 = .ok (.getfield 29, 3) := by decide +kernel
theorem dX11_told_100 : decode cX11_told 100 = .ok (.getfield 70, 3) := by decide +kernel
theorem dX11_told_103 : decode cX11_told 103 = .ok (.ireturn, 1) := by decide +kernel
theorem dX11_told_104 : decode cX11_told 104 = .ok (.iload_n 1, 1) := by decide +kernel
theorem dX11_told_105 : decode cX11_told 105 = .ok (.ifCond .lt 9, 3) := by decide +kernel
theorem dX11_told_108 : decode cX11_told 108 = .ok (.iload_n 1, 1) := by decide +kernel
theorem dX11_told_109 : decode cX11_told 109 = .ok (.bipush 11, 2) := by decide +kernel
theorem dX11_told_111 : decode cX11_told 111 = .ok (.if_icmp .le 6, 3) := by decide +kernel
theorem dX11_told_114 : decode cX11_told 114 = .ok (.ldc 71, 2) := by decide +kernel
theorem dX11_told_116 : decode cX11_told 116 = .ok (.ireturn, 1) := by decide +kernel
theorem dX11_told_117 : decode cX11_told 117 = .ok (.aload_n 0, 1) := by decide +kernel
theorem dX11_told_118 : decode cX11_told 118 = .ok (.getfield 25, 3) := by decide +kernel
theorem dX11_told_121 : decode cX11_told 121 = .ok (.aload_n 0, 1) := by decide +kernel
theorem dX11_told_122 : decode cX11_told 122 = .ok (.getfield 20, 3) := by decide +kernel
theorem dX11_told_125 : decode cX11_told 125 = .ok (.invokevirtual 72, 3) := by decide +kernel
theorem dX11_told_128 : decode cX11_told 128 = .ok (.iload_n 1, 1) := by decide +kernel
theorem dX11_told_129 : decode cX11_told 129 = .ok (.tableswitch 119 2 8 #[43, 51, 59, 67, 75, 119, 108], 43) := by decide +kernel
theorem dX11_told_172 : decode cX11_told 172 = .ok (.aload_n 0, 1) := by decide +kernel
theorem dX11_told_173 : decode cX11_told 173 = .ok (.getfield 25, 3) := by decide +kernel
theorem dX11_told_176 : decode cX11_told 176 = .ok (.getfield 78, 3) := by decide +kernel
theorem dX11_told_179 : decode cX11_told 179 = .ok (.ireturn, 1) := by decide +kernel
theorem dX11_told_180 : decode cX11_told 180 = .ok (.aload_n 0, 1) := by decide +kernel
theorem dX11_told_181 : decode cX11_told 181 = .ok (.getfield 25, 3) := by decide +kernel
theorem dX11_told_184 : decode cX11_told 184 = .ok (.getfield 81, 3) := by decide +kernel
theorem dX11_told_187 : decode cX11_told 187 = .ok (.ireturn, 1) := by decide +kernel
theorem dX11_told_188 : decode cX11_told 188 = .ok (.aload_n 0, 1) := by decide +kernel
theorem dX11_told_189 : decode cX11_told 189 = .ok (.getfield 25, 3) := by decide +kernel
theorem dX11_told_192 : decode cX11_told 192 = .ok (.invokevirtual 84, 3) := by decide +kernel
theorem dX11_told_195 : decode cX11_told 195 = .ok (.ireturn, 1) := by decide +kernel
theorem dX11_told_196 : decode cX11_told 196 = .ok (.aload_n 0, 1) := by decide +kernel
theorem dX11_told_197 : decode cX11_told 197 = .ok (.getfield 10, 3) := by decide +kernel
theorem dX11_told_200 : decode cX11_told 200 = .ok (.invokevirtual 87, 3) := by decide +kernel
theorem dX11_told_203 : decode cX11_told 203 = .ok (.ireturn, 1) := by decide +kernel
theorem dX11_told_204 : decode cX11_told 204 = .ok (.aload_n 0, 1) := by decide +kernel
theorem dX11_told_205 : decode cX11_told 205 = .ok (.getfield 25, 3) := by decide +kernel
theorem dX11_told_208 : decode cX11_told 208 = .ok (.invokevirtual 84, 3) := by decide +kernel
theorem dX11_told_211 : decode cX11_told 211 = .ok (.ifCond .ne 24, 3) := by decide +kernel
theorem dX11_told_214 : decode cX11_told 214 = .ok (.aload_n 0, 1) := by decide +kernel
theorem dX11_told_215 : decode cX11_told 215 = .ok (.getfield 10, 3) := by decide +kernel
theorem dX11_told_218 : decode cX11_told 218 = .ok (.invokevirtual 87, 3) := by decide +kernel
theorem dX11_told_221 : decode cX11_told 221 = .ok (.aload_n 0, 1) := by decide +kernel
theorem dX11_told_222 : decode cX11_told 222 = .ok (.getfield 25, 3) := by decide +kernel
theorem dX11_told_225 : decode cX11_told 225 = .ok (.getfield 78, 3) := by decide +kernel
theorem dX11_told_228 : decode cX11_told 228 = .ok (.if_icmp .ne 7, 3) := by decide +kernel
theorem dX11_told_231 : decode cX11_told 231 = .ok (.iconst 1, 1) := by decide +kernel
theorem dX11_told_232 : decode cX11_told 232 = .ok (.goto 4, 3) := by decide +kernel
theorem dX11_told_235 : decode cX11_told 235 = .ok (.iconst 0, 1) := by decide +kernel
theorem dX11_told_236 : decode cX11_told 236 = .ok (.ireturn, 1) := by decide +kernel
theorem dX11_told_237 : decode cX11_told 237 = .ok (.aload_n 0, 1) := by decide +kernel
theorem dX11_told_238 : decode cX11_told 238 = .ok (.getfield 10, 3) := by decide +kernel
theorem dX11_told_241 : decode cX11_told 241 = .ok (.invokevirtual 90, 3) := by decide +kernel
theorem dX11_told_244 : decode cX11_told 244 = .ok (.bipush 100, 2) := by decide +kernel
theorem dX11_told_246 : decode cX11_told 246 = .ok (.iadd, 1) := by decide +kernel
theorem dX11_told_247 : decode cX11_told 247 = .ok (.ireturn, 1) := by decide +kernel
theorem dX11_told_248 : decode cX11_told 248 = .ok (.aload_n 0, 1) := by decide +kernel
theorem dX11_told_249 : decode cX11_told 249 = .ok (.getfield 36, 3) := by decide +kernel
theorem dX11_told_252 : decode cX11_told 252 = .ok (.aload_n 0, 1) := by decide +kernel
theorem dX11_told_253 : decode cX11_told 253 = .ok (.getfield 20, 3) := by decide +kernel
theorem dX11_told_256 : decode cX11_told 256 = .ok (.aload_n 0, 1) := by decide +kernel
theorem dX11_told_257 : decode cX11_told 257 = .ok (.getfield 10, 3) := by decide +kernel
theorem dX11_told_260 : decode cX11_told 260 = .ok (.invokevirtual 93, 3) := by decide +kernel
theorem dX11_told_263 : decode cX11_told 263 = .ok (.ireturn, 1) := by decide +kernel
theorem dX11_wall_0 : decode cX11_wall 0 = .ok (.aload_n 0, 1) := by decide +kernel
theorem dX11_wall_1 : decode cX11_wall 1 = .ok (.iload_n 1, 1) := by decide +kernel
theorem dX11_wall_2 : decode cX11_wall 2 = .ok (.iload_n 2, 1) := by decide +kernel
theorem dX11_wall_3 : decode cX11_wall 3 = .ok (.invokevirtual 97, 3) := by decide +kernel
theorem dX11_wall_6 : decode cX11_wall 6 = .ok (.ifCond .ne 6, 3) := by decide +kernel
theorem dX11_wall_9 : decode cX11_wall 9 = .ok (.ldc 101, 2) := by decide +kernel
theorem dX11_wall_11 : decode cX11_wall 11 = .ok (.ireturn, 1) := by decide +kernel
theorem dX11_wall_12 : decode cX11_wall 12 = .ok (.iload_n 3, 1) := by decide +kernel
theorem dX11_wall_13 : decode cX11_wall 13 = .ok (.ifCond .lt 8, 3) := by decide +kernel
theorem dX11_wall_16 : decode cX11_wall 16 = .ok (.iload_n 3, 1) := by decide +kernel
theorem dX11_wall_17 : decode cX11_wall 17 = .ok (.iconst 2, 1) := by decide +kernel
theorem dX11_wall_18 : decode cX11_wall 18 = .ok (.if_icmp .le 6, 3) := by decide +kernel
theorem dX11_wall_21 : decode cX11_wall 21 = .ok (.ldc 71, 2) := by decide +kernel
theorem dX11_wall_23 : decode cX11_wall 23 = .ok (.ireturn, 1) := by decide +kernel
theorem dX11_wall_24 : decode cX11_wall 24 = .ok (.iconst 4, 1) := by decide +kernel
theorem dX11_wall_25 : decode cX11_wall 25 = .ok (.iload_n 1, 1) := by decide +kernel
theorem dX11_wall_26 : decode cX11_wall 26 = .ok (.imul, 1) := by decide +kernel
theorem dX11_wall_27 : decode cX11_wall 27 = .ok (.iload_n 2, 1) := by decide +kernel
theorem dX11_wall_28 : decode cX11_wall 28 = .ok (.iadd, 1) := by decide +kernel
theorem dX11_wall_29 : decode cX11_wall 29 = .ok (.istore 4, 2) := by decide +kernel
theorem dX11_wall_31 : decode cX11_wall 31 = .ok (.aload_n 0, 1) := by decide +kernel
theorem dX11_wall_32 : decode cX11_wall 32 = .ok (.getfield 20, 3) := by decide +kernel
theorem dX11_wall_35 : decode cX11_wall 35 = .ok (.getfield 102, 3) := by decide +kernel
theorem dX11_wall_38 : decode cX11_wall 38 = .ok (.iload 4, 2) := by decide +kernel
theorem dX11_wall_40 : decode cX11_wall 40 = .ok (.iaload, 1) := by decide +kernel
theorem dX11_wall_41 : decode cX11_wall 41 = .ok (.istore 5, 2) := by decide +kernel
theorem dX11_wall_43 : decode cX11_wall 43 = .ok (.iload 5, 2) := by decide +kernel
theorem dX11_wall_45 : decode cX11_wall 45 = .ok (.ifCond .ge 5, 3) := by decide +kernel
theorem dX11_wall_48 : decode cX11_wall 48 = .ok (.iconst (-1), 1) := by decide +kernel
theorem dX11_wall_49 : decode cX11_wall 49 = .ok (.ireturn, 1) := by decide +kernel
theorem dX11_wall_50 : decode cX11_wall 50 = .ok (.iload_n 3, 1) := by decide +kernel
theorem dX11_wall_51 : decode cX11_wall 51 = .ok (.lookupswitch 35 #[(0, 25), (1, 30)], 25) := by decide +kernel
theorem dX11_wall_76 : decode cX11_wall 76 = .ok (.iload 5, 2) := by decide +kernel
theorem dX11_wall_78 : decode cX11_wall 78 = .ok (.iconst 4, 1) := by decide +kernel
theorem dX11_wall_79 : decode cX11_wall 79 = .ok (.idiv, 1) := by decide +kernel
theorem dX11_wall_80 : decode cX11_wall 80 = .ok (.ireturn, 1) := by decide +kernel
theorem dX11_wall_81 : decode cX11_wall 81 = .ok (.iload 5, 2) := by decide +kernel
theorem dX11_wall_83 : decode cX11_wall 83 = .ok (.iconst 4, 1) := by decide +kernel
theorem dX11_wall_84 : decode cX11_wall 84 = .ok (.irem, 1) := by decide +kernel
theorem dX11_wall_85 : decode cX11_wall 85 = .ok (.ireturn, 1) := by decide +kernel
theorem dX11_wall_86 : decode cX11_wall 86 = .ok (.aload_n 0, 1) := by decide +kernel
theorem dX11_wall_87 : decode cX11_wall 87 = .ok (.getfield 20, 3) := by decide +kernel
theorem dX11_wall_90 : decode cX11_wall 90 = .ok (.getfield 106, 3) := by decide +kernel
theorem dX11_wall_93 : decode cX11_wall 93 = .ok (.iload 4, 2) := by decide +kernel
theorem dX11_wall_95 : decode cX11_wall 95 = .ok (.iaload, 1) := by decide +kernel
theorem dX11_wall_96 : decode cX11_wall 96 = .ok (.ireturn, 1) := by decide +kernel
theorem dX11_corner_0 : decode cX11_corner 0 = .ok (.aload_n 0, 1) := by decide +kernel
theorem dX11_corner_1 : decode cX11_corner 1 = .ok (.iload_n 1, 1) := by decide +kernel
theorem dX11_corner_2 : decode cX11_corner 2 = .ok (.iload_n 2, 1) := by decide +kernel
theorem dX11_corner_3 : decode cX11_corner 3 = .ok (.invokevirtual 97, 3) := by decide +kernel
theorem dX11_corner_6 : decode cX11_corner 6 = .ok (.ifCond .ne 6, 3) := by decide +kernel
theorem dX11_corner_9 : decode cX11_corner 9 = .ok (.ldc 101, 2) := by decide +kernel
theorem dX11_corner_11 : decode cX11_corner 11 = .ok (.ireturn, 1) := by decide +kernel
theorem dX11_corner_12 : decode cX11_corner 12 = .ok (.iload_n 3, 1) := by decide +kernel
theorem dX11_corner_13 : decode cX11_corner 13 = .ok (.ifCond .lt 8, 3) := by decide +kernel
theorem dX11_corner_16 : decode cX11_corner 16 = .ok (.iload_n 3, 1) := by decide +kernel
theorem dX11_corner_17 : decode cX11_corner 17 = .ok (.iconst 4, 1) := by decide +kernel
theorem dX11_corner_18 : decode cX11_corner 18 = .ok (.if_icmp .le 6, 3) := by decide +kernel
theorem dX11_corner_21 : decode cX11_corner 21 = .ok (.ldc 71, 2) := by decide +kernel
theorem dX11_corner_23 : decode cX11_corner 23 = .ok (.ireturn, 1) := by decide +kernel
theorem dX11_corner_24 : decode cX11_corner 24 = .ok (.iload_n 3, 1) := by decide +kernel
theorem dX11_corner_25 : decode cX11_corner 25 = .ok (.ifCond .le 19, 3) := by decide +kernel
theorem dX11_corner_28 : decode cX11_corner 28 = .ok (.aload_n 0, 1) := by decide +kernel
theorem dX11_corner_29 : decode cX11_corner 29 = .ok (.getfield 20, 3) := by decide +kernel
theorem dX11_corner_32 : decode cX11_corner 32 = .ok (.iconst 4, 1) := by decide +kernel
theorem dX11_corner_33 : decode cX11_corner 33 = .ok (.iload_n 1, 1) := by decide +kernel
theorem dX11_corner_34 : decode cX11_corner 34 = .ok (.imul, 1) := by decide +kernel
theorem dX11_corner_35 : decode cX11_corner 35 = .ok (.iload_n 3, 1) := by decide +kernel
theorem dX11_corner_36 : decode cX11_corner 36 = .ok (.iadd, 1) := by decide +kernel
theorem dX11_corner_37 : decode cX11_corner 37 = .ok (.iconst 1, 1) := by decide +kernel
theorem dX11_corner_38 : decode cX11_corner 38 = .ok (.isub, 1) := by decide +kernel
theorem dX11_corner_39 : decode cX11_corner 39 = .ok (.iload_n 2, 1) := by decide +kernel
theorem dX11_corner_40 : decode cX11_corner 40 = .ok (.invokevirtual 109, 3) := by decide +kernel
theorem dX11_corner_43 : decode cX11_corner 43 = .ok (.ireturn, 1) := by decide +kernel
theorem dX11_corner_44 : decode cX11_corner 44 = .ok (.aload_n 0, 1) := by decide +kernel
theorem dX11_corner_45 : decode cX11_corner 45 = .ok (.getfield 25, 3) := by decide +kernel
theorem dX11_corner_48 : decode cX11_corner 48 = .ok (.aload_n 0, 1) := by decide +kernel
theorem dX11_corner_49 : decode cX11_corner 49 = .ok (.getfield 20, 3) := by decide +kernel
theorem dX11_corner_52 : decode cX11_corner 52 = .ok (.invokevirtual 72, 3) := by decide +kernel
theorem dX11_corner_55 : decode cX11_corner 55 = .ok (.aload_n 0, 1) := by decide +kernel
theorem dX11_corner_56 : decode cX11_corner 56 = .ok (.getfield 25, 3) := by decide +kernel
theorem dX11_corner_59 : decode cX11_corner 59 = .ok (.getfield 113, 3) := by decide +kernel
theorem dX11_corner_62 : decode cX11_corner 62 = .ok (.iconst 4, 1) := by decide +kernel
theorem dX11_corner_63 : decode cX11_corner 63 = .ok (.iload_n 1, 1) := by decide +kernel
theorem dX11_corner_64 : decode cX11_corner 64 = .ok (.imul, 1) := by decide +kernel
theorem dX11_corner_65 : decode cX11_corner 65 = .ok (.iload_n 2, 1) := by decide +kernel
theorem dX11_corner_66 : decode cX11_corner 66 = .ok (.iadd, 1) := by decide +kernel
theorem dX11_corner_67 : decode cX11_corner 67 = .ok (.iaload, 1) := by decide +kernel
theorem dX11_corner_68 : decode cX11_corner 68 = .ok (.ireturn, 1) := by decide +kernel
theorem dX11_edge_0 : decode cX11_edge 0 = .ok (.aload_n 0, 1) := by decide +kernel
theorem dX11_edge_1 : decode cX11_edge 1 = .ok (.iload_n 1, 1) := by decide +kernel
theorem dX11_edge_2 : decode cX11_edge 2 = .ok (.iload_n 2, 1) := by decide +kernel
theorem dX11_edge_3 : decode cX11_edge 3 = .ok (.invokevirtual 116, 3) := by decide +kernel
theorem dX11_edge_6 : decode cX11_edge 6 = .ok (.ifCond .ne 6, 3) := by decide +kernel
theorem dX11_edge_9 : decode cX11_edge 9 = .ok (.ldc 101, 2) := by decide +kernel
theorem dX11_edge_11 : decode cX11_edge 11 = .ok (.ireturn, 1) := by decide +kernel
theorem dX11_edge_12 : decode cX11_edge 12 = .ok (.iload_n 3, 1) := by decide +kernel
theorem dX11_edge_13 : decode cX11_edge 13 = .ok (.ifCond .lt 8, 3) := by decide +kernel
theorem dX11_edge_16 : decode cX11_edge 16 = .ok (.iload_n 3, 1) := by decide +kernel
theorem dX11_edge_17 : decode cX11_edge 17 = .ok (.iconst 2, 1) := by decide +kernel
theorem dX11_edge_18 : decode cX11_edge 18 = .ok (.if_icmp .le 6, 3) := by decide +kernel
theorem dX11_edge_21 : decode cX11_edge 21 = .ok (.ldc 71, 2) := by decide +kernel
theorem dX11_edge_23 : decode cX11_edge 23 = .ok (.ireturn, 1) := by decide +kernel
theorem dX11_edge_24 : decode cX11_edge 24 = .ok (.aload_n 0, 1) := by decide +kernel
theorem dX11_edge_25 : decode cX11_edge 25 = .ok (.getfield 25, 3) := by decide +kernel
theorem dX11_edge_28 : decode cX11_edge 28 = .ok (.aload_n 0, 1) := by decide +kernel
theorem dX11_edge_29 : decode cX11_edge 29 = .ok (.getfield 20, 3) := by decide +kernel
theorem dX11_edge_32 : decode cX11_edge 32 = .ok (.invokevirtual 72, 3) := by decide +kernel
theorem dX11_edge_35 : decode cX11_edge 35 = .ok (.aload_n 0, 1) := by decide +kernel
theorem dX11_edge_36 : decode cX11_edge 36 = .ok (.getfield 25, 3) := by decide +kernel
theorem dX11_edge_39 : decode cX11_edge 39 = .ok (.getfield 119, 3) := by decide +kernel
theorem dX11_edge_42 : decode cX11_edge 42 = .ok (.bipush 6, 2) := by decide +kernel
theorem dX11_edge_44 : decode cX11_edge 44 = .ok (.iload_n 1, 1) := by decide +kernel
theorem dX11_edge_45 : decode cX11_edge 45 = .ok (.imul, 1) := by decide +kernel
theorem dX11_edge_46 : decode cX11_edge 46 = .ok (.iload_n 2, 1) := by decide +kernel
theorem dX11_edge_47 : decode cX11_edge 47 = .ok (.iadd, 1) := by decide +kernel
theorem dX11_edge_48 : decode cX11_edge 48 = .ok (.iaload, 1) := by decide +kernel
theorem dX11_edge_49 : decode cX11_edge 49 = .ok (.istore 4, 2) := by decide +kernel
theorem dX11_edge_51 : decode cX11_edge 51 = .ok (.iload_n 3, 1) := by decide +kernel
theorem dX11_edge_52 : decode cX11_edge 52 = .ok (.lookupswitch 42 #[(0, 28), (1, 31)], 28) := by decide +kernel
theorem dX11_edge_80 : decode cX11_edge 80 = .ok (.iload 4, 2) := by decide +kernel
theorem dX11_edge_82 : decode cX11_edge 82 = .ok (.ireturn, 1) := by decide +kernel
theorem dX11_edge_83 : decode cX11_edge 83 = .ok (.aload_n 0, 1) := by decide +kernel
theorem dX11_edge_84 : decode cX11_edge 84 = .ok (.getfield 25, 3) := by decide +kernel
theorem dX11_edge_87 : decode cX11_edge 87 = .ok (.getfield 122, 3) := by decide +kernel
theorem dX11_edge_90 : decode cX11_edge 90 = .ok (.iload 4, 2) := by decide +kernel
theorem dX11_edge_92 : decode cX11_edge 92 = .ok (.iaload, 1) := by decide +kernel
theorem dX11_edge_93 : decode cX11_edge 93 = .ok (.ireturn, 1) := by decide +kernel
theorem dX11_edge_94 : decode cX11_edge 94 = .ok (.aload_n 0, 1) := by decide +kernel
theorem dX11_edge_95 : decode cX11_edge 95 = .ok (.getfield 25, 3) := by decide +kernel
theorem dX11_edge_98 : decode cX11_edge 98 = .ok (.iload 4, 2) := by decide +kernel
theorem dX11_edge_100 : decode cX11_edge 100 = .ok (.invokevirtual 125, 3) := by decide +kernel
theorem dX11_edge_103 : decode cX11_edge 103 = .ok (.ifCond .eq 7, 3) := by decide +kernel
theorem dX11_edge_106 : decode cX11_edge 106 = .ok (.iconst 1, 1) := by decide +kernel
theorem dX11_edge_107 : decode cX11_edge 107 = .ok (.goto 4, 3) := by decide +kernel
theorem dX11_edge_110 : decode cX11_edge 110 = .ok (.iconst 0, 1) := by decide +kernel
theorem dX11_edge_111 : decode cX11_edge 111 = .ok (.ireturn, 1) := by decide +kernel
theorem dX11_pieces_0 : decode cX11_pieces 0 = .ok (.aload_n 0, 1) := by decide +kernel
theorem dX11_pieces_1 : decode cX11_pieces 1 = .ok (.iload_n 1, 1) := by decide +kernel
theorem dX11_pieces_2 : decode cX11_pieces 2 = .ok (.invokevirtual 129, 3) := by decide +kernel
theorem dX11_pieces_5 : decode cX11_pieces 5 = .ok (.ifCond .eq 11, 3) := by decide +kernel
theorem dX11_pieces_8 : decode cX11_pieces 8 = .ok (.aload_n 0, 1) := by decide +kernel
theorem dX11_pieces_9 : decode cX11_pieces 9 = .ok (.iload_n 2, 1) := by decide +kernel
theorem dX11_pieces_10 : decode cX11_pieces 10 = .ok (.invokevirtual 132, 3) := by decide +kernel
theorem dX11_pieces_13 : decode cX11_pieces 13 = .ok (.ifCond .ne 6, 3) := by decide +kernel
theorem dX11_pieces_16 : decode cX11_pieces 16 = .ok (.ldc 101, 2) := by decide +kernel
theorem dX11_pieces_18 : decode cX11_pieces 18 = .ok (.ireturn, 1) := by decide +kernel
theorem dX11_pieces_19 : decode cX11_pieces 19 = .ok (.iload_n 3, 1) := by decide +kernel
theorem dX11_pieces_20 : decode cX11_pieces 20 = .ok (.invokestatic 135, 3) := by decide +kernel
theorem dX11_pieces_23 : decode cX11_pieces 23 = .ok (.ifCond .ne 6, 3) := by decide +kernel
theorem dX11_pieces_26 : decode cX11_pieces 26 = .ok (.ldc 71, 2) := by decide +kernel
theorem dX11_pieces_28 : decode cX11_pieces 28 = .ok (.ireturn, 1) := by decide +kernel
theorem dX11_pieces_29 : decode cX11_pieces 29 = .ok (.aload_n 0, 1) := by decide +kernel
theorem dX11_pieces_30 : decode cX11_pieces 30 = .ok (.getfield 20, 3) := by decide +kernel
theorem dX11_pieces_33 : decode cX11_pieces 33 = .ok (.getfield 138, 3) := by decide +kernel
theorem dX11_pieces_36 : decode cX11_pieces 36 = .ok (.iload_n 1, 1) := by decide +kernel
theorem dX11_pieces_37 : decode cX11_pieces 37 = .ok (.aaload, 1) := by decide +kernel
theorem dX11_pieces_38 : decode cX11_pieces 38 = .ok (.getfield 142, 3) := by decide +kernel
theorem dX11_pieces_41 : decode cX11_pieces 41 = .ok (.bipush 7, 2) := by decide +kernel
theorem dX11_pieces_43 : decode cX11_pieces 43 = .ok (.iload_n 2, 1) := by decide +kernel
theorem dX11_pieces_44 : decode cX11_pieces 44 = .ok (.imul, 1) := by decide +kernel
theorem dX11_pieces_45 : decode cX11_pieces 45 = .ok (.iload_n 3, 1) := by decide +kernel
theorem dX11_pieces_46 : decode cX11_pieces 46 = .ok (.iadd, 1) := by decide +kernel
theorem dX11_pieces_47 : decode cX11_pieces 47 = .ok (.iaload, 1) := by decide +kernel
theorem dX11_pieces_48 : decode cX11_pieces 48 = .ok (.ireturn, 1) := by decide +kernel
theorem dX11_surface_0 : decode cX11_surface 0 = .ok (.aload_n 0, 1) := by decide +kernel
theorem dX11_surface_1 : decode cX11_surface 1 = .ok (.iload_n 1, 1) := by decide +kernel
theorem dX11_surface_2 : decode cX11_surface 2 = .ok (.invokevirtual 129, 3) := by decide +kernel
theorem dX11_surface_5 : decode cX11_surface 5 = .ok (.ifCond .ne 6, 3) := by decide +kernel
theorem dX11_surface_8 : decode cX11_surface 8 = .ok (.ldc 101, 2) := by decide +kernel
theorem dX11_surface_10 : decode cX11_surface 10 = .ok (.ireturn, 1) := by decide +kernel
theorem dX11_surface_11 : decode cX11_surface 11 = .ok (.iload_n 2, 1) := by decide +kernel
theorem dX11_surface_12 : decode cX11_surface 12 = .ok (.ifCond .lt 9, 3) := by decide +kernel
theorem dX11_surface_15 : decode cX11_surface 15 = .ok (.iload_n 2, 1) := by decide +kernel
theorem dX11_surface_16 : decode cX11_surface 16 = .ok (.bipush 8, 2) := by decide +kernel
theorem dX11_surface_18 : decode cX11_surface 18 = .ok (.if_icmp .le 6, 3) := by decide +kernel
theorem dX11_surface_21 : decode cX11_surface 21 = .ok (.ldc 71, 2) := by decide +kernel
theorem dX11_surface_23 : decode cX11_surface 23 = .ok (.ireturn, 1) := by decide +kernel
theorem dX11_surface_24 : decode cX11_surface 24 = .ok (.aload_n 0, 1) := by decide +kernel
theorem dX11_surface_25 : decode cX11_surface 25 = .ok (.getfield 20, 3) := by decide +kernel
theorem dX11_surface_28 : decode cX11_surface 28 = .ok (.getfield 138, 3) := by decide +kernel
theorem dX11_surface_31 : decode cX11_surface 31 = .ok (.iload_n 1, 1) := by decide +kernel
theorem dX11_surface_32 : decode cX11_surface 32 = .ok (.aaload, 1) := by decide +kernel
theorem dX11_surface_33 : decode cX11_surface 33 = .ok (.astore_n 3, 1) := by decide +kernel
theorem dX11_surface_34 : decode cX11_surface 34 = .ok (.iload_n 2, 1) := by decide +kernel
theorem dX11_surface_35 : decode cX11_surface 35 = .ok (.tableswitch 60 0 2 #[25, 42, 55], 25) := by decide +kernel
theorem dX11_surface_60 : decode cX11_surface 60 = .ok (.aload_n 0, 1) := by decide +kernel
theorem dX11_surface_61 : decode cX11_surface 61 = .ok (.getfield 10, 3) := by decide +kernel
theorem dX11_surface_64 : decode cX11_surface 64 = .ok (.aload_n 3, 1) := by decide +kernel
theorem dX11_surface_65 : decode cX11_surface 65 = .ok (.invokevirtual 147, 3) := by decide +kernel
theorem dX11_surface_68 : decode cX11_surface 68 = .ok (.ifCond .eq 7, 3) := by decide +kernel
theorem dX11_surface_71 : decode cX11_surface 71 = .ok (.iconst 1, 1) := by decide +kernel
theorem dX11_surface_72 : decode cX11_surface 72 = .ok (.goto 4, 3) := by decide +kernel
theorem dX11_surface_75 : decode cX11_surface 75 = .ok (.iconst 0, 1) := by decide +kernel
theorem dX11_surface_76 : decode cX11_surface 76 = .ok (.ireturn, 1) := by decide +kernel
theorem dX11_surface_77 : decode cX11_surface 77 = .ok (.aload_n 3, 1) := by decide +kernel
theorem dX11_surface_78 : decode cX11_surface 78 = .ok (.invokevirtual 151, 3) := by decide +kernel
theorem dX11_surface_81 : decode cX11_surface 81 = .ok (.ifCond .eq 7, 3) := by decide +kernel
theorem dX11_surface_84 : decode cX11_surface 84 = .ok (.iconst 1, 1) := by decide +kernel
theorem dX11_surface_85 : decode cX11_surface 85 = .ok (.goto 4, 3) := by decide +kernel
theorem dX11_surface_88 : decode cX11_surface 88 = .ok (.iconst 0, 1) := by decide +kernel
theorem dX11_surface_89 : decode cX11_surface 89 = .ok (.ireturn, 1) := by decide +kernel
theorem dX11_surface_90 : decode cX11_surface 90 = .ok (.aload_n 3, 1) := by decide +kernel
theorem dX11_surface_91 : decode cX11_surface 91 = .ok (.invokevirtual 155, 3) := by decide +kernel
theorem dX11_surface_94 : decode cX11_surface 94 = .ok (.ireturn, 1) := by decide +kernel
theorem dX11_surface_95 : decode cX11_surface 95 = .ok (.aload_n 0, 1) := by decide +kernel
theorem dX11_surface_96 : decode cX11_surface 96 = .ok (.getfield 10, 3) := by decide +kernel
theorem dX11_surface_99 : decode cX11_surface 99 = .ok (.aload_n 3, 1) := by decide +kernel
theorem dX11_surface_100 : decode cX11_surface 100 = .ok (.invokevirtual 158, 3) := by decide +kernel
theorem dX11_surface_103 : decode cX11_surface 103 = .ok (.ifCond .ne 5, 3) := by decide +kernel
theorem dX11_surface_106 : decode cX11_surface 106 = .ok (.iconst (-1), 1) := by decide +kernel
theorem dX11_surface_107 : decode cX11_surface 107 = .ok (.ireturn, 1) := by decide +kernel
theorem dX11_surface_108 : decode cX11_surface 108 = .ok (.aload_n 0, 1) := by decide +kernel
theorem dX11_surface_109 : decode cX11_surface 109 = .ok (.getfield 25, 3) := by decide +kernel
theorem dX11_surface_112 : decode cX11_surface 112 = .ok (.aload_n 0, 1) := by decide +kernel
theorem dX11_surface_113 : decode cX11_surface 113 = .ok (.getfield 20, 3) := by decide +kernel
theorem dX11_surface_116 : decode cX11_surface 116 = .ok (.invokevirtual 72, 3) := by decide +kernel
theorem dX11_surface_119 : decode cX11_surface 119 = .ok (.aload_n 0, 1) := by decide +kernel
theorem dX11_surface_120 : decode cX11_surface 120 = .ok (.getfield 10, 3) := by decide +kernel
theorem dX11_surface_123 : decode cX11_surface 123 = .ok (.aload_n 3, 1) := by decide +kernel
theorem dX11_surface_124 : decode cX11_surface 124 = .ok (.iload_n 2, 1) := by decide +kernel
theorem dX11_surface_125 : decode cX11_surface 125 = .ok (.invokevirtual 161, 3) := by decide +kernel
theorem dX11_surface_128 : decode cX11_surface 128 = .ok (.ireturn, 1) := by decide +kernel
theorem dX11_weight_0 : decode cX11_weight 0 = .ok (.aload_n 0, 1) := by decide +kernel
theorem dX11_weight_1 : decode cX11_weight 1 = .ok (.iload_n 1, 1) := by decide +kernel
theorem dX11_weight_2 : decode cX11_weight 2 = .ok (.invokevirtual 129, 3) := by decide +kernel
theorem dX11_weight_5 : decode cX11_weight 5 = .ok (.ifCond .eq 12, 3) := by decide +kernel
theorem dX11_weight_8 : decode cX11_weight 8 = .ok (.aload_n 0, 1) := by decide +kernel
theorem dX11_weight_9 : decode cX11_weight 9 = .ok (.iload_n 2, 1) := by decide +kernel
theorem dX11_weight_10 : decode cX11_weight 10 = .ok (.iload_n 3, 1) := by decide +kernel
theorem dX11_weight_11 : decode cX11_weight 11 = .ok (.invokevirtual 116, 3) := by decide +kernel
theorem dX11_weight_14 : decode cX11_weight 14 = .ok (.ifCond .ne 6, 3) := by decide +kernel
theorem dX11_weight_17 : decode cX11_weight 17 = .ok (.ldc 101, 2) := by decide +kernel
theorem dX11_weight_19 : decode cX11_weight 19 = .ok (.ireturn, 1) := by decide +kernel
theorem dX11_weight_20 : decode cX11_weight 20 = .ok (.aload_n 0, 1) := by decide +kernel
theorem dX11_weight_21 : decode cX11_weight 21 = .ok (.getfield 20, 3) := by decide +kernel
theorem dX11_weight_24 : decode cX11_weight 24 = .ok (.getfield 138, 3) := by decide +kernel
theorem dX11_weight_27 : decode cX11_weight 27 = .ok (.iload_n 1, 1) := by decide +kernel
theorem dX11_weight_28 : decode cX11_weight 28 = .ok (.aaload, 1) := by decide +kernel
theorem dX11_weight_29 : decode cX11_weight 29 = .ok (.iload_n 2, 1) := by decide +kernel
theorem dX11_weight_30 : decode cX11_weight 30 = .ok (.iload_n 3, 1) := by decide +kernel
theorem dX11_weight_31 : decode cX11_weight 31 = .ok (.invokevirtual 165, 3) := by decide +kernel
theorem dX11_weight_34 : decode cX11_weight 34 = .ok (.ireturn, 1) := by decide +kernel
theorem dX11_arcs_0 : decode cX11_arcs 0 = .ok (.aload_n 0, 1) := by decide +kernel
theorem dX11_arcs_1 : decode cX11_arcs 1 = .ok (.iload_n 1, 1) := by decide +kernel
theorem dX11_arcs_2 : decode cX11_arcs 2 = .ok (.invokevirtual 129, 3) := by decide +kernel
theorem dX11_arcs_5 : decode cX11_arcs 5 = .ok (.ifCond .eq 28, 3) := by decide +kernel
theorem dX11_arcs_8 : decode cX11_arcs 8 = .ok (.aload_n 0, 1) := by decide +kernel
theorem dX11_arcs_9 : decode cX11_arcs 9 = .ok (.iload_n 2, 1) := by decide +kernel
theorem dX11_arcs_10 : decode cX11_arcs 10 = .ok (.iload_n 3, 1) := by decide +kernel
theorem dX11_arcs_11 : decode cX11_arcs 11 = .ok (.invokevirtual 97, 3) := by decide +kernel
theorem dX11_arcs_14 : decode cX11_arcs 14 = .ok (.ifCond .eq 19, 3) := by decide +kernel
theorem dX11_arcs_17 : decode cX11_arcs 17 = .ok (.aload_n 0, 1) := by decide +kernel
theorem dX11_arcs_18 : decode cX11_arcs 18 = .ok (.iload_n 2, 1) := by decide +kernel
theorem dX11_arcs_19 : decode cX11_arcs 19 = .ok (.iload 4, 2) := by decide +kernel
theorem dX11_arcs_21 : decode cX11_arcs 21 = .ok (.invokevirtual 97, 3) := by decide +kernel
theorem dX11_arcs_24 : decode cX11_arcs 24 = .ok (.ifCond .eq 9, 3) := by decide +kernel
theorem dX11_arcs_27 : decode cX11_arcs 27 = .ok (.iload 4, 2) := by decide +kernel
theorem dX11_arcs_29 : decode cX11_arcs 29 = .ok (.iload_n 3, 1) := by decide +kernel
theorem dX11_arcs_30 : decode cX11_arcs 30 = .ok (.if_icmp .ne 6, 3) := by decide +kernel
theorem dX11_arcs_33 : decode cX11_arcs 33 = .ok (.ldc 101, 2) := by decide +kernel
theorem dX11_arcs_35 : decode cX11_arcs 35 = .ok (.ireturn, 1) := by decide +kernel
theorem dX11_arcs_36 : decode cX11_arcs 36 = .ok (.aload_n 0, 1) := by decide +kernel
theorem dX11_arcs_37 : decode cX11_arcs 37 = .ok (.getfield 20, 3) := by decide +kernel
theorem dX11_arcs_40 : decode cX11_arcs 40 = .ok (.getfield 138, 3) := by decide +kernel
theorem dX11_arcs_43 : decode cX11_arcs 43 = .ok (.iload_n 1, 1) := by decide +kernel
theorem dX11_arcs_44 : decode cX11_arcs 44 = .ok (.aaload, 1) := by decide +kernel
theorem dX11_arcs_45 : decode cX11_arcs 45 = .ok (.iload_n 2, 1) := by decide +kernel
theorem dX11_arcs_46 : decode cX11_arcs 46 = .ok (.iload_n 3, 1) := by decide +kernel
theorem dX11_arcs_47 : decode cX11_arcs 47 = .ok (.iload 4, 2) := by decide +kernel
theorem dX11_arcs_49 : decode cX11_arcs 49 = .ok (.invokevirtual 168, 3) := by decide +kernel
theorem dX11_arcs_52 : decode cX11_arcs 52 = .ok (.ireturn, 1) := by decide +kernel
theorem dX11_bodies_0 : decode cX11_bodies 0 = .ok (.iload_n 1, 1) := by decide +kernel
theorem dX11_bodies_1 : decode cX11_bodies 1 = .ok (.iconst 1, 1) := by decide +kernel
theorem dX11_bodies_2 : decode cX11_bodies 2 = .ok (.if_icmp .lt 8, 3) := by decide +kernel
theorem dX11_bodies_5 : decode cX11_bodies 5 = .ok (.iload_n 1, 1) := by decide +kernel
theorem dX11_bodies_6 : decode cX11_bodies 6 = .ok (.iconst 3, 1) := by decide +kernel
theorem dX11_bodies_7 : decode cX11_bodies 7 = .ok (.if_icmp .le 6, 3) := by decide +kernel
theorem dX11_bodies_10 : decode cX11_bodies 10 = .ok (.ldc 71, 2) := by decide +kernel
theorem dX11_bodies_12 : decode cX11_bodies 12 = .ok (.ireturn, 1) := by decide +kernel
theorem dX11_bodies_13 : decode cX11_bodies 13 = .ok (.aload_n 0, 1) := by decide +kernel
theorem dX11_bodies_14 : decode cX11_bodies 14 = .ok (.getfield 29, 3) := by decide +kernel
theorem dX11_bodies_17 : decode cX11_bodies 17 = .ok (.aload_n 0, 1) := by decide +kernel
theorem dX11_bodies_18 : decode cX11_bodies 18 = .ok (.getfield 20, 3) := by decide +kernel
theorem dX11_bodies_21 : decode cX11_bodies 21 = .ok (.invokevirtual 172, 3) := by decide +kernel
theorem dX11_bodies_24 : decode cX11_bodies 24 = .ok (.aload_n 0, 1) := by decide +kernel
theorem dX11_bodies_25 : decode cX11_bodies 25 = .ok (.getfield 20, 3) := by decide +kernel
theorem dX11_bodies_28 : decode cX11_bodies 28 = .ok (.getfield 56, 3) := by decide +kernel
theorem dX11_bodies_31 : decode cX11_bodies 31 = .ok (.istore_n 2, 1) := by decide +kernel
theorem dX11_bodies_32 : decode cX11_bodies 32 = .ok (.aload_n 0, 1) := by decide +kernel
theorem dX11_bodies_33 : decode cX11_bodies 33 = .ok (.getfield 20, 3) := by decide +kernel
theorem dX11_bodies_36 : decode cX11_bodies 36 = .ok (.iload_n 1, 1) := by decide +kernel
theorem dX11_bodies_37 : decode cX11_bodies 37 = .ok (.invokevirtual 175, 3) := by decide +kernel
theorem dX11_bodies_40 : decode cX11_bodies 40 = .ok (.iload_n 2, 1) := by decide +kernel
theorem dX11_bodies_41 : decode cX11_bodies 41 = .ok (.ireturn, 1) := by decide +kernel
theorem dX11_glue_0 : decode cX11_glue 0 = .ok (.aload_n 0, 1) := by decide +kernel
theorem dX11_glue_1 : decode cX11_glue 1 = .ok (.iload_n 1, 1) := by decide +kernel
theorem dX11_glue_2 : decode cX11_glue 2 = .ok (.iload_n 2, 1) := by decide +kernel
theorem dX11_glue_3 : decode cX11_glue 3 = .ok (.invokevirtual 97, 3) := by decide +kernel
theorem dX11_glue_6 : decode cX11_glue 6 = .ok (.ifCond .eq 13, 3) := by decide +kernel
theorem dX11_glue_9 : decode cX11_glue 9 = .ok (.aload_n 0, 1) := by decide +kernel
theorem dX11_glue_10 : decode cX11_glue 10 = .ok (.iload_n 3, 1) := by decide +kernel
theorem dX11_glue_11 : decode cX11_glue 11 = .ok (.iload 4, 2) := by decide +kernel
theorem dX11_glue_13 : decode cX11_glue 13 = .ok (.invokevirtual 97, 3) := by decide +kernel
theorem dX11_glue_16 : decode cX11_glue 16 = .ok (.ifCond .ne 6, 3) := by decide +kernel
theorem dX11_glue_19 : decode cX11_glue 19 = .ok (.ldc 101, 2) := by decide +kernel
theorem dX11_glue_21 : decode cX11_glue 21 = .ok (.ireturn, 1) := by decide +kernel
theorem dX11_glue_22 : decode cX11_glue 22 = .ok (.iload 5, 2) := by decide +kernel
theorem dX11_glue_24 : decode cX11_glue 24 = .ok (.ifCond .lt 9, 3) := by decide +kernel
theorem dX11_glue_27 : decode cX11_glue 27 = .ok (.iload 5, 2) := by decide +kernel
theorem dX11_glue_29 : decode cX11_glue 29 = .ok (.iconst 5, 1) := by decide +kernel
theorem dX11_glue_30 : decode cX11_glue 30 = .ok (.if_icmp .le 6, 3) := by decide +kernel
theorem dX11_glue_33 : decode cX11_glue 33 = .ok (.ldc 71, 2) := by decide +kernel
theorem dX11_glue_35 : decode cX11_glue 35 = .ok (.ireturn, 1) := by decide +kernel
theorem dX11_glue_36 : decode cX11_glue 36 = .ok (.aload_n 0, 1) := by decide +kernel
theorem dX11_glue_37 : decode cX11_glue 37 = .ok (.getfield 20, 3) := by decide +kernel
theorem dX11_glue_40 : decode cX11_glue 40 = .ok (.iconst 4, 1) := by decide +kernel
theorem dX11_glue_41 : decode cX11_glue 41 = .ok (.iload_n 1, 1) := by decide +kernel
theorem dX11_glue_42 : decode cX11_glue 42 = .ok (.imul, 1) := by decide +kernel
theorem dX11_glue_43 : decode cX11_glue 43 = .ok (.iload_n 2, 1) := by decide +kernel
theorem dX11_glue_44 : decode cX11_glue 44 = .ok (.iadd, 1) := by decide +kernel
theorem dX11_glue_45 : decode cX11_glue 45 = .ok (.iconst 4, 1) := by decide +kernel
theorem dX11_glue_46 : decode cX11_glue 46 = .ok (.iload_n 3, 1) := by decide +kernel
theorem dX11_glue_47 : decode cX11_glue 47 = .ok (.imul, 1) := by decide +kernel
theorem dX11_glue_48 : decode cX11_glue 48 = .ok (.iload 4, 2) := by decide +kernel
theorem dX11_glue_50 : decode cX11_glue 50 = .ok (.iadd, 1) := by decide +kernel
theorem dX11_glue_51 : decode cX11_glue 51 = .ok (.invokevirtual 179, 3) := by decide +kernel
theorem dX11_glue_54 : decode cX11_glue 54 = .ok (.ifCond .ne 6, 3) := by decide +kernel
theorem dX11_glue_57 : decode cX11_glue 57 = .ok (.ldc 182, 2) := by decide +kernel
theorem dX11_glue_59 : decode cX11_glue 59 = .ok (.ireturn, 1) := by decide +kernel
theorem dX11_glue_60 : decode cX11_glue 60 = .ok (.aload_n 0, 1) := by decide +kernel
theorem dX11_glue_61 : decode cX11_glue 61 = .ok (.getfield 29, 3) := by decide +kernel
theorem dX11_glue_64 : decode cX11_glue 64 = .ok (.aload_n 0, 1) := by decide +kernel
theorem dX11_glue_65 : decode cX11_glue 65 = .ok (.getfield 20, 3) := by decide +kernel
theorem dX11_glue_68 : decode cX11_glue 68 = .ok (.invokevirtual 172, 3) := by decide +kernel
theorem dX11_glue_71 : decode cX11_glue 71 = .ok (.aload_n 0, 1) := by decide +kernel
theorem dX11_glue_72 : decode cX11_glue 72 = .ok (.getfield 20, 3) := by decide +kernel
theorem dX11_glue_75 : decode cX11_glue 75 = .ok (.iconst 4, 1) := by decide +kernel
theorem dX11_glue_76 : decode cX11_glue 76 = .ok (.iload_n 1, 1) := by decide +kernel
theorem dX11_glue_77 : decode cX11_glue 77 = .ok (.imul, 1) := by decide +kernel
theorem dX11_glue_78 : decode cX11_glue 78 = .ok (.iload_n 2, 1) := by decide +kernel
theorem dX11_glue_79 : decode cX11_glue 79 = .ok (.iadd, 1) := by decide +kernel
theorem dX11_glue_80 : decode cX11_glue 80 = .ok (.iconst 4, 1) := by decide +kernel
theorem dX11_glue_81 : decode cX11_glue 81 = .ok (.iload_n 3, 1) := by decide +kernel
theorem dX11_glue_82 : decode cX11_glue 82 = .ok (.imul, 1) := by decide +kernel
theorem dX11_glue_83 : decode cX11_glue 83 = .ok (.iload 4, 2) := by decide +kernel
theorem dX11_glue_85 : decode cX11_glue 85 = .ok (.iadd, 1) := by decide +kernel
theorem dX11_glue_86 : decode cX11_glue 86 = .ok (.iload 5, 2) := by decide +kernel
theorem dX11_glue_88 : decode cX11_glue 88 = .ok (.invokevirtual 183, 3) := by decide +kernel
theorem dX11_glue_91 : decode cX11_glue 91 = .ok (.aload_n 0, 1) := by decide +kernel
theorem dX11_glue_92 : decode cX11_glue 92 = .ok (.getfield 20, 3) := by decide +kernel
theorem dX11_glue_95 : decode cX11_glue 95 = .ok (.invokevirtual 62, 3) := by decide +kernel
theorem dX11_glue_98 : decode cX11_glue 98 = .ok (.ireturn, 1) := by decide +kernel
theorem dX11_free_0 : decode cX11_free 0 = .ok (.aload_n 0, 1) := by decide +kernel
theorem dX11_free_1 : decode cX11_free 1 = .ok (.iload_n 1, 1) := by decide +kernel
theorem dX11_free_2 : decode cX11_free 2 = .ok (.iload_n 2, 1) := by decide +kernel
theorem dX11_free_3 : decode cX11_free 3 = .ok (.invokevirtual 97, 3) := by decide +kernel
theorem dX11_free_6 : decode cX11_free 6 = .ok (.ifCond .ne 6, 3) := by decide +kernel
theorem dX11_free_9 : decode cX11_free 9 = .ok (.ldc 101, 2) := by decide +kernel
theorem dX11_free_11 : decode cX11_free 11 = .ok (.ireturn, 1) := by decide +kernel
theorem dX11_free_12 : decode cX11_free 12 = .ok (.aload_n 0, 1) := by decide +kernel
theorem dX11_free_13 : decode cX11_free 13 = .ok (.getfield 20, 3) := by decide +kernel
theorem dX11_free_16 : decode cX11_free 16 = .ok (.getfield 102, 3) := by decide +kernel
theorem dX11_free_19 : decode cX11_free 19 = .ok (.iconst 4, 1) := by decide +kernel
theorem dX11_free_20 : decode cX11_free 20 = .ok (.iload_n 1, 1) := by decide +kernel
theorem dX11_free_21 : decode cX11_free 21 = .ok (.imul, 1) := by decide +kernel
theorem dX11_free_22 : decode cX11_free 22 = .ok (.iload_n 2, 1) := by decide +kernel
theorem dX11_free_23 : decode cX11_free 23 = .ok (.iadd, 1) := by decide +kernel
theorem dX11_free_24 : decode cX11_free 24 = .ok (.iaload, 1) := by decide +kernel
theorem dX11_free_25 : decode cX11_free 25 = .ok (.ifCond .ge 6, 3) := by decide +kernel
theorem dX11_free_28 : decode cX11_free 28 = .ok (.ldc 182, 2) := by decide +kernel
theorem dX11_free_30 : decode cX11_free 30 = .ok (.ireturn, 1) := by decide +kernel
theorem dX11_free_31 : decode cX11_free 31 = .ok (.aload_n 0, 1) := by decide +kernel
theorem dX11_free_32 : decode cX11_free 32 = .ok (.getfield 29, 3) := by decide +kernel
theorem dX11_free_35 : decode cX11_free 35 = .ok (.aload_n 0, 1) := by decide +kernel
theorem dX11_free_36 : decode cX11_free 36 = .ok (.getfield 20, 3) := by decide +kernel
theorem dX11_free_39 : decode cX11_free 39 = .ok (.invokevirtual 172, 3) := by decide +kernel
theorem dX11_free_42 : decode cX11_free 42 = .ok (.aload_n 0, 1) := by decide +kernel
theorem dX11_free_43 : decode cX11_free 43 = .ok (.getfield 20, 3) := by decide +kernel
theorem dX11_free_46 : decode cX11_free 46 = .ok (.iconst 4, 1) := by decide +kernel
theorem dX11_free_47 : decode cX11_free 47 = .ok (.iload_n 1, 1) := by decide +kernel
theorem dX11_free_48 : decode cX11_free 48 = .ok (.imul, 1) := by decide +kernel
theorem dX11_free_49 : decode cX11_free 49 = .ok (.iload_n 2, 1) := by decide +kernel
theorem dX11_free_50 : decode cX11_free 50 = .ok (.iadd, 1) := by decide +kernel
theorem dX11_free_51 : decode cX11_free 51 = .ok (.invokevirtual 187, 3) := by decide +kernel
theorem dX11_free_54 : decode cX11_free 54 = .ok (.aload_n 0, 1) := by decide +kernel
theorem dX11_free_55 : decode cX11_free 55 = .ok (.getfield 20, 3) := by decide +kernel
theorem dX11_free_58 : decode cX11_free 58 = .ok (.invokevirtual 62, 3) := by decide +kernel
theorem dX11_free_61 : decode cX11_free 61 = .ok (.ireturn, 1) := by decide +kernel
theorem dX11_put_0 : decode cX11_put 0 = .ok (.aload_n 0, 1) := by decide +kernel
theorem dX11_put_1 : decode cX11_put 1 = .ok (.getfield 20, 3) := by decide +kernel
theorem dX11_put_4 : decode cX11_put 4 = .ok (.invokevirtual 190, 3) := by decide +kernel
theorem dX11_put_7 : decode cX11_put 7 = .ok (.ifCond .eq 6, 3) := by decide +kernel
theorem dX11_put_10 : decode cX11_put 10 = .ok (.ldc 193, 2) := by decide +kernel
theorem dX11_put_12 : decode cX11_put 12 = .ok (.ireturn, 1) := by decide +kernel
theorem dX11_put_13 : decode cX11_put 13 = .ok (.aload_n 0, 1) := by decide +kernel
theorem dX11_put_14 : decode cX11_put 14 = .ok (.getfield 29, 3) := by decide +kernel
theorem dX11_put_17 : decode cX11_put 17 = .ok (.aload_n 0, 1) := by decide +kernel
theorem dX11_put_18 : decode cX11_put 18 = .ok (.getfield 20, 3) := by decide +kernel
theorem dX11_put_21 : decode cX11_put 21 = .ok (.invokevirtual 172, 3) := by decide +kernel
theorem dX11_put_24 : decode cX11_put 24 = .ok (.aload_n 0, 1) := by decide +kernel
theorem dX11_put_25 : decode cX11_put 25 = .ok (.getfield 20, 3) := by decide +kernel
theorem dX11_put_28 : decode cX11_put 28 = .ok (.getfield 138, 3) := by decide +kernel
theorem dX11_put_31 : decode cX11_put 31 = .ok (.aload_n 0, 1) := by decide +kernel
theorem dX11_put_32 : decode cX11_put 32 = .ok (.getfield 20, 3) := by decide +kernel
theorem dX11_put_35 : decode cX11_put 35 = .ok (.getfield 66, 3) := by decide +kernel
theorem dX11_put_38 : decode cX11_put 38 = .ok (.aaload, 1) := by decide +kernel
theorem dX11_put_39 : decode cX11_put 39 = .ok (.invokevirtual 194, 3) := by decide +kernel
theorem dX11_put_42 : decode cX11_put 42 = .ok (.aload_n 0, 1) := by decide +kernel
theorem dX11_put_43 : decode cX11_put 43 = .ok (.getfield 20, 3) := by decide +kernel
theorem dX11_put_46 : decode cX11_put 46 = .ok (.invokevirtual 197, 3) := by decide +kernel
theorem dX11_put_49 : decode cX11_put 49 = .ok (.ireturn, 1) := by decide +kernel
theorem dX11_piece_0 : decode cX11_piece 0 = .ok (.aload_n 0, 1) := by decide +kernel
theorem dX11_piece_1 : decode cX11_piece 1 = .ok (.iload_n 1, 1) := by decide +kernel
theorem dX11_piece_2 : decode cX11_piece 2 = .ok (.invokevirtual 129, 3) := by decide +kernel
theorem dX11_piece_5 : decode cX11_piece 5 = .ok (.ifCond .eq 11, 3) := by decide +kernel
theorem dX11_piece_8 : decode cX11_piece 8 = .ok (.aload_n 0, 1) := by decide +kernel
theorem dX11_piece_9 : decode cX11_piece 9 = .ok (.iload_n 2, 1) := by decide +kernel
theorem dX11_piece_10 : decode cX11_piece 10 = .ok (.invokevirtual 132, 3) := by decide +kernel
theorem dX11_piece_13 : decode cX11_piece 13 = .ok (.ifCond .ne 6, 3) := by decide +kernel
theorem dX11_piece_16 : decode cX11_piece 16 = .ok (.ldc 101, 2) := by decide +kernel
theorem dX11_piece_18 : decode cX11_piece 18 = .ok (.ireturn, 1) := by decide +kernel
theorem dX11_piece_19 : decode cX11_piece 19 = .ok (.iload_n 3, 1) := by decide +kernel
theorem dX11_piece_20 : decode cX11_piece 20 = .ok (.invokestatic 135, 3) := by decide +kernel
theorem dX11_piece_23 : decode cX11_piece 23 = .ok (.ifCond .eq 15, 3) := by decide +kernel
theorem dX11_piece_26 : decode cX11_piece 26 = .ok (.iload 4, 2) := by decide +kernel
theorem dX11_piece_28 : decode cX11_piece 28 = .ok (.ifCond .lt 10, 3) := by decide +kernel
theorem dX11_piece_31 : decode cX11_piece 31 = .ok (.iload 4, 2) := by decide +kernel
theorem dX11_piece_33 : decode cX11_piece 33 = .ok (.bipush 20, 2) := by decide +kernel
theorem dX11_piece_35 : decode cX11_piece 35 = .ok (.if_icmp .le 6, 3) := by decide +kernel
theorem dX11_piece_38 : decode cX11_piece 38 = .ok (.ldc 71, 2) := by decide +kernel
theorem dX11_piece_40 : decode cX11_piece 40 = .ok (.ireturn, 1) := by decide +kernel
theorem dX11_piece_41 : decode cX11_piece 41 = .ok (.aload_n 0, 1) := by decide +kernel
theorem dX11_piece_42 : decode cX11_piece 42 = .ok (.getfield 29, 3) := by decide +kernel
theorem dX11_piece_45 : decode cX11_piece 45 = .ok (.aload_n 0, 1) := by decide +kernel
theorem dX11_piece_46 : decode cX11_piece 46 = .ok (.getfield 20, 3) := by decide +kernel
theorem dX11_piece_49 : decode cX11_piece 49 = .ok (.invokevirtual 172, 3) := by decide +kernel
theorem dX11_piece_52 : decode cX11_piece 52 = .ok (.aload_n 0, 1) := by decide +kernel
theorem dX11_piece_53 : decode cX11_piece 53 = .ok (.getfield 20, 3) := by decide +kernel
theorem dX11_piece_56 : decode cX11_piece 56 = .ok (.getfield 138, 3) := by decide +kernel
theorem dX11_piece_59 : decode cX11_piece 59 = .ok (.iload_n 1, 1) := by decide +kernel
theorem dX11_piece_60 : decode cX11_piece 60 = .ok (.aaload, 1) := by decide +kernel
theorem dX11_piece_61 : decode cX11_piece 61 = .ok (.getfield 142, 3) := by decide +kernel
theorem dX11_piece_64 : decode cX11_piece 64 = .ok (.astore 5, 2) := by decide +kernel
theorem dX11_piece_66 : decode cX11_piece 66 = .ok (.aload 5, 2) := by decide +kernel
theorem dX11_piece_68 : decode cX11_piece 68 = .ok (.bipush 7, 2) := by decide +kernel
theorem dX11_piece_70 : decode cX11_piece 70 = .ok (.iload_n 2, 1) := by decide +kernel
theorem dX11_piece_71 : decode cX11_piece 71 = .ok (.imul, 1) := by decide +kernel
theorem dX11_piece_72 : decode cX11_piece 72 = .ok (.iload_n 3, 1) := by decide +kernel
theorem dX11_piece_73 : decode cX11_piece 73 = .ok (.iadd, 1) := by decide +kernel
theorem dX11_piece_74 : decode cX11_piece 74 = .ok (.iaload, 1) := by decide +kernel
theorem dX11_piece_75 : decode cX11_piece 75 = .ok (.istore 6, 2) := by decide +kernel
theorem dX11_piece_77 : decode cX11_piece 77 = .ok (.aload 5, 2) := by decide +kernel
theorem dX11_piece_79 : decode cX11_piece 79 = .ok (.bipush 7, 2) := by decide +kernel
theorem dX11_piece_81 : decode cX11_piece 81 = .ok (.iload_n 2, 1) := by decide +kernel
theorem dX11_piece_82 : decode cX11_piece 82 = .ok (.imul, 1) := by decide +kernel
theorem dX11_piece_83 : decode cX11_piece 83 = .ok (.iload_n 3, 1) := by decide +kernel
theorem dX11_piece_84 : decode cX11_piece 84 = .ok (.iadd, 1) := by decide +kernel
theorem dX11_piece_85 : decode cX11_piece 85 = .ok (.iload 4, 2) := by decide +kernel
theorem dX11_piece_87 : decode cX11_piece 87 = .ok (.iastore, 1) := by decide +kernel
theorem dX11_piece_88 : decode cX11_piece 88 = .ok (.iload 6, 2) := by decide +kernel
theorem dX11_piece_90 : decode cX11_piece 90 = .ok (.ireturn, 1) := by decide +kernel
theorem dX11_about_0 : decode cX11_about 0 = .ok (.aload_n 0, 1) := by decide +kernel
theorem dX11_about_1 : decode cX11_about 1 = .ok (.getfield 25, 3) := by decide +kernel
theorem dX11_about_4 : decode cX11_about 4 = .ok (.aload_n 0, 1) := by decide +kernel
theorem dX11_about_5 : decode cX11_about 5 = .ok (.getfield 20, 3) := by decide +kernel
theorem dX11_about_8 : decode cX11_about 8 = .ok (.invokevirtual 72, 3) := by decide +kernel
theorem dX11_about_11 : decode cX11_about 11 = .ok (.iload_n 1, 1) := by decide +kernel
theorem dX11_about_12 : decode cX11_about 12 = .ok (.ifCond .lt 14, 3) := by decide +kernel
theorem dX11_about_15 : decode cX11_about 15 = .ok (.iload_n 1, 1) := by decide +kernel
theorem dX11_about_16 : decode cX11_about 16 = .ok (.aload_n 0, 1) := by decide +kernel
theorem dX11_about_17 : decode cX11_about 17 = .ok (.getfield 25, 3) := by decide +kernel
theorem dX11_about_20 : decode cX11_about 20 = .ok (.getfield 78, 3) := by decide +kernel
theorem dX11_about_23 : decode cX11_about 23 = .ok (.if_icmp .lt 6, 3) := by decide +kernel
theorem dX11_about_26 : decode cX11_about 26 = .ok (.ldc 101, 2) := by decide +kernel
theorem dX11_about_28 : decode cX11_about 28 = .ok (.ireturn, 1) := by decide +kernel
theorem dX11_about_29 : decode cX11_about 29 = .ok (.aload_n 0, 1) := by decide +kernel
theorem dX11_about_30 : decode cX11_about 30 = .ok (.getfield 20, 3) := by decide +kernel
theorem dX11_about_33 : decode cX11_about 33 = .ok (.invokevirtual 190, 3) := by decide +kernel
theorem dX11_about_36 : decode cX11_about 36 = .ok (.ifCond .eq 6, 3) := by decide +kernel
theorem dX11_about_39 : decode cX11_about 39 = .ok (.ldc 193, 2) := by decide +kernel
theorem dX11_about_41 : decode cX11_about 41 = .ok (.ireturn, 1) := by decide +kernel
theorem dX11_about_42 : decode cX11_about 42 = .ok (.aload_n 0, 1) := by decide +kernel
theorem dX11_about_43 : decode cX11_about 43 = .ok (.getfield 29, 3) := by decide +kernel
theorem dX11_about_46 : decode cX11_about 46 = .ok (.aload_n 0, 1) := by decide +kernel
theorem dX11_about_47 : decode cX11_about 47 = .ok (.getfield 20, 3) := by decide +kernel
theorem dX11_about_50 : decode cX11_about 50 = .ok (.invokevirtual 172, 3) := by decide +kernel
theorem dX11_about_53 : decode cX11_about 53 = .ok (.aload_n 0, 1) := by decide +kernel
theorem dX11_about_54 : decode cX11_about 54 = .ok (.getfield 10, 3) := by decide +kernel
theorem dX11_about_57 : decode cX11_about 57 = .ok (.iload_n 1, 1) := by decide +kernel
theorem dX11_about_58 : decode cX11_about 58 = .ok (.aload_n 0, 1) := by decide +kernel
theorem dX11_about_59 : decode cX11_about 59 = .ok (.getfield 20, 3) := by decide +kernel
theorem dX11_about_62 : decode cX11_about 62 = .ok (.getfield 138, 3) := by decide +kernel
theorem dX11_about_65 : decode cX11_about 65 = .ok (.aload_n 0, 1) := by decide +kernel
theorem dX11_about_66 : decode cX11_about 66 = .ok (.getfield 20, 3) := by decide +kernel
theorem dX11_about_69 : decode cX11_about 69 = .ok (.getfield 66, 3) := by decide +kernel
theorem dX11_about_72 : decode cX11_about 72 = .ok (.aaload, 1) := by decide +kernel
theorem dX11_about_73 : decode cX11_about 73 = .ok (.invokevirtual 200, 3) := by decide +kernel
theorem dX11_about_76 : decode cX11_about 76 = .ok (.aload_n 0, 1) := by decide +kernel
theorem dX11_about_77 : decode cX11_about 77 = .ok (.getfield 20, 3) := by decide +kernel
theorem dX11_about_80 : decode cX11_about 80 = .ok (.invokevirtual 197, 3) := by decide +kernel
theorem dX11_about_83 : decode cX11_about 83 = .ok (.ireturn, 1) := by decide +kernel
theorem dX11_add_0 : decode cX11_add 0 = .ok (.aload_n 0, 1) := by decide +kernel
theorem dX11_add_1 : decode cX11_add 1 = .ok (.iload_n 1, 1) := by decide +kernel
theorem dX11_add_2 : decode cX11_add 2 = .ok (.invokevirtual 129, 3) := by decide +kernel
theorem dX11_add_5 : decode cX11_add 5 = .ok (.ifCond .eq 11, 3) := by decide +kernel
theorem dX11_add_8 : decode cX11_add 8 = .ok (.aload_n 0, 1) := by decide +kernel
theorem dX11_add_9 : decode cX11_add 9 = .ok (.iload_n 2, 1) := by decide +kernel
theorem dX11_add_10 : decode cX11_add 10 = .ok (.invokevirtual 129, 3) := by decide +kernel
theorem dX11_add_13 : decode cX11_add 13 = .ok (.ifCond .ne 6, 3) := by decide +kernel
theorem dX11_add_16 : decode cX11_add 16 = .ok (.ldc 101, 2) := by decide +kernel
theorem dX11_add_18 : decode cX11_add 18 = .ok (.ireturn, 1) := by decide +kernel
theorem dX11_add_19 : decode cX11_add 19 = .ok (.aload_n 0, 1) := by decide +kernel
theorem dX11_add_20 : decode cX11_add 20 = .ok (.getfield 20, 3) := by decide +kernel
theorem dX11_add_23 : decode cX11_add 23 = .ok (.invokevirtual 190, 3) := by decide +kernel
theorem dX11_add_26 : decode cX11_add 26 = .ok (.ifCond .eq 6, 3) := by decide +kernel
theorem dX11_add_29 : decode cX11_add 29 = .ok (.ldc 193, 2) := by decide +kernel
theorem dX11_add_31 : decode cX11_add 31 = .ok (.ireturn, 1) := by decide +kernel
theorem dX11_add_32 : decode cX11_add 32 = .ok (.aload_n 0, 1) := by decide +kernel
theorem dX11_add_33 : decode cX11_add 33 = .ok (.getfield 20, 3) := by decide +kernel
theorem dX11_add_36 : decode cX11_add 36 = .ok (.getfield 138, 3) := by decide +kernel
theorem dX11_add_39 : decode cX11_add 39 = .ok (.aload_n 0, 1) := by decide +kernel
theorem dX11_add_40 : decode cX11_add 40 = .ok (.getfield 20, 3) := by decide +kernel
theorem dX11_add_43 : decode cX11_add 43 = .ok (.getfield 66, 3) := by decide +kernel
theorem dX11_add_46 : decode cX11_add 46 = .ok (.aaload, 1) := by decide +kernel
theorem dX11_add_47 : decode cX11_add 47 = .ok (.astore_n 3, 1) := by decide +kernel
theorem dX11_add_48 : decode cX11_add 48 = .ok (.aload_n 3, 1) := by decide +kernel
theorem dX11_add_49 : decode cX11_add 49 = .ok (.aload_n 0, 1) := by decide +kernel
theorem dX11_add_50 : decode cX11_add 50 = .ok (.getfield 20, 3) := by decide +kernel
theorem dX11_add_53 : decode cX11_add 53 = .ok (.getfield 138, 3) := by decide +kernel
theorem dX11_add_56 : decode cX11_add 56 = .ok (.iload_n 1, 1) := by decide +kernel
theorem dX11_add_57 : decode cX11_add 57 = .ok (.aaload, 1) := by decide +kernel
theorem dX11_add_58 : decode cX11_add 58 = .ok (.aload_n 0, 1) := by decide +kernel
theorem dX11_add_59 : decode cX11_add 59 = .ok (.getfield 20, 3) := by decide +kernel
theorem dX11_add_62 : decode cX11_add 62 = .ok (.getfield 138, 3) := by decide +kernel
theorem dX11_add_65 : decode cX11_add 65 = .ok (.iload_n 2, 1) := by decide +kernel
theorem dX11_add_66 : decode cX11_add 66 = .ok (.aaload, 1) := by decide +kernel
theorem dX11_add_67 : decode cX11_add 67 = .ok (.invokevirtual 204, 3) := by decide +kernel
theorem dX11_add_70 : decode cX11_add 70 = .ok (.aload_n 3, 1) := by decide +kernel
theorem dX11_add_71 : decode cX11_add 71 = .ok (.invokevirtual 151, 3) := by decide +kernel
theorem dX11_add_74 : decode cX11_add 74 = .ok (.ifCond .ne 12, 3) := by decide +kernel
theorem dX11_add_77 : decode cX11_add 77 = .ok (.aload_n 3, 1) := by decide +kernel
theorem dX11_add_78 : decode cX11_add 78 = .ok (.invokevirtual 208, 3) := by decide +kernel
theorem dX11_add_81 : decode cX11_add 81 = .ok (.bipush 20, 2) := by decide +kernel
theorem dX11_add_83 : decode cX11_add 83 = .ok (.if_icmp .le 6, 3) := by decide +kernel
theorem dX11_add_86 : decode cX11_add 86 = .ok (.ldc 182, 2) := by decide +kernel
theorem dX11_add_88 : decode cX11_add 88 = .ok (.ireturn, 1) := by decide +kernel
theorem dX11_add_89 : decode cX11_add 89 = .ok (.aload_n 0, 1) := by decide +kernel
theorem dX11_add_90 : decode cX11_add 90 = .ok (.getfield 29, 3) := by decide +kernel
theorem dX11_add_93 : decode cX11_add 93 = .ok (.aload_n 0, 1) := by decide +kernel
theorem dX11_add_94 : decode cX11_add 94 = .ok (.getfield 20, 3) := by decide +kernel
theorem dX11_add_97 : decode cX11_add 97 = .ok (.invokevirtual 172, 3) := by decide +kernel
theorem dX11_add_100 : decode cX11_add 100 = .ok (.aload_n 0, 1) := by decide +kernel
theorem dX11_add_101 : decode cX11_add 101 = .ok (.getfield 20, 3) := by decide +kernel
theorem dX11_add_104 : decode cX11_add 104 = .ok (.invokevirtual 197, 3) := by decide +kernel
theorem dX11_add_107 : decode cX11_add 107 = .ok (.ireturn, 1) := by decide +kernel
theorem dX11_take_0 : decode cX11_take 0 = .ok (.aload_n 0, 1) := by decide +kernel
theorem dX11_take_1 : decode cX11_take 1 = .ok (.iload_n 1, 1) := by decide +kernel
theorem dX11_take_2 : decode cX11_take 2 = .ok (.invokevirtual 129, 3) := by decide +kernel
theorem dX11_take_5 : decode cX11_take 5 = .ok (.ifCond .ne 6, 3) := by decide +kernel
theorem dX11_take_8 : decode cX11_take 8 = .ok (.ldc 101, 2) := by decide +kernel
theorem dX11_take_10 : decode cX11_take 10 = .ok (.ireturn, 1) := by decide +kernel
theorem dX11_take_11 : decode cX11_take 11 = .ok (.aload_n 0, 1) := by decide +kernel
theorem dX11_take_12 : decode cX11_take 12 = .ok (.getfield 29, 3) := by decide +kernel
theorem dX11_take_15 : decode cX11_take 15 = .ok (.aload_n 0, 1) := by decide +kernel
theorem dX11_take_16 : decode cX11_take 16 = .ok (.getfield 20, 3) := by decide +kernel
theorem dX11_take_19 : decode cX11_take 19 = .ok (.invokevirtual 172, 3) := by decide +kernel
theorem dX11_take_22 : decode cX11_take 22 = .ok (.aload_n 0, 1) := by decide +kernel
theorem dX11_take_23 : decode cX11_take 23 = .ok (.getfield 20, 3) := by decide +kernel
theorem dX11_take_26 : decode cX11_take 26 = .ok (.iload_n 1, 1) := by decide +kernel
theorem dX11_take_27 : decode cX11_take 27 = .ok (.invokevirtual 211, 3) := by decide +kernel
theorem dX11_take_30 : decode cX11_take 30 = .ok (.aload_n 0, 1) := by decide +kernel
theorem dX11_take_31 : decode cX11_take 31 = .ok (.getfield 20, 3) := by decide +kernel
theorem dX11_take_34 : decode cX11_take 34 = .ok (.getfield 66, 3) := by decide +kernel
theorem dX11_take_37 : decode cX11_take 37 = .ok (.ireturn, 1) := by decide +kernel
theorem dX11_drift_0 : decode cX11_drift 0 = .ok (.iload_n 1, 1) := by decide +kernel
theorem dX11_drift_1 : decode cX11_drift 1 = .ok (.iconst 1, 1) := by decide +kernel
theorem dX11_drift_2 : decode cX11_drift 2 = .ok (.if_icmp .lt 9, 3) := by decide +kernel
theorem dX11_drift_5 : decode cX11_drift 5 = .ok (.iload_n 1, 1) := by decide +kernel
theorem dX11_drift_6 : decode cX11_drift 6 = .ok (.bipush 12, 2) := by decide +kernel
theorem dX11_drift_8 : decode cX11_drift 8 = .ok (.if_icmp .le 6, 3) := by decide +kernel
theorem dX11_drift_11 : decode cX11_drift 11 = .ok (.ldc 71, 2) := by decide +kernel
theorem dX11_drift_13 : decode cX11_drift 13 = .ok (.ireturn, 1) := by decide +kernel
theorem dX11_drift_14 : decode cX11_drift 14 = .ok (.iconst 0, 1) := by decide +kernel
theorem dX11_drift_15 : decode cX11_drift 15 = .ok (.istore_n 2, 1) := by decide +kernel
theorem dX11_drift_16 : decode cX11_drift 16 = .ok (.iload_n 2, 1) := by decide +kernel
theorem dX11_drift_17 : decode cX11_drift 17 = .ok (.iload_n 1, 1) := by decide +kernel
theorem dX11_drift_18 : decode cX11_drift 18 = .ok (.if_icmp .ge 24, 3) := by decide +kernel
theorem dX11_drift_21 : decode cX11_drift 21 = .ok (.aload_n 0, 1) := by decide +kernel
theorem dX11_drift_22 : decode cX11_drift 22 = .ok (.getfield 29, 3) := by decide +kernel
theorem dX11_drift_25 : decode cX11_drift 25 = .ok (.aload_n 0, 1) := by decide +kernel
theorem dX11_drift_26 : decode cX11_drift 26 = .ok (.getfield 20, 3) := by decide +kernel
theorem dX11_drift_29 : decode cX11_drift 29 = .ok (.invokevirtual 172, 3) := by decide +kernel
theorem dX11_drift_32 : decode cX11_drift 32 = .ok (.aload_n 0, 1) := by decide +kernel
theorem dX11_drift_33 : decode cX11_drift 33 = .ok (.invokevirtual 214, 3) := by decide +kernel
theorem dX11_drift_36 : decode cX11_drift 36 = .ok (.iinc 2 1, 3) := by decide +kernel
theorem dX11_drift_39 : decode cX11_drift 39 = .ok (.goto (-23), 3) := by decide +kernel
theorem dX11_drift_42 : decode cX11_drift 42 = .ok (.aload_n 0, 1) := by decide +kernel
theorem dX11_drift_43 : decode cX11_drift 43 = .ok (.getfield 20, 3) := by decide +kernel
theorem dX11_drift_46 : decode cX11_drift 46 = .ok (.invokevirtual 62, 3) := by decide +kernel
theorem dX11_drift_49 : decode cX11_drift 49 = .ok (.ireturn, 1) := by decide +kernel
theorem dX11_undo_0 : decode cX11_undo 0 = .ok (.iload_n 1, 1) := by decide +kernel
theorem dX11_undo_1 : decode cX11_undo 1 = .ok (.iconst 1, 1) := by decide +kernel
theorem dX11_undo_2 : decode cX11_undo 2 = .ok (.if_icmp .lt 9, 3) := by decide +kernel
theorem dX11_undo_5 : decode cX11_undo 5 = .ok (.iload_n 1, 1) := by decide +kernel
theorem dX11_undo_6 : decode cX11_undo 6 = .ok (.bipush 16, 2) := by decide +kernel
theorem dX11_undo_8 : decode cX11_undo 8 = .ok (.if_icmp .le 6, 3) := by decide +kernel
theorem dX11_undo_11 : decode cX11_undo 11 = .ok (.ldc 71, 2) := by decide +kernel
theorem dX11_undo_13 : decode cX11_undo 13 = .ok (.ireturn, 1) := by decide +kernel
theorem dX11_undo_14 : decode cX11_undo 14 = .ok (.iload_n 1, 1) := by decide +kernel
theorem dX11_undo_15 : decode cX11_undo 15 = .ok (.aload_n 0, 1) := by decide +kernel
theorem dX11_undo_16 : decode cX11_undo 16 = .ok (.getfield 29, 3) := by decide +kernel
theorem dX11_undo_19 : decode cX11_undo 19 = .ok (.getfield 70, 3) := by decide +kernel
theorem dX11_undo_22 : decode cX11_undo 22 = .ok (.if_icmp .le 6, 3) := by decide +kernel
theorem dX11_undo_25 : decode cX11_undo 25 = .ok (.ldc 182, 2) := by decide +kernel
theorem dX11_undo_27 : decode cX11_undo 27 = .ok (.ireturn, 1) := by decide +kernel
theorem dX11_undo_28 : decode cX11_undo 28 = .ok (.aload_n 0, 1) := by decide +kernel
theorem dX11_undo_29 : decode cX11_undo 29 = .ok (.getfield 29, 3) := by decide +kernel
theorem dX11_undo_32 : decode cX11_undo 32 = .ok (.iload_n 1, 1) := by decide +kernel
theorem dX11_undo_33 : decode cX11_undo 33 = .ok (.aload_n 0, 1) := by decide +kernel
theorem dX11_undo_34 : decode cX11_undo 34 = .ok (.getfield 20, 3) := by decide +kernel
theorem dX11_undo_37 : decode cX11_undo 37 = .ok (.invokevirtual 217, 3) := by decide +kernel
theorem dX11_undo_40 : decode cX11_undo 40 = .ok (.aload_n 0, 1) := by decide +kernel
theorem dX11_undo_41 : decode cX11_undo 41 = .ok (.getfield 20, 3) := by decide +kernel
theorem dX11_undo_44 : decode cX11_undo 44 = .ok (.getfield 66, 3) := by decide +kernel
theorem dX11_undo_47 : decode cX11_undo 47 = .ok (.ireturn, 1) := by decide +kernel
theorem dX11_write_0 : decode cX11_write 0 = .ok (.aload_n 0, 1) := by decide +kernel
theorem dX11_write_1 : decode cX11_write 1 = .ok (.iload_n 1, 1) := by decide +kernel
theorem dX11_write_2 : decode cX11_write 2 = .ok (.invokevirtual 129, 3) := by decide +kernel
theorem dX11_write_5 : decode cX11_write 5 = .ok (.ifCond .ne 6, 3) := by decide +kernel
theorem dX11_write_8 : decode cX11_write 8 = .ok (.ldc 101, 2) := by decide +kernel
theorem dX11_write_10 : decode cX11_write 10 = .ok (.ireturn, 1) := by decide +kernel
theorem dX11_write_11 : decode cX11_write 11 = .ok (.aload_n 0, 1) := by decide +kernel
theorem dX11_write_12 : decode cX11_write 12 = .ok (.getfield 36, 3) := by decide +kernel
theorem dX11_write_15 : decode cX11_write 15 = .ok (.invokevirtual 221, 3) := by decide +kernel
theorem dX11_write_18 : decode cX11_write 18 = .ok (.ifCond .eq 6, 3) := by decide +kernel
theorem dX11_write_21 : decode cX11_write 21 = .ok (.ldc 193, 2) := by decide +kernel
theorem dX11_write_23 : decode cX11_write 23 = .ok (.ireturn, 1) := by decide +kernel
theorem dX11_write_24 : decode cX11_write 24 = .ok (.aload_n 0, 1) := by decide +kernel
theorem dX11_write_25 : decode cX11_write 25 = .ok (.getfield 36, 3) := by decide +kernel
theorem dX11_write_28 : decode cX11_write 28 = .ok (.iload_n 1, 1) := by decide +kernel
theorem dX11_write_29 : decode cX11_write 29 = .ok (.iload_n 2, 1) := by decide +kernel
theorem dX11_write_30 : decode cX11_write 30 = .ok (.invokevirtual 222, 3) := by decide +kernel
theorem dX11_write_33 : decode cX11_write 33 = .ok (.aload_n 0, 1) := by decide +kernel
theorem dX11_write_34 : decode cX11_write 34 = .ok (.getfield 36, 3) := by decide +kernel
theorem dX11_write_37 : decode cX11_write 37 = .ok (.getfield 69, 3) := by decide +kernel
theorem dX11_write_40 : decode cX11_write 40 = .ok (.ireturn, 1) := by decide +kernel
theorem dX11_tear_0 : decode cX11_tear 0 = .ok (.aload_n 0, 1) := by decide +kernel
theorem dX11_tear_1 : decode cX11_tear 1 = .ok (.getfield 36, 3) := by decide +kernel
theorem dX11_tear_4 : decode cX11_tear 4 = .ok (.getfield 69, 3) := by decide +kernel
theorem dX11_tear_7 : decode cX11_tear 7 = .ok (.istore_n 1, 1) := by decide +kernel
theorem dX11_tear_8 : decode cX11_tear 8 = .ok (.aload_n 0, 1) := by decide +kernel
theorem dX11_tear_9 : decode cX11_tear 9 = .ok (.getfield 36, 3) := by decide +kernel
theorem dX11_tear_12 : decode cX11_tear 12 = .ok (.iconst 0, 1) := by decide +kernel
theorem dX11_tear_13 : decode cX11_tear 13 = .ok (.putfield 69, 3) := by decide +kernel
theorem dX11_tear_16 : decode cX11_tear 16 = .ok (.iload_n 1, 1) := by decide +kernel
theorem dX11_tear_17 : decode cX11_tear 17 = .ok (.ireturn, 1) := by decide +kernel
theorem dX11_seed_0 : decode cX11_seed 0 = .ok (.iload_n 1, 1) := by decide +kernel
theorem dX11_seed_1 : decode cX11_seed 1 = .ok (.ifCond .ge 6, 3) := by decide +kernel
theorem dX11_seed_4 : decode cX11_seed 4 = .ok (.ldc 71, 2) := by decide +kernel
theorem dX11_seed_6 : decode cX11_seed 6 = .ok (.ireturn, 1) := by decide +kernel
theorem dX11_seed_7 : decode cX11_seed 7 = .ok (.aload_n 0, 1) := by decide +kernel
theorem dX11_seed_8 : decode cX11_seed 8 = .ok (.getfield 43, 3) := by decide +kernel
theorem dX11_seed_11 : decode cX11_seed 11 = .ok (.getfield 226, 3) := by decide +kernel
theorem dX11_seed_14 : decode cX11_seed 14 = .ok (.istore_n 2, 1) := by decide +kernel
theorem dX11_seed_15 : decode cX11_seed 15 = .ok (.aload_n 0, 1) := by decide +kernel
theorem dX11_seed_16 : decode cX11_seed 16 = .ok (.getfield 43, 3) := by decide +kernel
theorem dX11_seed_19 : decode cX11_seed 19 = .ok (.iload_n 1, 1) := by decide +kernel
theorem dX11_seed_20 : decode cX11_seed 20 = .ok (.putfield 226, 3) := by decide +kernel
theorem dX11_seed_23 : decode cX11_seed 23 = .ok (.iload_n 2, 1) := by decide +kernel
theorem dX11_seed_24 : decode cX11_seed 24 = .ok (.ireturn, 1) := by decide +kernel
theorem dX11_keep_0 : decode cX11_keep 0 = .ok (.aload_n 0, 1) := by decide +kernel
theorem dX11_keep_1 : decode cX11_keep 1 = .ok (.iload_n 1, 1) := by decide +kernel
theorem dX11_keep_2 : decode cX11_keep 2 = .ok (.invokevirtual 229, 3) := by decide +kernel
theorem dX11_keep_5 : decode cX11_keep 5 = .ok (.ifCond .ne 6, 3) := by decide +kernel
theorem dX11_keep_8 : decode cX11_keep 8 = .ok (.ldc 101, 2) := by decide +kernel
theorem dX11_keep_10 : decode cX11_keep 10 = .ok (.ireturn, 1) := by decide +kernel
theorem dX11_keep_11 : decode cX11_keep 11 = .ok (.aload_n 0, 1) := by decide +kernel
theorem dX11_keep_12 : decode cX11_keep 12 = .ok (.getfield 51, 3) := by decide +kernel
theorem dX11_keep_15 : decode cX11_keep 15 = .ok (.iload_n 1, 1) := by decide +kernel
theorem dX11_keep_16 : decode cX11_keep 16 = .ok (.aaload, 1) := by decide +kernel
theorem dX11_keep_17 : decode cX11_keep 17 = .ok (.aload_n 0, 1) := by decide +kernel
theorem dX11_keep_18 : decode cX11_keep 18 = .ok (.getfield 20, 3) := by decide +kernel
theorem dX11_keep_21 : decode cX11_keep 21 = .ok (.aload_n 0, 1) := by decide +kernel
theorem dX11_keep_22 : decode cX11_keep 22 = .ok (.getfield 43, 3) := by decide +kernel
theorem dX11_keep_25 : decode cX11_keep 25 = .ok (.invokevirtual 232, 3) := by decide +kernel
theorem dX11_keep_28 : decode cX11_keep 28 = .ok (.aload_n 0, 1) := by decide +kernel
theorem dX11_keep_29 : decode cX11_keep 29 = .ok (.getfield 29, 3) := by decide +kernel
theorem dX11_keep_32 : decode cX11_keep 32 = .ok (.iconst 0, 1) := by decide +kernel
theorem dX11_keep_33 : decode cX11_keep 33 = .ok (.putfield 70, 3) := by decide +kernel
theorem dX11_keep_36 : decode cX11_keep 36 = .ok (.iconst 1, 1) := by decide +kernel
theorem dX11_keep_37 : decode cX11_keep 37 = .ok (.ireturn, 1) := by decide +kernel
theorem dX11_goBack_0 : decode cX11_goBack 0 = .ok (.aload_n 0, 1) := by decide +kernel
theorem dX11_goBack_1 : decode cX11_goBack 1 = .ok (.iload_n 1, 1) := by decide +kernel
theorem dX11_goBack_2 : decode cX11_goBack 2 = .ok (.invokevirtual 229, 3) := by decide +kernel
theorem dX11_goBack_5 : decode cX11_goBack 5 = .ok (.ifCond .ne 6, 3) := by decide +kernel
theorem dX11_goBack_8 : decode cX11_goBack 8 = .ok (.ldc 101, 2) := by decide +kernel
theorem dX11_goBack_10 : decode cX11_goBack 10 = .ok (.ireturn, 1) := by decide +kernel
theorem dX11_goBack_11 : decode cX11_goBack 11 = .ok (.aload_n 0, 1) := by decide +kernel
theorem dX11_goBack_12 : decode cX11_goBack 12 = .ok (.getfield 51, 3) := by decide +kernel
theorem dX11_goBack_15 : decode cX11_goBack 15 = .ok (.iload_n 1, 1) := by decide +kernel
theorem dX11_goBack_16 : decode cX11_goBack 16 = .ok (.aaload, 1) := by decide +kernel
theorem dX11_goBack_17 : decode cX11_goBack 17 = .ok (.getfield 236, 3) := by decide +kernel
theorem dX11_goBack_20 : decode cX11_goBack 20 = .ok (.ifCond .ne 6, 3) := by decide +kernel
theorem dX11_goBack_23 : decode cX11_goBack 23 = .ok (.ldc 182, 2) := by decide +kernel
theorem dX11_goBack_25 : decode cX11_goBack 25 = .ok (.ireturn, 1) := by decide +kernel
theorem dX11_goBack_26 : decode cX11_goBack 26 = .ok (.aload_n 0, 1) := by decide +kernel
theorem dX11_goBack_27 : decode cX11_goBack 27 = .ok (.getfield 51, 3) := by decide +kernel
theorem dX11_goBack_30 : decode cX11_goBack 30 = .ok (.iload_n 1, 1) := by decide +kernel
theorem dX11_goBack_31 : decode cX11_goBack 31 = .ok (.aaload, 1) := by decide +kernel
theorem dX11_goBack_32 : decode cX11_goBack 32 = .ok (.aload_n 0, 1) := by decide +kernel
theorem dX11_goBack_33 : decode cX11_goBack 33 = .ok (.getfield 20, 3) := by decide +kernel
theorem dX11_goBack_36 : decode cX11_goBack 36 = .ok (.aload_n 0, 1) := by decide +kernel
theorem dX11_goBack_37 : decode cX11_goBack 37 = .ok (.getfield 43, 3) := by decide +kernel
theorem dX11_goBack_40 : decode cX11_goBack 40 = .ok (.invokevirtual 240, 3) := by decide +kernel
theorem dX11_goBack_43 : decode cX11_goBack 43 = .ok (.aload_n 0, 1) := by decide +kernel
theorem dX11_goBack_44 : decode cX11_goBack 44 = .ok (.getfield 29, 3) := by decide +kernel
theorem dX11_goBack_47 : decode cX11_goBack 47 = .ok (.iconst 0, 1) := by decide +kernel
theorem dX11_goBack_48 : decode cX11_goBack 48 = .ok (.putfield 70, 3) := by decide +kernel
theorem dX11_goBack_51 : decode cX11_goBack 51 = .ok (.iconst 1, 1) := by decide +kernel
theorem dX11_goBack_52 : decode cX11_goBack 52 = .ok (.ireturn, 1) := by decide +kernel
theorem dX11_hasBody_0 : decode cX11_hasBody 0 = .ok (.iload_n 1, 1) := by decide +kernel
theorem dX11_hasBody_1 : decode cX11_hasBody 1 = .ok (.ifCond .lt 18, 3) := by decide +kernel
theorem dX11_hasBody_4 : decode cX11_hasBody 4 = .ok (.iload_n 1, 1) := by decide +kernel
theorem dX11_hasBody_5 : decode cX11_hasBody 5 = .ok (.aload_n 0, 1) := by decide +kernel
theorem dX11_hasBody_6 : decode cX11_hasBody 6 = .ok (.getfield 20, 3) := by decide +kernel
theorem dX11_hasBody_9 : decode cX11_hasBody 9 = .ok (.getfield 56, 3) := by decide +kernel
theorem dX11_hasBody_12 : decode cX11_hasBody 12 = .ok (.if_icmp .ge 7, 3) := by decide +kernel
theorem dX11_hasBody_15 : decode cX11_hasBody 15 = .ok (.iconst 1, 1) := by decide +kernel
theorem dX11_hasBody_16 : decode cX11_hasBody 16 = .ok (.goto 4, 3) := by decide +kernel
theorem dX11_hasBody_19 : decode cX11_hasBody 19 = .ok (.iconst 0, 1) := by decide +kernel
theorem dX11_hasBody_20 : decode cX11_hasBody 20 = .ok (.ireturn, 1) := by decide +kernel
theorem dX11_hasFace_0 : decode cX11_hasFace 0 = .ok (.aload_n 0, 1) := by decide +kernel
theorem dX11_hasFace_1 : decode cX11_hasFace 1 = .ok (.iload_n 1, 1) := by decide +kernel
theorem dX11_hasFace_2 : decode cX11_hasFace 2 = .ok (.invokevirtual 132, 3) := by decide +kernel
theorem dX11_hasFace_5 : decode cX11_hasFace 5 = .ok (.ifCond .eq 16, 3) := by decide +kernel
theorem dX11_hasFace_8 : decode cX11_hasFace 8 = .ok (.iload_n 2, 1) := by decide +kernel
theorem dX11_hasFace_9 : decode cX11_hasFace 9 = .ok (.ifCond .lt 12, 3) := by decide +kernel
theorem dX11_hasFace_12 : decode cX11_hasFace 12 = .ok (.iload_n 2, 1) := by decide +kernel
theorem dX11_hasFace_13 : decode cX11_hasFace 13 = .ok (.iconst 4, 1) := by decide +kernel
theorem dX11_hasFace_14 : decode cX11_hasFace 14 = .ok (.if_icmp .ge 7, 3) := by decide +kernel
theorem dX11_hasFace_17 : decode cX11_hasFace 17 = .ok (.iconst 1, 1) := by decide +kernel
theorem dX11_hasFace_18 : decode cX11_hasFace 18 = .ok (.goto 4, 3) := by decide +kernel
theorem dX11_hasFace_21 : decode cX11_hasFace 21 = .ok (.iconst 0, 1) := by decide +kernel
theorem dX11_hasFace_22 : decode cX11_hasFace 22 = .ok (.ireturn, 1) := by decide +kernel
theorem dX11_hasEdge_0 : decode cX11_hasEdge 0 = .ok (.aload_n 0, 1) := by decide +kernel
theorem dX11_hasEdge_1 : decode cX11_hasEdge 1 = .ok (.iload_n 1, 1) := by decide +kernel
theorem dX11_hasEdge_2 : decode cX11_hasEdge 2 = .ok (.invokevirtual 132, 3) := by decide +kernel
theorem dX11_hasEdge_5 : decode cX11_hasEdge 5 = .ok (.ifCond .eq 17, 3) := by decide +kernel
theorem dX11_hasEdge_8 : decode cX11_hasEdge 8 = .ok (.iload_n 2, 1) := by decide +kernel
theorem dX11_hasEdge_9 : decode cX11_hasEdge 9 = .ok (.ifCond .lt 13, 3) := by decide +kernel
theorem dX11_hasEdge_12 : decode cX11_hasEdge 12 = .ok (.iload_n 2, 1) := by decide +kernel
theorem dX11_hasEdge_13 : decode cX11_hasEdge 13 = .ok (.bipush 6, 2) := by decide +kernel
theorem dX11_hasEdge_15 : decode cX11_hasEdge 15 = .ok (.if_icmp .ge 7, 3) := by decide +kernel
theorem dX11_hasEdge_18 : decode cX11_hasEdge 18 = .ok (.iconst 1, 1) := by decide +kernel
theorem dX11_hasEdge_19 : decode cX11_hasEdge 19 = .ok (.goto 4, 3) := by decide +kernel
theorem dX11_hasEdge_22 : decode cX11_hasEdge 22 = .ok (.iconst 0, 1) := by decide +kernel
theorem dX11_hasEdge_23 : decode cX11_hasEdge 23 = .ok (.ireturn, 1) := by decide +kernel
theorem dX11_hasSurface_0 : decode cX11_hasSurface 0 = .ok (.iload_n 1, 1) := by decide +kernel
theorem dX11_hasSurface_1 : decode cX11_hasSurface 1 = .ok (.ifCond .lt 18, 3) := by decide +kernel
theorem dX11_hasSurface_4 : decode cX11_hasSurface 4 = .ok (.iload_n 1, 1) := by decide +kernel
theorem dX11_hasSurface_5 : decode cX11_hasSurface 5 = .ok (.aload_n 0, 1) := by decide +kernel
theorem dX11_hasSurface_6 : decode cX11_hasSurface 6 = .ok (.getfield 20, 3) := by decide +kernel
theorem dX11_hasSurface_9 : decode cX11_hasSurface 9 = .ok (.getfield 66, 3) := by decide +kernel
theorem dX11_hasSurface_12 : decode cX11_hasSurface 12 = .ok (.if_icmp .ge 7, 3) := by decide +kernel
theorem dX11_hasSurface_15 : decode cX11_hasSurface 15 = .ok (.iconst 1, 1) := by decide +kernel
theorem dX11_hasSurface_16 : decode cX11_hasSurface 16 = .ok (.goto 4, 3) := by decide +kernel
theorem dX11_hasSurface_19 : decode cX11_hasSurface 19 = .ok (.iconst 0, 1) := by decide +kernel
theorem dX11_hasSurface_20 : decode cX11_hasSurface 20 = .ok (.ireturn, 1) := by decide +kernel
theorem dX11_hasImage_0 : decode cX11_hasImage 0 = .ok (.iload_n 1, 1) := by decide +kernel
theorem dX11_hasImage_1 : decode cX11_hasImage 1 = .ok (.ifCond .lt 16, 3) := by decide +kernel
theorem dX11_hasImage_4 : decode cX11_hasImage 4 = .ok (.iload_n 1, 1) := by decide +kernel
theorem dX11_hasImage_5 : decode cX11_hasImage 5 = .ok (.aload_n 0, 1) := by decide +kernel
theorem dX11_hasImage_6 : decode cX11_hasImage 6 = .ok (.getfield 51, 3) := by decide +kernel
theorem dX11_hasImage_9 : decode cX11_hasImage 9 = .ok (.arraylength, 1) := by decide +kernel
theorem dX11_hasImage_10 : decode cX11_hasImage 10 = .ok (.if_icmp .ge 7, 3) := by decide +kernel
theorem dX11_hasImage_13 : decode cX11_hasImage 13 = .ok (.iconst 1, 1) := by decide +kernel
theorem dX11_hasImage_14 : decode cX11_hasImage 14 = .ok (.goto 4, 3) := by decide +kernel
theorem dX11_hasImage_17 : decode cX11_hasImage 17 = .ok (.iconst 0, 1) := by decide +kernel
theorem dX11_hasImage_18 : decode cX11_hasImage 18 = .ok (.ireturn, 1) := by decide +kernel
theorem dX11_isKind_0 : decode cX11_isKind 0 = .ok (.iload_n 0, 1) := by decide +kernel
theorem dX11_isKind_1 : decode cX11_isKind 1 = .ok (.ifCond .lt 13, 3) := by decide +kernel
theorem dX11_isKind_4 : decode cX11_isKind 4 = .ok (.iload_n 0, 1) := by decide +kernel
theorem dX11_isKind_5 : decode cX11_isKind 5 = .ok (.bipush 7, 2) := by decide +kernel
theorem dX11_isKind_7 : decode cX11_isKind 7 = .ok (.if_icmp .ge 7, 3) := by decide +kernel
theorem dX11_isKind_10 : decode cX11_isKind 10 = .ok (.iconst 1, 1) := by decide +kernel
theorem dX11_isKind_11 : decode cX11_isKind 11 = .ok (.goto 4, 3) := by decide +kernel
theorem dX11_isKind_14 : decode cX11_isKind 14 = .ok (.iconst 0, 1) := by decide +kernel
theorem dX11_isKind_15 : decode cX11_isKind 15 = .ok (.ireturn, 1) := by decide +kernel
theorem dX11_driftOnce_0 : decode cX11_driftOnce 0 = .ok (.aload_n 0, 1) := by decide +kernel
theorem dX11_driftOnce_1 : decode cX11_driftOnce 1 = .ok (.getfield 43, 3) := by decide +kernel
theorem dX11_driftOnce_4 : decode cX11_driftOnce 4 = .ok (.aload_n 0, 1) := by decide +kernel
theorem dX11_driftOnce_5 : decode cX11_driftOnce 5 = .ok (.getfield 20, 3) := by decide +kernel
theorem dX11_driftOnce_8 : decode cX11_driftOnce 8 = .ok (.getfield 56, 3) := by decide +kernel
theorem dX11_driftOnce_11 : decode cX11_driftOnce 11 = .ok (.invokevirtual 243, 3) := by decide +kernel
theorem dX11_driftOnce_14 : decode cX11_driftOnce 14 = .ok (.istore_n 1, 1) := by decide +kernel
theorem dX11_driftOnce_15 : decode cX11_driftOnce 15 = .ok (.aload_n 0, 1) := by decide +kernel
theorem dX11_driftOnce_16 : decode cX11_driftOnce 16 = .ok (.getfield 43, 3) := by decide +kernel
theorem dX11_driftOnce_19 : decode cX11_driftOnce 19 = .ok (.iconst 4, 1) := by decide +kernel
theorem dX11_driftOnce_20 : decode cX11_driftOnce 20 = .ok (.invokevirtual 243, 3) := by decide +kernel
theorem dX11_driftOnce_23 : decode cX11_driftOnce 23 = .ok (.istore_n 2, 1) := by decide +kernel
theorem dX11_driftOnce_24 : decode cX11_driftOnce 24 = .ok (.aload_n 0, 1) := by decide +kernel
theorem dX11_driftOnce_25 : decode cX11_driftOnce 25 = .ok (.getfield 43, 3) := by decide +kernel
theorem dX11_driftOnce_28 : decode cX11_driftOnce 28 = .ok (.aload_n 0, 1) := by decide +kernel
theorem dX11_driftOnce_29 : decode cX11_driftOnce 29 = .ok (.getfield 20, 3) := by decide +kernel
theorem dX11_driftOnce_32 : decode cX11_driftOnce 32 = .ok (.getfield 56, 3) := by decide +kernel
theorem dX11_driftOnce_35 : decode cX11_driftOnce 35 = .ok (.invokevirtual 243, 3) := by decide +kernel
theorem dX11_driftOnce_38 : decode cX11_driftOnce 38 = .ok (.istore_n 3, 1) := by decide +kernel
theorem dX11_driftOnce_39 : decode cX11_driftOnce 39 = .ok (.aload_n 0, 1) := by decide +kernel
theorem dX11_driftOnce_40 : decode cX11_driftOnce 40 = .ok (.getfield 43, 3) := by decide +kernel
theorem dX11_driftOnce_43 : decode cX11_driftOnce 43 = .ok (.iconst 4, 1) := by decide +kernel
theorem dX11_driftOnce_44 : decode cX11_driftOnce 44 = .ok (.invokevirtual 243, 3) := by decide +kernel
theorem dX11_driftOnce_47 : decode cX11_driftOnce 47 = .ok (.istore 4, 2) := by decide +kernel
theorem dX11_driftOnce_49 : decode cX11_driftOnce 49 = .ok (.aload_n 0, 1) := by decide +kernel
theorem dX11_driftOnce_50 : decode cX11_driftOnce 50 = .ok (.getfield 43, 3) := by decide +kernel
theorem dX11_driftOnce_53 : decode cX11_driftOnce 53 = .ok (.bipush 6, 2) := by decide +kernel
theorem dX11_driftOnce_55 : decode cX11_driftOnce 55 = .ok (.invokevirtual 243, 3) := by decide +kernel
theorem dX11_driftOnce_58 : decode cX11_driftOnce 58 = .ok (.istore 5, 2) := by decide +kernel
theorem dX11_driftOnce_60 : decode cX11_driftOnce 60 = .ok (.aload_n 0, 1) := by decide +kernel
theorem dX11_driftOnce_61 : decode cX11_driftOnce 61 = .ok (.getfield 20, 3) := by decide +kernel
theorem dX11_driftOnce_64 : decode cX11_driftOnce 64 = .ok (.iconst 4, 1) := by decide +kernel
theorem dX11_driftOnce_65 : decode cX11_driftOnce 65 = .ok (.iload_n 1, 1) := by decide +kernel
theorem dX11_driftOnce_66 : decode cX11_driftOnce 66 = .ok (.imul, 1) := by decide +kernel
theorem dX11_driftOnce_67 : decode cX11_driftOnce 67 = .ok (.iload_n 2, 1) := by decide +kernel
theorem dX11_driftOnce_68 : decode cX11_driftOnce 68 = .ok (.iadd, 1) := by decide +kernel
theorem dX11_driftOnce_69 : decode cX11_driftOnce 69 = .ok (.iconst 4, 1) := by decide +kernel
theorem dX11_driftOnce_70 : decode cX11_driftOnce 70 = .ok (.iload_n 3, 1) := by decide +kernel
theorem dX11_driftOnce_71 : decode cX11_driftOnce 71 = .ok (.imul, 1) := by decide +kernel
theorem dX11_driftOnce_72 : decode cX11_driftOnce 72 = .ok (.iload 4, 2) := by decide +kernel
theorem dX11_driftOnce_74 : decode cX11_driftOnce 74 = .ok (.iadd, 1) := by decide +kernel
theorem dX11_driftOnce_75 : decode cX11_driftOnce 75 = .ok (.invokevirtual 179, 3) := by decide +kernel
theorem dX11_driftOnce_78 : decode cX11_driftOnce 78 = .ok (.ifCond .eq 23, 3) := by decide +kernel
theorem dX11_driftOnce_81 : decode cX11_driftOnce 81 = .ok (.aload_n 0, 1) := by decide +kernel
theorem dX11_driftOnce_82 : decode cX11_driftOnce 82 = .ok (.getfield 20, 3) := by decide +kernel
theorem dX11_driftOnce_85 : decode cX11_driftOnce 85 = .ok (.iconst 4, 1) := by decide +kernel
theorem dX11_driftOnce_86 : decode cX11_driftOnce 86 = .ok (.iload_n 1, 1) := by decide +kernel
theorem dX11_driftOnce_87 : decode cX11_driftOnce 87 = .ok (.imul, 1) := by decide +kernel
theorem dX11_driftOnce_88 : decode cX11_driftOnce 88 = .ok (.iload_n 2, 1) := by decide +kernel
theorem dX11_driftOnce_89 : decode cX11_driftOnce 89 = .ok (.iadd, 1) := by decide +kernel
theorem dX11_driftOnce_90 : decode cX11_driftOnce 90 = .ok (.iconst 4, 1) := by decide +kernel
theorem dX11_driftOnce_91 : decode cX11_driftOnce 91 = .ok (.iload_n 3, 1) := by decide +kernel
theorem dX11_driftOnce_92 : decode cX11_driftOnce 92 = .ok (.imul, 1) := by decide +kernel
theorem dX11_driftOnce_93 : decode cX11_driftOnce 93 = .ok (.iload 4, 2) := by decide +kernel
theorem dX11_driftOnce_95 : decode cX11_driftOnce 95 = .ok (.iadd, 1) := by decide +kernel
theorem dX11_driftOnce_96 : decode cX11_driftOnce 96 = .ok (.iload 5, 2) := by decide +kernel
theorem dX11_driftOnce_98 : decode cX11_driftOnce 98 = .ok (.invokevirtual 183, 3) := by decide +kernel
theorem dX11_driftOnce_101 : decode cX11_driftOnce 101 = .ok (.return_, 1) := by decide +kernel
theorem dX12_init_0 : decode cX12_init 0 = .ok (.aload_n 0, 1) := by decide +kernel
theorem dX12_init_1 : decode cX12_init 1 = .ok (.invokespecial 1, 3) := by decide +kernel
theorem dX12_init_4 : decode cX12_init 4 = .ok (.aload_n 0, 1) := by decide +kernel
theorem dX12_init_5 : decode cX12_init 5 = .ok (.sipush 2909, 3) := by decide +kernel
theorem dX12_init_8 : decode cX12_init 8 = .ok (.newarray .int, 2) := by decide +kernel
theorem dX12_init_10 : decode cX12_init 10 = .ok (.putfield 7, 3) := by decide +kernel
theorem dX12_init_13 : decode cX12_init 13 = .ok (.aload_n 0, 1) := by decide +kernel
theorem dX12_init_14 : decode cX12_init 14 = .ok (.iconst 2, 1) := by decide +kernel
theorem dX12_init_15 : decode cX12_init 15 = .ok (.newarray .int, 2) := by decide +kernel
theorem dX12_init_17 : decode cX12_init 17 = .ok (.putfield 13, 3) := by decide +kernel
theorem dX12_init_20 : decode cX12_init 20 = .ok (.aload_n 0, 1) := by decide +kernel
theorem dX12_init_21 : decode cX12_init 21 = .ok (.bipush 20, 2) := by decide +kernel
theorem dX12_init_23 : decode cX12_init 23 = .ok (.newarray .int, 2) := by decide +kernel
theorem dX12_init_25 : decode cX12_init 25 = .ok (.putfield 16, 3) := by decide +kernel
theorem dX12_init_28 : decode cX12_init 28 = .ok (.aload_n 0, 1) := by decide +kernel
theorem dX12_init_29 : decode cX12_init 29 = .ok (.bipush 20, 2) := by decide +kernel
theorem dX12_init_31 : decode cX12_init 31 = .ok (.newarray .int, 2) := by decide +kernel
theorem dX12_init_33 : decode cX12_init 33 = .ok (.putfield 19, 3) := by decide +kernel
theorem dX12_init_36 : decode cX12_init 36 = .ok (.aload_n 0, 1) := by decide +kernel
theorem dX12_init_37 : decode cX12_init 37 = .ok (.bipush 12, 2) := by decide +kernel
theorem dX12_init_39 : decode cX12_init 39 = .ok (.newarray .int, 2) := by decide +kernel
theorem dX12_init_41 : decode cX12_init 41 = .ok (.putfield 22, 3) := by decide +kernel
theorem dX12_init_44 : decode cX12_init 44 = .ok (.aload_n 0, 1) := by decide +kernel
theorem dX12_init_45 : decode cX12_init 45 = .ok (.bipush 18, 2) := by decide +kernel
theorem dX12_init_47 : decode cX12_init 47 = .ok (.newarray .int, 2) := by decide +kernel
theorem dX12_init_49 : decode cX12_init 49 = .ok (.putfield 25, 3) := by decide +kernel
theorem dX12_init_52 : decode cX12_init 52 = .ok (.aload_n 0, 1) := by decide +kernel
theorem dX12_init_53 : decode cX12_init 53 = .ok (.bipush 36, 2) := by decide +kernel
theorem dX12_init_55 : decode cX12_init 55 = .ok (.newarray .int, 2) := by decide +kernel
theorem dX12_init_57 : decode cX12_init 57 = .ok (.putfield 28, 3) := by decide +kernel
theorem dX12_init_60 : decode cX12_init 60 = .ok (.aload_n 0, 1) := by decide +kernel
theorem dX12_init_61 : decode cX12_init 61 = .ok (.sipush 420, 3) := by decide +kernel
theorem dX12_init_64 : decode cX12_init 64 = .ok (.newarray .int, 2) := by decide +kernel
theorem dX12_init_66 : decode cX12_init 66 = .ok (.putfield 31, 3) := by decide +kernel
theorem dX12_init_69 : decode cX12_init 69 = .ok (.aload_n 0, 1) := by decide +kernel
theorem dX12_init_70 : decode cX12_init 70 = .ok (.sipush 840, 3) := by decide +kernel
theorem dX12_init_73 : decode cX12_init 73 = .ok (.newarray .int, 2) := by decide +kernel
theorem dX12_init_75 : decode cX12_init 75 = .ok (.putfield 34, 3) := by decide +kernel
theorem dX12_init_78 : decode cX12_init 78 = .ok (.aload_n 0, 1) := by decide +kernel
theorem dX12_init_79 : decode cX12_init 79 = .ok (.getfield 7, 3) := by decide +kernel
theorem dX12_init_82 : decode cX12_init 82 = .ok (.iconst 0, 1) := by decide +kernel
theorem dX12_init_83 : decode cX12_init 83 = .ok (.iconst 1, 1) := by decide +kernel
theorem dX12_init_84 : decode cX12_init 84 = .ok (.iastore, 1) := by decide +kernel
theorem dX12_init_85 : decode cX12_init 85 = .ok (.aload_n 0, 1) := by decide +kernel
theorem dX12_init_86 : decode cX12_init 86 = .ok (.invokevirtual 37, 3) := by decide +kernel
theorem dX12_init_89 : decode cX12_init 89 = .ok (.return_, 1) := by decide +kernel
theorem dX12_in_0 : decode cX12_in 0 = .ok (.iload_n 0, 1) := by decide +kernel
theorem dX12_in_1 : decode cX12_in 1 = .ok (.iload_n 1, 1) := by decide +kernel
theorem dX12_in_2 : decode cX12_in 2 = .ok (.if_icmp .lt 12, 3) := by decide +kernel
theorem dX12_in_5 : decode cX12_in 5 = .ok (.iload_n 0, 1) := by decide +kernel
theorem dX12_in_6 : decode cX12_in 6 = .ok (.iload_n 2, 1) := by decide +kernel
theorem dX12_in_7 : decode cX12_in 7 = .ok (.if_icmp .gt 7, 3) := by decide +kernel
theorem dX12_in_10 : decode cX12_in 10 = .ok (.iconst 1, 1) := by decide +kernel
theorem dX12_in_11 : decode cX12_in 11 = .ok (.goto 4, 3) := by decide +kernel
theorem dX12_in_14 : decode cX12_in 14 = .ok (.iconst 0, 1) := by decide +kernel
theorem dX12_in_15 : decode cX12_in 15 = .ok (.ireturn, 1) := by decide +kernel
theorem dX12_copyRow_0 : decode cX12_copyRow 0 = .ok (.iconst 0, 1) := by decide +kernel
theorem dX12_copyRow_1 : decode cX12_copyRow 1 = .ok (.istore_n 3, 1) := by decide +kernel
theorem dX12_copyRow_2 : decode cX12_copyRow 2 = .ok (.iload_n 3, 1) := by decide +kernel
theorem dX12_copyRow_3 : decode cX12_copyRow 3 = .ok (.sipush 152, 3) := by decide +kernel
theorem dX12_copyRow_6 : decode cX12_copyRow 6 = .ok (.if_icmp .ge 25, 3) := by decide +kernel
theorem dX12_copyRow_9 : decode cX12_copyRow 9 = .ok (.aload_n 0, 1) := by decide +kernel
theorem dX12_copyRow_10 : decode cX12_copyRow 10 = .ok (.getfield 7, 3) := by decide +kernel
theorem dX12_copyRow_13 : decode cX12_copyRow 13 = .ok (.iload_n 2, 1) := by decide +kernel
theorem dX12_copyRow_14 : decode cX12_copyRow 14 = .ok (.iload_n 3, 1) := by decide +kernel
theorem dX12_copyRow_15 : decode cX12_copyRow 15 = .ok (.iadd, 1) := by decide +kernel
theorem dX12_copyRow_16 : decode cX12_copyRow 16 = .ok (.aload_n 0, 1) := by decide +kernel
theorem dX12_copyRow_17 : decode cX12_copyRow 17 = .ok (.getfield 7, 3) := by decide +kernel
theorem dX12_copyRow_20 : decode cX12_copyRow 20 = .ok (.iload_n 1, 1) := by decide +kernel
theorem dX12_copyRow_21 : decode cX12_copyRow 21 = .ok (.iload_n 3, 1) := by decide +kernel
theorem dX12_copyRow_22 : decode cX12_copyRow 22 = .ok (.iadd, 1) := by decide +kernel
theorem dX12_copyRow_23 : decode cX12_copyRow 23 = .ok (.iaload, 1) := by decide +kernel
theorem dX12_copyRow_24 : decode cX12_copyRow 24 = .ok (.iastore, 1) := by decide +kernel
theorem dX12_copyRow_25 : decode cX12_copyRow 25 = .ok (.iinc 3 1, 3) := by decide +kernel
theorem dX12_copyRow_28 : decode cX12_copyRow 28 = .ok (.goto (-26), 3) := by decide +kernel
theorem dX12_copyRow_31 : decode cX12_copyRow 31 = .ok (.return_, 1) := by decide +kernel
theorem dX12_unglueAll_0 : decode cX12_unglueAll 0 = .ok (.iconst 0, 1) := by decide +kernel
theorem dX12_unglueAll_1 : decode cX12_unglueAll 1 = .ok (.istore_n 1, 1) := by decide +kernel
theorem dX12_unglueAll_2 : decode cX12_unglueAll 2 = .ok (.iload_n 1, 1) := by decide +kernel
theorem dX12_unglueAll_3 : decode cX12_unglueAll 3 = .ok (.bipush 12, 2) := by decide +kernel
theorem dX12_unglueAll_5 : decode cX12_unglueAll 5 = .ok (.if_icmp .ge 28, 3) := by decide +kernel
theorem dX12_unglueAll_8 : decode cX12_unglueAll 8 = .ok (.aload_n 0, 1) := by decide +kernel
theorem dX12_unglueAll_9 : decode cX12_unglueAll 9 = .ok (.getfield 7, 3) := by decide +kernel
theorem dX12_unglueAll_12 : decode cX12_unglueAll 12 = .ok (.iconst 2, 1) := by decide +kernel
theorem dX12_unglueAll_13 : decode cX12_unglueAll 13 = .ok (.iload_n 1, 1) := by decide +kernel
theorem dX12_unglueAll_14 : decode cX12_unglueAll 14 = .ok (.iadd, 1) := by decide +kernel
theorem dX12_unglueAll_15 : decode cX12_unglueAll 15 = .ok (.iconst (-1), 1) := by decide +kernel
theorem dX12_unglueAll_16 : decode cX12_unglueAll 16 = .ok (.iastore, 1) := by decide +kernel
theorem dX12_unglueAll_17 : decode cX12_unglueAll 17 = .ok (.aload_n 0, 1) := by decide +kernel
theorem dX12_unglueAll_18 : decode cX12_unglueAll 18 = .ok (.getfield 7, 3) := by decide +kernel
theorem dX12_unglueAll_21 : decode cX12_unglueAll 21 = .ok (.bipush 14, 2) := by decide +kernel
theorem dX12_unglueAll_23 : decode cX12_unglueAll 23 = .ok (.iload_n 1, 1) := by decide +kernel
theorem dX12_unglueAll_24 : decode cX12_unglueAll 24 = .ok (.iadd, 1) := by decide +kernel
theorem dX12_unglueAll_25 : decode cX12_unglueAll 25 = .ok (.iconst (-1), 1) := by decide +kernel
theorem dX12_unglueAll_26 : decode cX12_unglueAll 26 = .ok (.iastore, 1) := by decide +kernel
theorem dX12_unglueAll_27 : decode cX12_unglueAll 27 = .ok (.iinc 1 1, 3) := by decide +kernel
theorem dX12_unglueAll_30 : decode cX12_unglueAll 30 = .ok (.goto (-28), 3) := by decide +kernel
theorem dX12_unglueAll_33 : decode cX12_unglueAll 33 = .ok (.return_, 1) := by decide +kernel
theorem dX12_isBody_0 : decode cX12_isBody 0 = .ok (.iload_n 1, 1) := by decide +kernel
theorem dX12_isBody_1 : decode cX12_isBody 1 = .ok (.iconst 0, 1) := by decide +kernel
theorem dX12_isBody_2 : decode cX12_isBody 2 = .ok (.aload_n 0, 1) := by decide +kernel
theorem dX12_isBody_3 : decode cX12_isBody 3 = .ok (.getfield 7, 3) := by decide +kernel
theorem dX12_isBody_6 : decode cX12_isBody 6 = .ok (.iconst 0, 1) := by decide +kernel
theorem dX12_isBody_7 : decode cX12_isBody 7 = .ok (.iaload, 1) := by decide +kernel
theorem dX12_isBody_8 : decode cX12_isBody 8 = .ok (.iconst 1, 1) := by decide +kernel
theorem dX12_isBody_9 : decode cX12_isBody 9 = .ok (.isub, 1) := by decide +kernel
theorem dX12_isBody_10 : decode cX12_isBody 10 = .ok (.invokestatic 40, 3) := by decide +kernel
theorem dX12_isBody_13 : decode cX12_isBody 13 = .ok (.ireturn, 1) := by decide +kernel
theorem dX12_isSide_0 : decode cX12_isSide 0 = .ok (.iload_n 0, 1) := by decide +kernel
theorem dX12_isSide_1 : decode cX12_isSide 1 = .ok (.iconst 0, 1) := by decide +kernel
theorem dX12_isSide_2 : decode cX12_isSide 2 = .ok (.iconst 3, 1) := by decide +kernel
theorem dX12_isSide_3 : decode cX12_isSide 3 = .ok (.invokestatic 40, 3) := by decide +kernel
theorem dX12_isSide_6 : decode cX12_isSide 6 = .ok (.ireturn, 1) := by decide +kernel
theorem dX12_isSurface_0 : decode cX12_isSurface 0 = .ok (.iload_n 1, 1) := by decide +kernel
theorem dX12_isSurface_1 : decode cX12_isSurface 1 = .ok (.iconst 0, 1) := by decide +kernel
theorem dX12_isSurface_2 : decode cX12_isSurface 2 = .ok (.aload_n 0, 1) := by decide +kernel
theorem dX12_isSurface_3 : decode cX12_isSurface 3 = .ok (.getfield 7, 3) := by decide +kernel
theorem dX12_isSurface_6 : decode cX12_isSurface 6 = .ok (.iconst 1, 1) := by decide +kernel
theorem dX12_isSurface_7 : decode cX12_isSurface 7 = .ok (.iaload, 1) := by decide +kernel
theorem dX12_isSurface_8 : decode cX12_isSurface 8 = .ok (.iconst 1, 1) := by decide +kernel
theorem dX12_isSurface_9 : decode cX12_isSurface 9 = .ok (.isub, 1) := by decide +kernel
theorem dX12_isSurface_10 : decode cX12_isSurface 10 = .ok (.invokestatic 40, 3) := by decide +kernel
theorem dX12_isSurface_13 : decode cX12_isSurface 13 = .ok (.ireturn, 1) := by decide +kernel
theorem dX12_surfaceAt_0 : decode cX12_surfaceAt 0 = .ok (.bipush 26, 2) := by decide +kernel
theorem dX12_surfaceAt_2 : decode cX12_surfaceAt 2 = .ok (.bipush 21, 2) := by decide +kernel
theorem dX12_surfaceAt_4 : decode cX12_surfaceAt 4 = .ok (.iload_n 0, 1) := by decide +kernel
theorem dX12_surfaceAt_5 : decode cX12_surfaceAt 5 = .ok (.imul, 1) := by decide +kernel
theorem dX12_surfaceAt_6 : decode cX12_surfaceAt 6 = .ok (.iadd, 1) := by decide +kernel
theorem dX12_surfaceAt_7 : decode cX12_surfaceAt 7 = .ok (.ireturn, 1) := by decide +kernel
theorem dX12_place_0 : decode cX12_place 0 = .ok (.iload_n 0, 1) := by decide +kernel
theorem dX12_place_1 : decode cX12_place 1 = .ok (.ifCond .ne 8, 3) := by decide +kernel
theorem dX12_place_4 : decode cX12_place 4 = .ok (.bipush 12, 2) := by decide +kernel
theorem dX12_place_6 : decode cX12_place 6 = .ok (.goto 47, 3) := by decide +kernel
theorem dX12_place_9 : decode cX12_place 9 = .ok (.iload_n 0, 1) := by decide +kernel
theorem dX12_place_10 : decode cX12_place 10 = .ok (.iconst 1, 1) := by decide +kernel
theorem dX12_place_11 : decode cX12_place 11 = .ok (.if_icmp .ne 8, 3) := by decide +kernel
theorem dX12_place_14 : decode cX12_place 14 = .ok (.bipush 21, 2) := by decide +kernel
theorem dX12_place_16 : decode cX12_place 16 = .ok (.goto 37, 3) := by decide +kernel
theorem dX12_place_19 : decode cX12_place 19 = .ok (.iload_n 0, 1) := by decide +kernel
theorem dX12_place_20 : decode cX12_place 20 = .ok (.iconst 2, 1) := by decide +kernel
theorem dX12_place_21 : decode cX12_place 21 = .ok (.if_icmp .ne 8, 3) := by decide +kernel
theorem dX12_place_24 : decode cX12_place 24 = .ok (.bipush 102, 2) := by decide +kernel
theorem dX12_place_26 : decode cX12_place 26 = .ok (.goto 27, 3) := by decide +kernel
theorem dX12_place_29 : decode cX12_place 29 = .ok (.iload_n 0, 1) := by decide +kernel
theorem dX12_place_30 : decode cX12_place 30 = .ok (.iconst 3, 1) := by decide +kernel
theorem dX12_place_31 : decode cX12_place 31 = .ok (.if_icmp .ne 8, 3) := by decide +kernel
theorem dX12_place_34 : decode cX12_place 34 = .ok (.bipush 120, 2) := by decide +kernel
theorem dX12_place_36 : decode cX12_place 36 = .ok (.goto 17, 3) := by decide +kernel
theorem dX12_place_39 : decode cX12_place 39 = .ok (.iload_n 0, 1) := by decide +kernel
theorem dX12_place_40 : decode cX12_place 40 = .ok (.iconst 4, 1) := by decide +kernel
theorem dX12_place_41 : decode cX12_place 41 = .ok (.if_icmp .ne 9, 3) := by decide +kernel
theorem dX12_place_44 : decode cX12_place 44 = .ok (.sipush 201, 3) := by decide +kernel
theorem dX12_place_47 : decode cX12_place 47 = .ok (.goto 6, 3) := by decide +kernel
theorem dX12_place_50 : decode cX12_place 50 = .ok (.sipush 210, 3) := by decide +kernel
theorem dX12_place_53 : decode cX12_place 53 = .ok (.istore_n 2, 1) := by decide +kernel
theorem dX12_place_54 : decode cX12_place 54 = .ok (.iload_n 1, 1) := by decide +kernel
theorem dX12_place_55 : decode cX12_place 55 = .ok (.ifCond .ne 10, 3) := by decide +kernel
theorem dX12_place_58 : decode cX12_place 58 = .ok (.iload_n 2, 1) := by decide +kernel
theorem dX12_place_59 : decode cX12_place 59 = .ok (.bipush 100, 2) := by decide +kernel
theorem dX12_place_61 : decode cX12_place 61 = .ok (.idiv, 1) := by decide +kernel
theorem dX12_place_62 : decode cX12_place 62 = .ok (.goto 22, 3) := by decide +kernel
theorem dX12_place_65 : decode cX12_place 65 = .ok (.iload_n 1, 1) := by decide +kernel
theorem dX12_place_66 : decode cX12_place 66 = .ok (.iconst 1, 1) := by decide +kernel
theorem dX12_place_67 : decode cX12_place 67 = .ok (.if_icmp .ne 13, 3) := by decide +kernel
theorem dX12_place_70 : decode cX12_place 70 = .ok (.iload_n 2, 1) := by decide +kernel
theorem dX12_place_71 : decode cX12_place 71 = .ok (.bipush 10, 2) := by decide +kernel
theorem dX12_place_73 : decode cX12_place 73 = .ok (.idiv, 1) := by decide +kernel
theorem dX12_place_74 : decode cX12_place 74 = .ok (.bipush 10, 2) := by decide +kernel
theorem dX12_place_76 : decode cX12_place 76 = .ok (.irem, 1) := by decide +kernel
theorem dX12_place_77 : decode cX12_place 77 = .ok (.goto 7, 3) := by decide +kernel
theorem dX12_place_80 : decode cX12_place 80 = .ok (.iload_n 2, 1) := by decide +kernel
theorem dX12_place_81 : decode cX12_place 81 = .ok (.bipush 10, 2) := by decide +kernel
theorem dX12_place_83 : decode cX12_place 83 = .ok (.irem, 1) := by decide +kernel
theorem dX12_place_84 : decode cX12_place 84 = .ok (.ireturn, 1) := by decide +kernel
theorem dX12_turnedBack_0 : decode cX12_turnedBack 0 = .ok (.iload_n 0, 1) := by decide +kernel
theorem dX12_turnedBack_1 : decode cX12_turnedBack 1 = .ok (.iconst 3, 1) := by decide +kernel
theorem dX12_turnedBack_2 : decode cX12_turnedBack 2 = .ok (.if_icmp .ne 7, 3) := by decide +kernel
theorem dX12_turnedBack_5 : decode cX12_turnedBack 5 = .ok (.iconst 4, 1) := by decide +kernel
theorem dX12_turnedBack_6 : decode cX12_turnedBack 6 = .ok (.goto 13, 3) := by decide +kernel
theorem dX12_turnedBack_9 : decode cX12_turnedBack 9 = .ok (.iload_n 0, 1) := by decide +kernel
theorem dX12_turnedBack_10 : decode cX12_turnedBack 10 = .ok (.iconst 4, 1) := by decide +kernel
theorem dX12_turnedBack_11 : decode cX12_turnedBack 11 = .ok (.if_icmp .ne 7, 3) := by decide +kernel
theorem dX12_turnedBack_14 : decode cX12_turnedBack 14 = .ok (.iconst 3, 1) := by decide +kernel
theorem dX12_turnedBack_15 : decode cX12_turnedBack 15 = .ok (.goto 4, 3) := by decide +kernel
theorem dX12_turnedBack_18 : decode cX12_turnedBack 18 = .ok (.iload_n 0, 1) := by decide +kernel
theorem dX12_turnedBack_19 : decode cX12_turnedBack 19 = .ok (.ireturn, 1) := by decide +kernel
theorem dX12_isFree_0 : decode cX12_isFree 0 = .ok (.aload_n 0, 1) := by decide +kernel
theorem dX12_isFree_1 : decode cX12_isFree 1 = .ok (.getfield 7, 3) := by decide +kernel
theorem dX12_isFree_4 : decode cX12_isFree 4 = .ok (.iconst 2, 1) := by decide +kernel
theorem dX12_isFree_5 : decode cX12_isFree 5 = .ok (.iload_n 1, 1) := by decide +kernel
theorem dX12_isFree_6 : decode cX12_isFree 6 = .ok (.iadd, 1) := by decide +kernel
theorem dX12_isFree_7 : decode cX12_isFree 7 = .ok (.iaload, 1) := by decide +kernel
theorem dX12_isFree_8 : decode cX12_isFree 8 = .ok (.iconst (-1), 1) := by decide +kernel
theorem dX12_isFree_9 : decode cX12_isFree 9 = .ok (.if_icmp .ne 7, 3) := by decide +kernel
theorem dX12_isFree_12 : decode cX12_isFree 12 = .ok (.iconst 1, 1) := by decide +kernel
theorem dX12_isFree_13 : decode cX12_isFree 13 = .ok (.goto 4, 3) := by decide +kernel
theorem dX12_isFree_16 : decode cX12_isFree 16 = .ok (.iconst 0, 1) := by decide +kernel
theorem dX12_isFree_17 : decode cX12_isFree 17 = .ok (.ireturn, 1) := by decide +kernel
theorem dX12_goesTo_0 : decode cX12_goesTo 0 = .ok (.iload_n 1, 1) := by decide +kernel
theorem dX12_goesTo_1 : decode cX12_goesTo 1 = .ok (.iconst 4, 1) := by decide +kernel
theorem dX12_goesTo_2 : decode cX12_goesTo 2 = .ok (.irem, 1) := by decide +kernel
theorem dX12_goesTo_3 : decode cX12_goesTo 3 = .ok (.istore_n 3, 1) := by decide +kernel
theorem dX12_goesTo_4 : decode cX12_goesTo 4 = .ok (.aload_n 0, 1) := by decide +kernel
theorem dX12_goesTo_5 : decode cX12_goesTo 5 = .ok (.getfield 7, 3) := by decide +kernel
theorem dX12_goesTo_8 : decode cX12_goesTo 8 = .ok (.iconst 2, 1) := by decide +kernel
theorem dX12_goesTo_9 : decode cX12_goesTo 9 = .ok (.iload_n 1, 1) := by decide +kernel
theorem dX12_goesTo_10 : decode cX12_goesTo 10 = .ok (.iadd, 1) := by decide +kernel
theorem dX12_goesTo_11 : decode cX12_goesTo 11 = .ok (.iaload, 1) := by decide +kernel
theorem dX12_goesTo_12 : decode cX12_goesTo 12 = .ok (.istore 4, 2) := by decide +kernel
theorem dX12_goesTo_14 : decode cX12_goesTo 14 = .ok (.iload 4, 2) := by decide +kernel
theorem dX12_goesTo_16 : decode cX12_goesTo 16 = .ok (.iconst 4, 1) := by decide +kernel
theorem dX12_goesTo_17 : decode cX12_goesTo 17 = .ok (.irem, 1) := by decide +kernel
theorem dX12_goesTo_18 : decode cX12_goesTo 18 = .ok (.istore 5, 2) := by decide +kernel
theorem dX12_goesTo_20 : decode cX12_goesTo 20 = .ok (.aload_n 0, 1) := by decide +kernel
theorem dX12_goesTo_21 : decode cX12_goesTo 21 = .ok (.getfield 7, 3) := by decide +kernel
theorem dX12_goesTo_24 : decode cX12_goesTo 24 = .ok (.bipush 14, 2) := by decide +kernel
theorem dX12_goesTo_26 : decode cX12_goesTo 26 = .ok (.iload_n 1, 1) := by decide +kernel
theorem dX12_goesTo_27 : decode cX12_goesTo 27 = .ok (.iadd, 1) := by decide +kernel
theorem dX12_goesTo_28 : decode cX12_goesTo 28 = .ok (.iaload, 1) := by decide +kernel
theorem dX12_goesTo_29 : decode cX12_goesTo 29 = .ok (.iload_n 2, 1) := by decide +kernel
theorem dX12_goesTo_30 : decode cX12_goesTo 30 = .ok (.iload_n 3, 1) := by decide +kernel
theorem dX12_goesTo_31 : decode cX12_goesTo 31 = .ok (.if_icmp .le 9, 3) := by decide +kernel
theorem dX12_goesTo_34 : decode cX12_goesTo 34 = .ok (.iload_n 2, 1) := by decide +kernel
theorem dX12_goesTo_35 : decode cX12_goesTo 35 = .ok (.iconst 1, 1) := by decide +kernel
theorem dX12_goesTo_36 : decode cX12_goesTo 36 = .ok (.isub, 1) := by decide +kernel
theorem dX12_goesTo_37 : decode cX12_goesTo 37 = .ok (.goto 4, 3) := by decide +kernel
theorem dX12_goesTo_40 : decode cX12_goesTo 40 = .ok (.iload_n 2, 1) := by decide +kernel
theorem dX12_goesTo_41 : decode cX12_goesTo 41 = .ok (.invokestatic 44, 3) := by decide +kernel
theorem dX12_goesTo_44 : decode cX12_goesTo 44 = .ok (.istore 6, 2) := by decide +kernel
theorem dX12_goesTo_46 : decode cX12_goesTo 46 = .ok (.iconst 4, 1) := by decide +kernel
theorem dX12_goesTo_47 : decode cX12_goesTo 47 = .ok (.iload 4, 2) := by decide +kernel
theorem dX12_goesTo_49 : decode cX12_goesTo 49 = .ok (.iconst 4, 1) := by decide +kernel
theorem dX12_goesTo_50 : decode cX12_goesTo 50 = .ok (.idiv, 1) := by decide +kernel
theorem dX12_goesTo_51 : decode cX12_goesTo 51 = .ok (.imul, 1) := by decide +kernel
theorem dX12_goesTo_52 : decode cX12_goesTo 52 = .ok (.iload 6, 2) := by decide +kernel
theorem dX12_goesTo_54 : decode cX12_goesTo 54 = .ok (.iload 5, 2) := by decide +kernel
theorem dX12_goesTo_56 : decode cX12_goesTo 56 = .ok (.if_icmp .lt 10, 3) := by decide +kernel
theorem dX12_goesTo_59 : decode cX12_goesTo 59 = .ok (.iload 6, 2) := by decide +kernel
theorem dX12_goesTo_61 : decode cX12_goesTo 61 = .ok (.iconst 1, 1) := by decide +kernel
theorem dX12_goesTo_62 : decode cX12_goesTo 62 = .ok (.iadd, 1) := by decide +kernel
theorem dX12_goesTo_63 : decode cX12_goesTo 63 = .ok (.goto 5, 3) := by decide +kernel
theorem dX12_goesTo_66 : decode cX12_goesTo 66 = .ok (.iload 6, 2) := by decide +kernel
theorem dX12_goesTo_68 : decode cX12_goesTo 68 = .ok (.iadd, 1) := by decide +kernel
theorem dX12_goesTo_69 : decode cX12_goesTo 69 = .ok (.ireturn, 1) := by decide +kernel
theorem dX12_walls_0 : decode cX12_walls 0 = .ok (.iconst 4, 1) := by decide +kernel
theorem dX12_walls_1 : decode cX12_walls 1 = .ok (.aload_n 0, 1) := by decide +kernel
theorem dX12_walls_2 : decode cX12_walls 2 = .ok (.getfield 7, 3) := by decide +kernel
theorem dX12_walls_5 : decode cX12_walls 5 = .ok (.iconst 0, 1) := by decide +kernel
theorem dX12_walls_6 : decode cX12_walls 6 = .ok (.iaload, 1) := by decide +kernel
theorem dX12_walls_7 : decode cX12_walls 7 = .ok (.imul, 1) := by decide +kernel
theorem dX12_walls_8 : decode cX12_walls 8 = .ok (.ireturn, 1) := by decide +kernel
theorem dX12_freeMany_0 : decode cX12_freeMany 0 = .ok (.iconst 0, 1) := by decide +kernel
theorem dX12_freeMany_1 : decode cX12_freeMany 1 = .ok (.istore_n 1, 1) := by decide +kernel
theorem dX12_freeMany_2 : decode cX12_freeMany 2 = .ok (.iconst 0, 1) := by decide +kernel
theorem dX12_freeMany_3 : decode cX12_freeMany 3 = .ok (.istore_n 2, 1) := by decide +kernel
theorem dX12_freeMany_4 : decode cX12_freeMany 4 = .ok (.iload_n 2, 1) := by decide +kernel
theorem dX12_freeMany_5 : decode cX12_freeMany 5 = .ok (.aload_n 0, 1) := by decide +kernel
theorem dX12_freeMany_6 : decode cX12_freeMany 6 = .ok (.invokevirtual 48, 3) := by decide +kernel
theorem dX12_freeMany_9 : decode cX12_freeMany 9 = .ok (.if_icmp .ge 25, 3) := by decide +kernel
theorem dX12_freeMany_12 : decode cX12_freeMany 12 = .ok (.iload_n 1, 1) := by decide +kernel
theorem dX12_freeMany_13 : decode cX12_freeMany 13 = .ok (.aload_n 0, 1) := by decide +kernel
theorem dX12_freeMany_14 : decode cX12_freeMany 14 = .ok (.iload_n 2, 1) := by decide +kernel
theorem dX12_freeMany_15 : decode cX12_freeMany 15 = .ok (.invokevirtual 52, 3) := by decide +kernel
theorem dX12_freeMany_18 : decode cX12_freeMany 18 = .ok (.ifCond .eq 7, 3) := by decide +kernel
theorem dX12_freeMany_21 : decode cX12_freeMany 21 = .ok (.iconst 1, 1) := by decide +kernel
theorem dX12_freeMany_22 : decode cX12_freeMany 22 = .ok (.goto 4, 3) := by decide +kernel
theorem dX12_freeMany_25 : decode cX12_freeMany 25 = .ok (.iconst 0, 1) := by decide +kernel
theorem dX12_freeMany_26 : decode cX12_freeMany 26 = .ok (.iadd, 1) := by decide +kernel
theorem dX12_freeMany_27 : decode cX12_freeMany 27 = .ok (.istore_n 1, 1) := by decide +kernel
theorem dX12_freeMany_28 : decode cX12_freeMany 28 = .ok (.iinc 2 1, 3) := by decide +kernel
theorem dX12_freeMany_31 : decode cX12_freeMany 31 = .ok (.goto (-27), 3) := by decide +kernel
theorem dX12_freeMany_34 : decode cX12_freeMany 34 = .ok (.iload_n 1, 1) := by decide +kernel
theorem dX12_freeMany_35 : decode cX12_freeMany 35 = .ok (.ireturn, 1) := by decide +kernel
theorem dX12_edgeOf_0 : decode cX12_edgeOf 0 = .ok (.iload_n 0, 1) := by decide +kernel
theorem dX12_edgeOf_1 : decode cX12_edgeOf 1 = .ok (.iload_n 1, 1) := by decide +kernel
theorem dX12_edgeOf_2 : decode cX12_edgeOf 2 = .ok (.if_icmp .ge 7, 3) := by decide +kernel
theorem dX12_edgeOf_5 : decode cX12_edgeOf 5 = .ok (.iload_n 0, 1) := by decide +kernel
theorem dX12_edgeOf_6 : decode cX12_edgeOf 6 = .ok (.goto 4, 3) := by decide +kernel
theorem dX12_edgeOf_9 : decode cX12_edgeOf 9 = .ok (.iload_n 1, 1) := by decide +kernel
theorem dX12_edgeOf_10 : decode cX12_edgeOf 10 = .ok (.istore_n 2, 1) := by decide +kernel
theorem dX12_edgeOf_11 : decode cX12_edgeOf 11 = .ok (.iload_n 0, 1) := by decide +kernel
theorem dX12_edgeOf_12 : decode cX12_edgeOf 12 = .ok (.iload_n 1, 1) := by decide +kernel
theorem dX12_edgeOf_13 : decode cX12_edgeOf 13 = .ok (.if_icmp .ge 7, 3) := by decide +kernel
theorem dX12_edgeOf_16 : decode cX12_edgeOf 16 = .ok (.iload_n 1, 1) := by decide +kernel
theorem dX12_edgeOf_17 : decode cX12_edgeOf 17 = .ok (.goto 4, 3) := by decide +kernel
theorem dX12_edgeOf_20 : decode cX12_edgeOf 20 = .ok (.iload_n 0, 1) := by decide +kernel
theorem dX12_edgeOf_21 : decode cX12_edgeOf 21 = .ok (.istore_n 3, 1) := by decide +kernel
theorem dX12_edgeOf_22 : decode cX12_edgeOf 22 = .ok (.iload_n 2, 1) := by decide +kernel
theorem dX12_edgeOf_23 : decode cX12_edgeOf 23 = .ok (.ifCond .ne 9, 3) := by decide +kernel
theorem dX12_edgeOf_26 : decode cX12_edgeOf 26 = .ok (.iload_n 3, 1) := by decide +kernel
theorem dX12_edgeOf_27 : decode cX12_edgeOf 27 = .ok (.iconst 1, 1) := by decide +kernel
theorem dX12_edgeOf_28 : decode cX12_edgeOf 28 = .ok (.isub, 1) := by decide +kernel
theorem dX12_edgeOf_29 : decode cX12_edgeOf 29 = .ok (.goto 6, 3) := by decide +kernel
theorem dX12_edgeOf_32 : decode cX12_edgeOf 32 = .ok (.iload_n 2, 1) := by decide +kernel
theorem dX12_edgeOf_33 : decode cX12_edgeOf 33 = .ok (.iload_n 3, 1) := by decide +kernel
theorem dX12_edgeOf_34 : decode cX12_edgeOf 34 = .ok (.iadd, 1) := by decide +kernel
theorem dX12_edgeOf_35 : decode cX12_edgeOf 35 = .ok (.ireturn, 1) := by decide +kernel
theorem dX12_lowOf_0 : decode cX12_lowOf 0 = .ok (.iload_n 0, 1) := by decide +kernel
theorem dX12_lowOf_1 : decode cX12_lowOf 1 = .ok (.iconst 3, 1) := by decide +kernel
theorem dX12_lowOf_2 : decode cX12_lowOf 2 = .ok (.if_icmp .ge 7, 3) := by decide +kernel
theorem dX12_lowOf_5 : decode cX12_lowOf 5 = .ok (.iconst 0, 1) := by decide +kernel
theorem dX12_lowOf_6 : decode cX12_lowOf 6 = .ok (.goto 13, 3) := by decide +kernel
theorem dX12_lowOf_9 : decode cX12_lowOf 9 = .ok (.iload_n 0, 1) := by decide +kernel
theorem dX12_lowOf_10 : decode cX12_lowOf 10 = .ok (.iconst 5, 1) := by decide +kernel
theorem dX12_lowOf_11 : decode cX12_lowOf 11 = .ok (.if_icmp .ge 7, 3) := by decide +kernel
theorem dX12_lowOf_14 : decode cX12_lowOf 14 = .ok (.iconst 1, 1) := by decide +kernel
theorem dX12_lowOf_15 : decode cX12_lowOf 15 = .ok (.goto 4, 3) := by decide +kernel
theorem dX12_lowOf_18 : decode cX12_lowOf 18 = .ok (.iconst 2, 1) := by decide +kernel
theorem dX12_lowOf_19 : decode cX12_lowOf 19 = .ok (.ireturn, 1) := by decide +kernel
theorem dX12_highOf_0 : decode cX12_highOf 0 = .ok (.iload_n 0, 1) := by decide +kernel
theorem dX12_highOf_1 : decode cX12_highOf 1 = .ok (.iconst 3, 1) := by decide +kernel
theorem dX12_highOf_2 : decode cX12_highOf 2 = .ok (.if_icmp .ge 9, 3) := by decide +kernel
theorem dX12_highOf_5 : decode cX12_highOf 5 = .ok (.iload_n 0, 1) := by decide +kernel
theorem dX12_highOf_6 : decode cX12_highOf 6 = .ok (.iconst 1, 1) := by decide +kernel
theorem dX12_highOf_7 : decode cX12_highOf 7 = .ok (.iadd, 1) := by decide +kernel
theorem dX12_highOf_8 : decode cX12_highOf 8 = .ok (.goto 9, 3) := by decide +kernel
theorem dX12_highOf_11 : decode cX12_highOf 11 = .ok (.iload_n 0, 1) := by decide +kernel
theorem dX12_highOf_12 : decode cX12_highOf 12 = .ok (.iload_n 0, 1) := by decide +kernel
theorem dX12_highOf_13 : decode cX12_highOf 13 = .ok (.invokestatic 56, 3) := by decide +kernel
theorem dX12_highOf_16 : decode cX12_highOf 16 = .ok (.isub, 1) := by decide +kernel
theorem dX12_highOf_17 : decode cX12_highOf 17 = .ok (.ireturn, 1) := by decide +kernel
theorem dX12_alike_0 : decode cX12_alike 0 = .ok (.aload_n 0, 1) := by decide +kernel
theorem dX12_alike_1 : decode cX12_alike 1 = .ok (.iload_n 2, 1) := by decide +kernel
theorem dX12_alike_2 : decode cX12_alike 2 = .ok (.iaload, 1) := by decide +kernel
theorem dX12_alike_3 : decode cX12_alike 3 = .ok (.aload_n 0, 1) := by decide +kernel
theorem dX12_alike_4 : decode cX12_alike 4 = .ok (.iload_n 3, 1) := by decide +kernel
theorem dX12_alike_5 : decode cX12_alike 5 = .ok (.iaload, 1) := by decide +kernel
theorem dX12_alike_6 : decode cX12_alike 6 = .ok (.if_icmp .ge 9, 3) := by decide +kernel
theorem dX12_alike_9 : decode cX12_alike 9 = .ok (.aload_n 0, 1) := by decide +kernel
theorem dX12_alike_10 : decode cX12_alike 10 = .ok (.iload_n 2, 1) := by decide +kernel
theorem dX12_alike_11 : decode cX12_alike 11 = .ok (.iaload, 1) := by decide +kernel
theorem dX12_alike_12 : decode cX12_alike 12 = .ok (.goto 6, 3) := by decide +kernel
theorem dX12_alike_15 : decode cX12_alike 15 = .ok (.aload_n 0, 1) := by decide +kernel
theorem dX12_alike_16 : decode cX12_alike 16 = .ok (.iload_n 3, 1) := by decide +kernel
theorem dX12_alike_17 : decode cX12_alike 17 = .ok (.iaload, 1) := by decide +kernel
theorem dX12_alike_18 : decode cX12_alike 18 = .ok (.istore 4, 2) := by decide +kernel
theorem dX12_alike_20 : decode cX12_alike 20 = .ok (.aload_n 0, 1) := by decide +kernel
theorem dX12_alike_21 : decode cX12_alike 21 = .ok (.iload_n 2, 1) := by decide +kernel
theorem dX12_alike_22 : decode cX12_alike 22 = .ok (.iaload, 1) := by decide +kernel
theorem dX12_alike_23 : decode cX12_alike 23 = .ok (.aload_n 0, 1) := by decide +kernel
theorem dX12_alike_24 : decode cX12_alike 24 = .ok (.iload_n 3, 1) := by decide +kernel
theorem dX12_alike_25 : decode cX12_alike 25 = .ok (.iaload, 1) := by decide +kernel
theorem dX12_alike_26 : decode cX12_alike 26 = .ok (.if_icmp .ge 9, 3) := by decide +kernel
theorem dX12_alike_29 : decode cX12_alike 29 = .ok (.aload_n 0, 1) := by decide +kernel
theorem dX12_alike_30 : decode cX12_alike 30 = .ok (.iload_n 3, 1) := by decide +kernel
theorem dX12_alike_31 : decode cX12_alike 31 = .ok (.iaload, 1) := by decide +kernel
theorem dX12_alike_32 : decode cX12_alike 32 = .ok (.goto 6, 3) := by decide +kernel
theorem dX12_alike_35 : decode cX12_alike 35 = .ok (.aload_n 0, 1) := by decide +kernel
theorem dX12_alike_36 : decode cX12_alike 36 = .ok (.iload_n 2, 1) := by decide +kernel
theorem dX12_alike_37 : decode cX12_alike 37 = .ok (.iaload, 1) := by decide +kernel
theorem dX12_alike_38 : decode cX12_alike 38 = .ok (.istore 5, 2) := by decide +kernel
theorem dX12_alike_40 : decode cX12_alike 40 = .ok (.iconst 0, 1) := by decide +kernel
theorem dX12_alike_41 : decode cX12_alike 41 = .ok (.istore 6, 2) := by decide +kernel
theorem dX12_alike_43 : decode cX12_alike 43 = .ok (.iload 6, 2) := by decide +kernel
theorem dX12_alike_45 : decode cX12_alike 45 = .ok (.iload_n 1, 1) := by decide +kernel
theorem dX12_alike_46 : decode cX12_alike 46 = .ok (.if_icmp .ge 38, 3) := by decide +kernel
theorem dX12_alike_49 : decode cX12_alike 49 = .ok (.iload 4, 2) := by decide +kernel
theorem dX12_alike_51 : decode cX12_alike 51 = .ok (.iload 5, 2) := by decide +kernel
theorem dX12_alike_53 : decode cX12_alike 53 = .ok (.if_icmp .eq 31, 3) := by decide +kernel
end
section
theorem dX12_alike_56 : decode cX12_alike 56 = .ok (.aload_n 0, 1) := by decide +kernel
theorem dX12_alike_57 : decode cX12_alike 57 = .ok (.iload 6, 2) := by decide +kernel
theorem dX12_alike_59 : decode cX12_alike 59 = .ok (.aload_n 0, 1) := by decide +kernel
theorem dX12_alike_60 : decode cX12_alike 60 = .ok (.iload 6, 2) := by decide +kernel
theorem dX12_alike_62 : decode cX12_alike 62 = .ok (.iaload, 1) := by decide +kernel
theorem dX12_alike_63 : decode cX12_alike 63 = .ok (.iload 5, 2) := by decide +kernel
theorem dX12_alike_65 : decode cX12_alike 65 = .ok (.if_icmp .ne 8, 3) := by decide +kernel
theorem dX12_alike_68 : decode cX12_alike 68 = .ok (.iload 4, 2) := by decide +kernel
theorem dX12_alike_70 : decode cX12_alike 70 = .ok (.goto 7, 3) := by decide +kernel
theorem dX12_alike_73 : decode cX12_alike 73 = .ok (.aload_n 0, 1) := by decide +kernel
theorem dX12_alike_74 : decode cX12_alike 74 = .ok (.iload 6, 2) := by decide +kernel
theorem dX12_alike_76 : decode cX12_alike 76 = .ok (.iaload, 1) := by decide +kernel
theorem dX12_alike_77 : decode cX12_alike 77 = .ok (.iastore, 1) := by decide +kernel
theorem dX12_alike_78 : decode cX12_alike 78 = .ok (.iinc 6 1, 3) := by decide +kernel
theorem dX12_alike_81 : decode cX12_alike 81 = .ok (.goto (-38), 3) := by decide +kernel
theorem dX12_alike_84 : decode cX12_alike 84 = .ok (.return_, 1) := by decide +kernel
theorem dX12_glueCorners_0 : decode cX12_glueCorners 0 = .ok (.iload_n 1, 1) := by decide +kernel
theorem dX12_glueCorners_1 : decode cX12_glueCorners 1 = .ok (.iconst 4, 1) := by decide +kernel
theorem dX12_glueCorners_2 : decode cX12_glueCorners 2 = .ok (.irem, 1) := by decide +kernel
theorem dX12_glueCorners_3 : decode cX12_glueCorners 3 = .ok (.istore_n 2, 1) := by decide +kernel
theorem dX12_glueCorners_4 : decode cX12_glueCorners 4 = .ok (.iload_n 1, 1) := by decide +kernel
theorem dX12_glueCorners_5 : decode cX12_glueCorners 5 = .ok (.iconst 4, 1) := by decide +kernel
theorem dX12_glueCorners_6 : decode cX12_glueCorners 6 = .ok (.idiv, 1) := by decide +kernel
theorem dX12_glueCorners_7 : decode cX12_glueCorners 7 = .ok (.istore_n 3, 1) := by decide +kernel
theorem dX12_glueCorners_8 : decode cX12_glueCorners 8 = .ok (.iconst 0, 1) := by decide +kernel
theorem dX12_glueCorners_9 : decode cX12_glueCorners 9 = .ok (.istore 4, 2) := by decide +kernel
theorem dX12_glueCorners_11 : decode cX12_glueCorners 11 = .ok (.iload 4, 2) := by decide +kernel
theorem dX12_glueCorners_13 : decode cX12_glueCorners 13 = .ok (.iconst 4, 1) := by decide +kernel
theorem dX12_glueCorners_14 : decode cX12_glueCorners 14 = .ok (.if_icmp .ge 184, 3) := by decide +kernel
theorem dX12_glueCorners_17 : decode cX12_glueCorners 17 = .ok (.iconst 0, 1) := by decide +kernel
theorem dX12_glueCorners_18 : decode cX12_glueCorners 18 = .ok (.istore 5, 2) := by decide +kernel
theorem dX12_glueCorners_20 : decode cX12_glueCorners 20 = .ok (.iload 5, 2) := by decide +kernel
theorem dX12_glueCorners_22 : decode cX12_glueCorners 22 = .ok (.iconst 4, 1) := by decide +kernel
theorem dX12_glueCorners_23 : decode cX12_glueCorners 23 = .ok (.if_icmp .ge 169, 3) := by decide +kernel
theorem dX12_glueCorners_26 : decode cX12_glueCorners 26 = .ok (.iload 4, 2) := by decide +kernel
theorem dX12_glueCorners_28 : decode cX12_glueCorners 28 = .ok (.iload_n 2, 1) := by decide +kernel
theorem dX12_glueCorners_29 : decode cX12_glueCorners 29 = .ok (.if_icmp .eq 157, 3) := by decide +kernel
theorem dX12_glueCorners_32 : decode cX12_glueCorners 32 = .ok (.iload 5, 2) := by decide +kernel
theorem dX12_glueCorners_34 : decode cX12_glueCorners 34 = .ok (.iload_n 2, 1) := by decide +kernel
theorem dX12_glueCorners_35 : decode cX12_glueCorners 35 = .ok (.if_icmp .eq 151, 3) := by decide +kernel
theorem dX12_glueCorners_38 : decode cX12_glueCorners 38 = .ok (.aload_n 0, 1) := by decide +kernel
theorem dX12_glueCorners_39 : decode cX12_glueCorners 39 = .ok (.iload_n 1, 1) := by decide +kernel
theorem dX12_glueCorners_40 : decode cX12_glueCorners 40 = .ok (.iload 4, 2) := by decide +kernel
theorem dX12_glueCorners_42 : decode cX12_glueCorners 42 = .ok (.invokevirtual 60, 3) := by decide +kernel
theorem dX12_glueCorners_45 : decode cX12_glueCorners 45 = .ok (.istore 6, 2) := by decide +kernel
theorem dX12_glueCorners_47 : decode cX12_glueCorners 47 = .ok (.aload_n 0, 1) := by decide +kernel
theorem dX12_glueCorners_48 : decode cX12_glueCorners 48 = .ok (.iload_n 1, 1) := by decide +kernel
theorem dX12_glueCorners_49 : decode cX12_glueCorners 49 = .ok (.iload 5, 2) := by decide +kernel
theorem dX12_glueCorners_51 : decode cX12_glueCorners 51 = .ok (.invokevirtual 60, 3) := by decide +kernel
theorem dX12_glueCorners_54 : decode cX12_glueCorners 54 = .ok (.istore 7, 2) := by decide +kernel
theorem dX12_glueCorners_56 : decode cX12_glueCorners 56 = .ok (.aload_n 0, 1) := by decide +kernel
theorem dX12_glueCorners_57 : decode cX12_glueCorners 57 = .ok (.getfield 22, 3) := by decide +kernel
theorem dX12_glueCorners_60 : decode cX12_glueCorners 60 = .ok (.bipush 12, 2) := by decide +kernel
theorem dX12_glueCorners_62 : decode cX12_glueCorners 62 = .ok (.iconst 4, 1) := by decide +kernel
theorem dX12_glueCorners_63 : decode cX12_glueCorners 63 = .ok (.iload_n 3, 1) := by decide +kernel
theorem dX12_glueCorners_64 : decode cX12_glueCorners 64 = .ok (.imul, 1) := by decide +kernel
theorem dX12_glueCorners_65 : decode cX12_glueCorners 65 = .ok (.iload 4, 2) := by decide +kernel
theorem dX12_glueCorners_67 : decode cX12_glueCorners 67 = .ok (.iadd, 1) := by decide +kernel
theorem dX12_glueCorners_68 : decode cX12_glueCorners 68 = .ok (.iload 6, 2) := by decide +kernel
theorem dX12_glueCorners_70 : decode cX12_glueCorners 70 = .ok (.invokestatic 63, 3) := by decide +kernel
theorem dX12_glueCorners_73 : decode cX12_glueCorners 73 = .ok (.iload 4, 2) := by decide +kernel
theorem dX12_glueCorners_75 : decode cX12_glueCorners 75 = .ok (.iload 5, 2) := by decide +kernel
theorem dX12_glueCorners_77 : decode cX12_glueCorners 77 = .ok (.if_icmp .ge 109, 3) := by decide +kernel
theorem dX12_glueCorners_80 : decode cX12_glueCorners 80 = .ok (.bipush 6, 2) := by decide +kernel
theorem dX12_glueCorners_82 : decode cX12_glueCorners 82 = .ok (.iload_n 3, 1) := by decide +kernel
theorem dX12_glueCorners_83 : decode cX12_glueCorners 83 = .ok (.imul, 1) := by decide +kernel
theorem dX12_glueCorners_84 : decode cX12_glueCorners 84 = .ok (.iload 4, 2) := by decide +kernel
theorem dX12_glueCorners_86 : decode cX12_glueCorners 86 = .ok (.iload 5, 2) := by decide +kernel
theorem dX12_glueCorners_88 : decode cX12_glueCorners 88 = .ok (.invokestatic 67, 3) := by decide +kernel
theorem dX12_glueCorners_91 : decode cX12_glueCorners 91 = .ok (.iadd, 1) := by decide +kernel
theorem dX12_glueCorners_92 : decode cX12_glueCorners 92 = .ok (.istore 8, 2) := by decide +kernel
theorem dX12_glueCorners_94 : decode cX12_glueCorners 94 = .ok (.bipush 6, 2) := by decide +kernel
theorem dX12_glueCorners_96 : decode cX12_glueCorners 96 = .ok (.iload 6, 2) := by decide +kernel
theorem dX12_glueCorners_98 : decode cX12_glueCorners 98 = .ok (.iconst 4, 1) := by decide +kernel
theorem dX12_glueCorners_99 : decode cX12_glueCorners 99 = .ok (.idiv, 1) := by decide +kernel
theorem dX12_glueCorners_100 : decode cX12_glueCorners 100 = .ok (.imul, 1) := by decide +kernel
theorem dX12_glueCorners_101 : decode cX12_glueCorners 101 = .ok (.iload 6, 2) := by decide +kernel
theorem dX12_glueCorners_103 : decode cX12_glueCorners 103 = .ok (.iconst 4, 1) := by decide +kernel
theorem dX12_glueCorners_104 : decode cX12_glueCorners 104 = .ok (.irem, 1) := by decide +kernel
theorem dX12_glueCorners_105 : decode cX12_glueCorners 105 = .ok (.iload 7, 2) := by decide +kernel
theorem dX12_glueCorners_107 : decode cX12_glueCorners 107 = .ok (.iconst 4, 1) := by decide +kernel
theorem dX12_glueCorners_108 : decode cX12_glueCorners 108 = .ok (.irem, 1) := by decide +kernel
theorem dX12_glueCorners_109 : decode cX12_glueCorners 109 = .ok (.invokestatic 67, 3) := by decide +kernel
theorem dX12_glueCorners_112 : decode cX12_glueCorners 112 = .ok (.iadd, 1) := by decide +kernel
theorem dX12_glueCorners_113 : decode cX12_glueCorners 113 = .ok (.istore 9, 2) := by decide +kernel
theorem dX12_glueCorners_115 : decode cX12_glueCorners 115 = .ok (.iload 6, 2) := by decide +kernel
theorem dX12_glueCorners_117 : decode cX12_glueCorners 117 = .ok (.iload 7, 2) := by decide +kernel
theorem dX12_glueCorners_119 : decode cX12_glueCorners 119 = .ok (.if_icmp .ge 7, 3) := by decide +kernel
theorem dX12_glueCorners_122 : decode cX12_glueCorners 122 = .ok (.iconst 0, 1) := by decide +kernel
theorem dX12_glueCorners_123 : decode cX12_glueCorners 123 = .ok (.goto 4, 3) := by decide +kernel
theorem dX12_glueCorners_126 : decode cX12_glueCorners 126 = .ok (.iconst 1, 1) := by decide +kernel
theorem dX12_glueCorners_127 : decode cX12_glueCorners 127 = .ok (.istore 10, 2) := by decide +kernel
theorem dX12_glueCorners_129 : decode cX12_glueCorners 129 = .ok (.aload_n 0, 1) := by decide +kernel
theorem dX12_glueCorners_130 : decode cX12_glueCorners 130 = .ok (.getfield 25, 3) := by decide +kernel
theorem dX12_glueCorners_133 : decode cX12_glueCorners 133 = .ok (.bipush 18, 2) := by decide +kernel
theorem dX12_glueCorners_135 : decode cX12_glueCorners 135 = .ok (.iload 8, 2) := by decide +kernel
theorem dX12_glueCorners_137 : decode cX12_glueCorners 137 = .ok (.iload 9, 2) := by decide +kernel
theorem dX12_glueCorners_139 : decode cX12_glueCorners 139 = .ok (.invokestatic 63, 3) := by decide +kernel
theorem dX12_glueCorners_142 : decode cX12_glueCorners 142 = .ok (.aload_n 0, 1) := by decide +kernel
theorem dX12_glueCorners_143 : decode cX12_glueCorners 143 = .ok (.getfield 28, 3) := by decide +kernel
theorem dX12_glueCorners_146 : decode cX12_glueCorners 146 = .ok (.bipush 36, 2) := by decide +kernel
theorem dX12_glueCorners_148 : decode cX12_glueCorners 148 = .ok (.iconst 2, 1) := by decide +kernel
theorem dX12_glueCorners_149 : decode cX12_glueCorners 149 = .ok (.iload 8, 2) := by decide +kernel
theorem dX12_glueCorners_151 : decode cX12_glueCorners 151 = .ok (.imul, 1) := by decide +kernel
theorem dX12_glueCorners_152 : decode cX12_glueCorners 152 = .ok (.iconst 2, 1) := by decide +kernel
theorem dX12_glueCorners_153 : decode cX12_glueCorners 153 = .ok (.iload 9, 2) := by decide +kernel
theorem dX12_glueCorners_155 : decode cX12_glueCorners 155 = .ok (.imul, 1) := by decide +kernel
theorem dX12_glueCorners_156 : decode cX12_glueCorners 156 = .ok (.iload 10, 2) := by decide +kernel
theorem dX12_glueCorners_158 : decode cX12_glueCorners 158 = .ok (.iadd, 1) := by decide +kernel
theorem dX12_glueCorners_159 : decode cX12_glueCorners 159 = .ok (.invokestatic 63, 3) := by decide +kernel
theorem dX12_glueCorners_162 : decode cX12_glueCorners 162 = .ok (.aload_n 0, 1) := by decide +kernel
theorem dX12_glueCorners_163 : decode cX12_glueCorners 163 = .ok (.getfield 28, 3) := by decide +kernel
theorem dX12_glueCorners_166 : decode cX12_glueCorners 166 = .ok (.bipush 36, 2) := by decide +kernel
theorem dX12_glueCorners_168 : decode cX12_glueCorners 168 = .ok (.iconst 2, 1) := by decide +kernel
theorem dX12_glueCorners_169 : decode cX12_glueCorners 169 = .ok (.iload 8, 2) := by decide +kernel
theorem dX12_glueCorners_171 : decode cX12_glueCorners 171 = .ok (.imul, 1) := by decide +kernel
theorem dX12_glueCorners_172 : decode cX12_glueCorners 172 = .ok (.iconst 1, 1) := by decide +kernel
theorem dX12_glueCorners_173 : decode cX12_glueCorners 173 = .ok (.iadd, 1) := by decide +kernel
theorem dX12_glueCorners_174 : decode cX12_glueCorners 174 = .ok (.iconst 2, 1) := by decide +kernel
theorem dX12_glueCorners_175 : decode cX12_glueCorners 175 = .ok (.iload 9, 2) := by decide +kernel
theorem dX12_glueCorners_177 : decode cX12_glueCorners 177 = .ok (.imul, 1) := by decide +kernel
theorem dX12_glueCorners_178 : decode cX12_glueCorners 178 = .ok (.iconst 1, 1) := by decide +kernel
theorem dX12_glueCorners_179 : decode cX12_glueCorners 179 = .ok (.iadd, 1) := by decide +kernel
theorem dX12_glueCorners_180 : decode cX12_glueCorners 180 = .ok (.iload 10, 2) := by decide +kernel
theorem dX12_glueCorners_182 : decode cX12_glueCorners 182 = .ok (.isub, 1) := by decide +kernel
theorem dX12_glueCorners_183 : decode cX12_glueCorners 183 = .ok (.invokestatic 63, 3) := by decide +kernel
theorem dX12_glueCorners_186 : decode cX12_glueCorners 186 = .ok (.iinc 5 1, 3) := by decide +kernel
theorem dX12_glueCorners_189 : decode cX12_glueCorners 189 = .ok (.goto (-169), 3) := by decide +kernel
theorem dX12_glueCorners_192 : decode cX12_glueCorners 192 = .ok (.iinc 4 1, 3) := by decide +kernel
theorem dX12_glueCorners_195 : decode cX12_glueCorners 195 = .ok (.goto (-184), 3) := by decide +kernel
theorem dX12_glueCorners_198 : decode cX12_glueCorners 198 = .ok (.return_, 1) := by decide +kernel
theorem dX12_layRoom_0 : decode cX12_layRoom 0 = .ok (.iconst 0, 1) := by decide +kernel
theorem dX12_layRoom_1 : decode cX12_layRoom 1 = .ok (.istore_n 1, 1) := by decide +kernel
theorem dX12_layRoom_2 : decode cX12_layRoom 2 = .ok (.iload_n 1, 1) := by decide +kernel
theorem dX12_layRoom_3 : decode cX12_layRoom 3 = .ok (.bipush 36, 2) := by decide +kernel
theorem dX12_layRoom_5 : decode cX12_layRoom 5 = .ok (.if_icmp .ge 38, 3) := by decide +kernel
theorem dX12_layRoom_8 : decode cX12_layRoom 8 = .ok (.aload_n 0, 1) := by decide +kernel
theorem dX12_layRoom_9 : decode cX12_layRoom 9 = .ok (.getfield 28, 3) := by decide +kernel
theorem dX12_layRoom_12 : decode cX12_layRoom 12 = .ok (.iload_n 1, 1) := by decide +kernel
theorem dX12_layRoom_13 : decode cX12_layRoom 13 = .ok (.iload_n 1, 1) := by decide +kernel
theorem dX12_layRoom_14 : decode cX12_layRoom 14 = .ok (.iastore, 1) := by decide +kernel
theorem dX12_layRoom_15 : decode cX12_layRoom 15 = .ok (.aload_n 0, 1) := by decide +kernel
theorem dX12_layRoom_16 : decode cX12_layRoom 16 = .ok (.getfield 25, 3) := by decide +kernel
theorem dX12_layRoom_19 : decode cX12_layRoom 19 = .ok (.iload_n 1, 1) := by decide +kernel
theorem dX12_layRoom_20 : decode cX12_layRoom 20 = .ok (.iconst 2, 1) := by decide +kernel
theorem dX12_layRoom_21 : decode cX12_layRoom 21 = .ok (.idiv, 1) := by decide +kernel
theorem dX12_layRoom_22 : decode cX12_layRoom 22 = .ok (.iload_n 1, 1) := by decide +kernel
theorem dX12_layRoom_23 : decode cX12_layRoom 23 = .ok (.iconst 2, 1) := by decide +kernel
theorem dX12_layRoom_24 : decode cX12_layRoom 24 = .ok (.idiv, 1) := by decide +kernel
theorem dX12_layRoom_25 : decode cX12_layRoom 25 = .ok (.iastore, 1) := by decide +kernel
theorem dX12_layRoom_26 : decode cX12_layRoom 26 = .ok (.aload_n 0, 1) := by decide +kernel
theorem dX12_layRoom_27 : decode cX12_layRoom 27 = .ok (.getfield 22, 3) := by decide +kernel
theorem dX12_layRoom_30 : decode cX12_layRoom 30 = .ok (.iload_n 1, 1) := by decide +kernel
theorem dX12_layRoom_31 : decode cX12_layRoom 31 = .ok (.iconst 3, 1) := by decide +kernel
theorem dX12_layRoom_32 : decode cX12_layRoom 32 = .ok (.idiv, 1) := by decide +kernel
theorem dX12_layRoom_33 : decode cX12_layRoom 33 = .ok (.iload_n 1, 1) := by decide +kernel
theorem dX12_layRoom_34 : decode cX12_layRoom 34 = .ok (.iconst 3, 1) := by decide +kernel
theorem dX12_layRoom_35 : decode cX12_layRoom 35 = .ok (.idiv, 1) := by decide +kernel
theorem dX12_layRoom_36 : decode cX12_layRoom 36 = .ok (.iastore, 1) := by decide +kernel
theorem dX12_layRoom_37 : decode cX12_layRoom 37 = .ok (.iinc 1 1, 3) := by decide +kernel
theorem dX12_layRoom_40 : decode cX12_layRoom 40 = .ok (.goto (-38), 3) := by decide +kernel
theorem dX12_layRoom_43 : decode cX12_layRoom 43 = .ok (.iconst 0, 1) := by decide +kernel
theorem dX12_layRoom_44 : decode cX12_layRoom 44 = .ok (.istore_n 1, 1) := by decide +kernel
theorem dX12_layRoom_45 : decode cX12_layRoom 45 = .ok (.iload_n 1, 1) := by decide +kernel
theorem dX12_layRoom_46 : decode cX12_layRoom 46 = .ok (.aload_n 0, 1) := by decide +kernel
theorem dX12_layRoom_47 : decode cX12_layRoom 47 = .ok (.invokevirtual 48, 3) := by decide +kernel
theorem dX12_layRoom_50 : decode cX12_layRoom 50 = .ok (.if_icmp .ge 22, 3) := by decide +kernel
theorem dX12_layRoom_53 : decode cX12_layRoom 53 = .ok (.aload_n 0, 1) := by decide +kernel
theorem dX12_layRoom_54 : decode cX12_layRoom 54 = .ok (.iload_n 1, 1) := by decide +kernel
theorem dX12_layRoom_55 : decode cX12_layRoom 55 = .ok (.invokevirtual 52, 3) := by decide +kernel
theorem dX12_layRoom_58 : decode cX12_layRoom 58 = .ok (.ifCond .ne 8, 3) := by decide +kernel
theorem dX12_layRoom_61 : decode cX12_layRoom 61 = .ok (.aload_n 0, 1) := by decide +kernel
theorem dX12_layRoom_62 : decode cX12_layRoom 62 = .ok (.iload_n 1, 1) := by decide +kernel
theorem dX12_layRoom_63 : decode cX12_layRoom 63 = .ok (.invokevirtual 70, 3) := by decide +kernel
theorem dX12_layRoom_66 : decode cX12_layRoom 66 = .ok (.iinc 1 1, 3) := by decide +kernel
theorem dX12_layRoom_69 : decode cX12_layRoom 69 = .ok (.goto (-24), 3) := by decide +kernel
theorem dX12_layRoom_72 : decode cX12_layRoom 72 = .ok (.return_, 1) := by decide +kernel
theorem dX12_firsts_0 : decode cX12_firsts 0 = .ok (.iconst 0, 1) := by decide +kernel
theorem dX12_firsts_1 : decode cX12_firsts 1 = .ok (.istore_n 2, 1) := by decide +kernel
theorem dX12_firsts_2 : decode cX12_firsts 2 = .ok (.iconst 0, 1) := by decide +kernel
theorem dX12_firsts_3 : decode cX12_firsts 3 = .ok (.istore_n 3, 1) := by decide +kernel
theorem dX12_firsts_4 : decode cX12_firsts 4 = .ok (.iload_n 3, 1) := by decide +kernel
theorem dX12_firsts_5 : decode cX12_firsts 5 = .ok (.iload_n 1, 1) := by decide +kernel
theorem dX12_firsts_6 : decode cX12_firsts 6 = .ok (.if_icmp .ge 24, 3) := by decide +kernel
theorem dX12_firsts_9 : decode cX12_firsts 9 = .ok (.iload_n 2, 1) := by decide +kernel
theorem dX12_firsts_10 : decode cX12_firsts 10 = .ok (.aload_n 0, 1) := by decide +kernel
theorem dX12_firsts_11 : decode cX12_firsts 11 = .ok (.iload_n 3, 1) := by decide +kernel
theorem dX12_firsts_12 : decode cX12_firsts 12 = .ok (.iaload, 1) := by decide +kernel
theorem dX12_firsts_13 : decode cX12_firsts 13 = .ok (.iload_n 3, 1) := by decide +kernel
theorem dX12_firsts_14 : decode cX12_firsts 14 = .ok (.if_icmp .ne 7, 3) := by decide +kernel
theorem dX12_firsts_17 : decode cX12_firsts 17 = .ok (.iconst 1, 1) := by decide +kernel
theorem dX12_firsts_18 : decode cX12_firsts 18 = .ok (.goto 4, 3) := by decide +kernel
theorem dX12_firsts_21 : decode cX12_firsts 21 = .ok (.iconst 0, 1) := by decide +kernel
theorem dX12_firsts_22 : decode cX12_firsts 22 = .ok (.iadd, 1) := by decide +kernel
theorem dX12_firsts_23 : decode cX12_firsts 23 = .ok (.istore_n 2, 1) := by decide +kernel
theorem dX12_firsts_24 : decode cX12_firsts 24 = .ok (.iinc 3 1, 3) := by decide +kernel
theorem dX12_firsts_27 : decode cX12_firsts 27 = .ok (.goto (-23), 3) := by decide +kernel
theorem dX12_firsts_30 : decode cX12_firsts 30 = .ok (.iload_n 2, 1) := by decide +kernel
theorem dX12_firsts_31 : decode cX12_firsts 31 = .ok (.ireturn, 1) := by decide +kernel
theorem dX12_isBent_0 : decode cX12_isBent 0 = .ok (.iconst 0, 1) := by decide +kernel
theorem dX12_isBent_1 : decode cX12_isBent 1 = .ok (.istore_n 2, 1) := by decide +kernel
theorem dX12_isBent_2 : decode cX12_isBent 2 = .ok (.iconst 0, 1) := by decide +kernel
theorem dX12_isBent_3 : decode cX12_isBent 3 = .ok (.istore_n 3, 1) := by decide +kernel
theorem dX12_isBent_4 : decode cX12_isBent 4 = .ok (.iload_n 3, 1) := by decide +kernel
theorem dX12_isBent_5 : decode cX12_isBent 5 = .ok (.bipush 6, 2) := by decide +kernel
theorem dX12_isBent_7 : decode cX12_isBent 7 = .ok (.aload_n 0, 1) := by decide +kernel
theorem dX12_isBent_8 : decode cX12_isBent 8 = .ok (.getfield 7, 3) := by decide +kernel
theorem dX12_isBent_11 : decode cX12_isBent 11 = .ok (.iconst 0, 1) := by decide +kernel
theorem dX12_isBent_12 : decode cX12_isBent 12 = .ok (.iaload, 1) := by decide +kernel
theorem dX12_isBent_13 : decode cX12_isBent 13 = .ok (.imul, 1) := by decide +kernel
theorem dX12_isBent_14 : decode cX12_isBent 14 = .ok (.if_icmp .ge 55, 3) := by decide +kernel
theorem dX12_isBent_17 : decode cX12_isBent 17 = .ok (.iload_n 2, 1) := by decide +kernel
theorem dX12_isBent_18 : decode cX12_isBent 18 = .ok (.ifCond .ne 39, 3) := by decide +kernel
theorem dX12_isBent_21 : decode cX12_isBent 21 = .ok (.aload_n 0, 1) := by decide +kernel
theorem dX12_isBent_22 : decode cX12_isBent 22 = .ok (.getfield 25, 3) := by decide +kernel
theorem dX12_isBent_25 : decode cX12_isBent 25 = .ok (.iload_n 3, 1) := by decide +kernel
theorem dX12_isBent_26 : decode cX12_isBent 26 = .ok (.iaload, 1) := by decide +kernel
theorem dX12_isBent_27 : decode cX12_isBent 27 = .ok (.aload_n 0, 1) := by decide +kernel
theorem dX12_isBent_28 : decode cX12_isBent 28 = .ok (.getfield 25, 3) := by decide +kernel
theorem dX12_isBent_31 : decode cX12_isBent 31 = .ok (.iload_n 1, 1) := by decide +kernel
theorem dX12_isBent_32 : decode cX12_isBent 32 = .ok (.iaload, 1) := by decide +kernel
theorem dX12_isBent_33 : decode cX12_isBent 33 = .ok (.if_icmp .ne 28, 3) := by decide +kernel
theorem dX12_isBent_36 : decode cX12_isBent 36 = .ok (.aload_n 0, 1) := by decide +kernel
theorem dX12_isBent_37 : decode cX12_isBent 37 = .ok (.getfield 28, 3) := by decide +kernel
theorem dX12_isBent_40 : decode cX12_isBent 40 = .ok (.iconst 2, 1) := by decide +kernel
theorem dX12_isBent_41 : decode cX12_isBent 41 = .ok (.iload_n 3, 1) := by decide +kernel
theorem dX12_isBent_42 : decode cX12_isBent 42 = .ok (.imul, 1) := by decide +kernel
theorem dX12_isBent_43 : decode cX12_isBent 43 = .ok (.iaload, 1) := by decide +kernel
theorem dX12_isBent_44 : decode cX12_isBent 44 = .ok (.aload_n 0, 1) := by decide +kernel
theorem dX12_isBent_45 : decode cX12_isBent 45 = .ok (.getfield 28, 3) := by decide +kernel
theorem dX12_isBent_48 : decode cX12_isBent 48 = .ok (.iconst 2, 1) := by decide +kernel
theorem dX12_isBent_49 : decode cX12_isBent 49 = .ok (.iload_n 3, 1) := by decide +kernel
theorem dX12_isBent_50 : decode cX12_isBent 50 = .ok (.imul, 1) := by decide +kernel
theorem dX12_isBent_51 : decode cX12_isBent 51 = .ok (.iconst 1, 1) := by decide +kernel
theorem dX12_isBent_52 : decode cX12_isBent 52 = .ok (.iadd, 1) := by decide +kernel
theorem dX12_isBent_53 : decode cX12_isBent 53 = .ok (.iaload, 1) := by decide +kernel
theorem dX12_isBent_54 : decode cX12_isBent 54 = .ok (.if_icmp .ne 7, 3) := by decide +kernel
theorem dX12_isBent_57 : decode cX12_isBent 57 = .ok (.iconst 1, 1) := by decide +kernel
theorem dX12_isBent_58 : decode cX12_isBent 58 = .ok (.goto 4, 3) := by decide +kernel
theorem dX12_isBent_61 : decode cX12_isBent 61 = .ok (.iconst 0, 1) := by decide +kernel
theorem dX12_isBent_62 : decode cX12_isBent 62 = .ok (.istore_n 2, 1) := by decide +kernel
theorem dX12_isBent_63 : decode cX12_isBent 63 = .ok (.iinc 3 1, 3) := by decide +kernel
theorem dX12_isBent_66 : decode cX12_isBent 66 = .ok (.goto (-62), 3) := by decide +kernel
theorem dX12_isBent_69 : decode cX12_isBent 69 = .ok (.iload_n 2, 1) := by decide +kernel
theorem dX12_isBent_70 : decode cX12_isBent 70 = .ok (.ireturn, 1) := by decide +kernel
theorem dX12_aroundOf_0 : decode cX12_aroundOf 0 = .ok (.iconst 0, 1) := by decide +kernel
theorem dX12_aroundOf_1 : decode cX12_aroundOf 1 = .ok (.istore_n 2, 1) := by decide +kernel
theorem dX12_aroundOf_2 : decode cX12_aroundOf 2 = .ok (.iconst 0, 1) := by decide +kernel
theorem dX12_aroundOf_3 : decode cX12_aroundOf 3 = .ok (.istore_n 3, 1) := by decide +kernel
theorem dX12_aroundOf_4 : decode cX12_aroundOf 4 = .ok (.iload_n 3, 1) := by decide +kernel
theorem dX12_aroundOf_5 : decode cX12_aroundOf 5 = .ok (.bipush 6, 2) := by decide +kernel
theorem dX12_aroundOf_7 : decode cX12_aroundOf 7 = .ok (.aload_n 0, 1) := by decide +kernel
theorem dX12_aroundOf_8 : decode cX12_aroundOf 8 = .ok (.getfield 7, 3) := by decide +kernel
theorem dX12_aroundOf_11 : decode cX12_aroundOf 11 = .ok (.iconst 0, 1) := by decide +kernel
theorem dX12_aroundOf_12 : decode cX12_aroundOf 12 = .ok (.iaload, 1) := by decide +kernel
theorem dX12_aroundOf_13 : decode cX12_aroundOf 13 = .ok (.imul, 1) := by decide +kernel
theorem dX12_aroundOf_14 : decode cX12_aroundOf 14 = .ok (.if_icmp .ge 32, 3) := by decide +kernel
theorem dX12_aroundOf_17 : decode cX12_aroundOf 17 = .ok (.iload_n 2, 1) := by decide +kernel
theorem dX12_aroundOf_18 : decode cX12_aroundOf 18 = .ok (.aload_n 0, 1) := by decide +kernel
theorem dX12_aroundOf_19 : decode cX12_aroundOf 19 = .ok (.getfield 25, 3) := by decide +kernel
theorem dX12_aroundOf_22 : decode cX12_aroundOf 22 = .ok (.iload_n 3, 1) := by decide +kernel
theorem dX12_aroundOf_23 : decode cX12_aroundOf 23 = .ok (.iaload, 1) := by decide +kernel
theorem dX12_aroundOf_24 : decode cX12_aroundOf 24 = .ok (.aload_n 0, 1) := by decide +kernel
theorem dX12_aroundOf_25 : decode cX12_aroundOf 25 = .ok (.getfield 25, 3) := by decide +kernel
theorem dX12_aroundOf_28 : decode cX12_aroundOf 28 = .ok (.iload_n 1, 1) := by decide +kernel
theorem dX12_aroundOf_29 : decode cX12_aroundOf 29 = .ok (.iaload, 1) := by decide +kernel
theorem dX12_aroundOf_30 : decode cX12_aroundOf 30 = .ok (.if_icmp .ne 7, 3) := by decide +kernel
theorem dX12_aroundOf_33 : decode cX12_aroundOf 33 = .ok (.iconst 1, 1) := by decide +kernel
theorem dX12_aroundOf_34 : decode cX12_aroundOf 34 = .ok (.goto 4, 3) := by decide +kernel
theorem dX12_aroundOf_37 : decode cX12_aroundOf 37 = .ok (.iconst 0, 1) := by decide +kernel
theorem dX12_aroundOf_38 : decode cX12_aroundOf 38 = .ok (.iadd, 1) := by decide +kernel
theorem dX12_aroundOf_39 : decode cX12_aroundOf 39 = .ok (.istore_n 2, 1) := by decide +kernel
theorem dX12_aroundOf_40 : decode cX12_aroundOf 40 = .ok (.iinc 3 1, 3) := by decide +kernel
theorem dX12_aroundOf_43 : decode cX12_aroundOf 43 = .ok (.goto (-39), 3) := by decide +kernel
theorem dX12_aroundOf_46 : decode cX12_aroundOf 46 = .ok (.iload_n 2, 1) := by decide +kernel
theorem dX12_aroundOf_47 : decode cX12_aroundOf 47 = .ok (.ireturn, 1) := by decide +kernel
theorem dX12_bentMany_0 : decode cX12_bentMany 0 = .ok (.iconst 0, 1) := by decide +kernel
theorem dX12_bentMany_1 : decode cX12_bentMany 1 = .ok (.istore_n 1, 1) := by decide +kernel
theorem dX12_bentMany_2 : decode cX12_bentMany 2 = .ok (.iconst 0, 1) := by decide +kernel
theorem dX12_bentMany_3 : decode cX12_bentMany 3 = .ok (.istore_n 2, 1) := by decide +kernel
theorem dX12_bentMany_4 : decode cX12_bentMany 4 = .ok (.iload_n 2, 1) := by decide +kernel
theorem dX12_bentMany_5 : decode cX12_bentMany 5 = .ok (.bipush 6, 2) := by decide +kernel
theorem dX12_bentMany_7 : decode cX12_bentMany 7 = .ok (.aload_n 0, 1) := by decide +kernel
theorem dX12_bentMany_8 : decode cX12_bentMany 8 = .ok (.getfield 7, 3) := by decide +kernel
theorem dX12_bentMany_11 : decode cX12_bentMany 11 = .ok (.iconst 0, 1) := by decide +kernel
theorem dX12_bentMany_12 : decode cX12_bentMany 12 = .ok (.iaload, 1) := by decide +kernel
theorem dX12_bentMany_13 : decode cX12_bentMany 13 = .ok (.imul, 1) := by decide +kernel
theorem dX12_bentMany_14 : decode cX12_bentMany 14 = .ok (.if_icmp .ge 35, 3) := by decide +kernel
theorem dX12_bentMany_17 : decode cX12_bentMany 17 = .ok (.iload_n 1, 1) := by decide +kernel
theorem dX12_bentMany_18 : decode cX12_bentMany 18 = .ok (.aload_n 0, 1) := by decide +kernel
theorem dX12_bentMany_19 : decode cX12_bentMany 19 = .ok (.getfield 25, 3) := by decide +kernel
theorem dX12_bentMany_22 : decode cX12_bentMany 22 = .ok (.iload_n 2, 1) := by decide +kernel
theorem dX12_bentMany_23 : decode cX12_bentMany 23 = .ok (.iaload, 1) := by decide +kernel
theorem dX12_bentMany_24 : decode cX12_bentMany 24 = .ok (.iload_n 2, 1) := by decide +kernel
theorem dX12_bentMany_25 : decode cX12_bentMany 25 = .ok (.if_icmp .ne 15, 3) := by decide +kernel
theorem dX12_bentMany_28 : decode cX12_bentMany 28 = .ok (.aload_n 0, 1) := by decide +kernel
theorem dX12_bentMany_29 : decode cX12_bentMany 29 = .ok (.iload_n 2, 1) := by decide +kernel
theorem dX12_bentMany_30 : decode cX12_bentMany 30 = .ok (.invokevirtual 74, 3) := by decide +kernel
theorem dX12_bentMany_33 : decode cX12_bentMany 33 = .ok (.ifCond .eq 7, 3) := by decide +kernel
theorem dX12_bentMany_36 : decode cX12_bentMany 36 = .ok (.iconst 1, 1) := by decide +kernel
theorem dX12_bentMany_37 : decode cX12_bentMany 37 = .ok (.goto 4, 3) := by decide +kernel
theorem dX12_bentMany_40 : decode cX12_bentMany 40 = .ok (.iconst 0, 1) := by decide +kernel
theorem dX12_bentMany_41 : decode cX12_bentMany 41 = .ok (.iadd, 1) := by decide +kernel
theorem dX12_bentMany_42 : decode cX12_bentMany 42 = .ok (.istore_n 1, 1) := by decide +kernel
theorem dX12_bentMany_43 : decode cX12_bentMany 43 = .ok (.iinc 2 1, 3) := by decide +kernel
theorem dX12_bentMany_46 : decode cX12_bentMany 46 = .ok (.goto (-42), 3) := by decide +kernel
theorem dX12_bentMany_49 : decode cX12_bentMany 49 = .ok (.iload_n 1, 1) := by decide +kernel
theorem dX12_bentMany_50 : decode cX12_bentMany 50 = .ok (.ireturn, 1) := by decide +kernel
theorem dX12_four_0 : decode cX12_four 0 = .ok (.iload_n 0, 1) := by decide +kernel
theorem dX12_four_1 : decode cX12_four 1 = .ok (.ifCond .eq 7, 3) := by decide +kernel
theorem dX12_four_4 : decode cX12_four 4 = .ok (.iload_n 1, 1) := by decide +kernel
theorem dX12_four_5 : decode cX12_four 5 = .ok (.ifCond .ne 11, 3) := by decide +kernel
theorem dX12_four_8 : decode cX12_four 8 = .ok (.iconst 3, 1) := by decide +kernel
theorem dX12_four_9 : decode cX12_four 9 = .ok (.iload_n 0, 1) := by decide +kernel
theorem dX12_four_10 : decode cX12_four 10 = .ok (.iadd, 1) := by decide +kernel
theorem dX12_four_11 : decode cX12_four 11 = .ok (.iload_n 1, 1) := by decide +kernel
theorem dX12_four_12 : decode cX12_four 12 = .ok (.iadd, 1) := by decide +kernel
theorem dX12_four_13 : decode cX12_four 13 = .ok (.goto 9, 3) := by decide +kernel
theorem dX12_four_16 : decode cX12_four 16 = .ok (.bipush 9, 2) := by decide +kernel
theorem dX12_four_18 : decode cX12_four 18 = .ok (.iload_n 0, 1) := by decide +kernel
theorem dX12_four_19 : decode cX12_four 19 = .ok (.isub, 1) := by decide +kernel
theorem dX12_four_20 : decode cX12_four 20 = .ok (.iload_n 1, 1) := by decide +kernel
theorem dX12_four_21 : decode cX12_four 21 = .ok (.isub, 1) := by decide +kernel
theorem dX12_four_22 : decode cX12_four 22 = .ok (.ireturn, 1) := by decide +kernel
theorem dX12_arcsOf_0 : decode cX12_arcsOf 0 = .ok (.iload_n 1, 1) := by decide +kernel
theorem dX12_arcsOf_1 : decode cX12_arcsOf 1 = .ok (.bipush 7, 2) := by decide +kernel
theorem dX12_arcsOf_3 : decode cX12_arcsOf 3 = .ok (.iload_n 2, 1) := by decide +kernel
theorem dX12_arcsOf_4 : decode cX12_arcsOf 4 = .ok (.iconst 4, 1) := by decide +kernel
theorem dX12_arcsOf_5 : decode cX12_arcsOf 5 = .ok (.idiv, 1) := by decide +kernel
theorem dX12_arcsOf_6 : decode cX12_arcsOf 6 = .ok (.imul, 1) := by decide +kernel
theorem dX12_arcsOf_7 : decode cX12_arcsOf 7 = .ok (.iadd, 1) := by decide +kernel
theorem dX12_arcsOf_8 : decode cX12_arcsOf 8 = .ok (.istore 4, 2) := by decide +kernel
theorem dX12_arcsOf_10 : decode cX12_arcsOf 10 = .ok (.aload_n 0, 1) := by decide +kernel
theorem dX12_arcsOf_11 : decode cX12_arcsOf 11 = .ok (.getfield 7, 3) := by decide +kernel
theorem dX12_arcsOf_14 : decode cX12_arcsOf 14 = .ok (.iload 4, 2) := by decide +kernel
theorem dX12_arcsOf_16 : decode cX12_arcsOf 16 = .ok (.iload_n 3, 1) := by decide +kernel
theorem dX12_arcsOf_17 : decode cX12_arcsOf 17 = .ok (.iadd, 1) := by decide +kernel
theorem dX12_arcsOf_18 : decode cX12_arcsOf 18 = .ok (.iaload, 1) := by decide +kernel
theorem dX12_arcsOf_19 : decode cX12_arcsOf 19 = .ok (.aload_n 0, 1) := by decide +kernel
theorem dX12_arcsOf_20 : decode cX12_arcsOf 20 = .ok (.getfield 7, 3) := by decide +kernel
theorem dX12_arcsOf_23 : decode cX12_arcsOf 23 = .ok (.iload 4, 2) := by decide +kernel
theorem dX12_arcsOf_25 : decode cX12_arcsOf 25 = .ok (.iload_n 3, 1) := by decide +kernel
theorem dX12_arcsOf_26 : decode cX12_arcsOf 26 = .ok (.iload_n 2, 1) := by decide +kernel
theorem dX12_arcsOf_27 : decode cX12_arcsOf 27 = .ok (.iconst 4, 1) := by decide +kernel
theorem dX12_arcsOf_28 : decode cX12_arcsOf 28 = .ok (.irem, 1) := by decide +kernel
theorem dX12_arcsOf_29 : decode cX12_arcsOf 29 = .ok (.invokestatic 77, 3) := by decide +kernel
theorem dX12_arcsOf_32 : decode cX12_arcsOf 32 = .ok (.iadd, 1) := by decide +kernel
theorem dX12_arcsOf_33 : decode cX12_arcsOf 33 = .ok (.iaload, 1) := by decide +kernel
theorem dX12_arcsOf_34 : decode cX12_arcsOf 34 = .ok (.iadd, 1) := by decide +kernel
theorem dX12_arcsOf_35 : decode cX12_arcsOf 35 = .ok (.ireturn, 1) := by decide +kernel
theorem dX12_weightOf_0 : decode cX12_weightOf 0 = .ok (.iload_n 3, 1) := by decide +kernel
theorem dX12_weightOf_1 : decode cX12_weightOf 1 = .ok (.invokestatic 56, 3) := by decide +kernel
theorem dX12_weightOf_4 : decode cX12_weightOf 4 = .ok (.istore 4, 2) := by decide +kernel
theorem dX12_weightOf_6 : decode cX12_weightOf 6 = .ok (.iload_n 3, 1) := by decide +kernel
theorem dX12_weightOf_7 : decode cX12_weightOf 7 = .ok (.invokestatic 80, 3) := by decide +kernel
theorem dX12_weightOf_10 : decode cX12_weightOf 10 = .ok (.istore 5, 2) := by decide +kernel
theorem dX12_weightOf_12 : decode cX12_weightOf 12 = .ok (.iload_n 1, 1) := by decide +kernel
theorem dX12_weightOf_13 : decode cX12_weightOf 13 = .ok (.bipush 7, 2) := by decide +kernel
theorem dX12_weightOf_15 : decode cX12_weightOf 15 = .ok (.iload_n 2, 1) := by decide +kernel
theorem dX12_weightOf_16 : decode cX12_weightOf 16 = .ok (.imul, 1) := by decide +kernel
theorem dX12_weightOf_17 : decode cX12_weightOf 17 = .ok (.iadd, 1) := by decide +kernel
theorem dX12_weightOf_18 : decode cX12_weightOf 18 = .ok (.istore 6, 2) := by decide +kernel
theorem dX12_weightOf_20 : decode cX12_weightOf 20 = .ok (.aload_n 0, 1) := by decide +kernel
theorem dX12_weightOf_21 : decode cX12_weightOf 21 = .ok (.getfield 7, 3) := by decide +kernel
theorem dX12_weightOf_24 : decode cX12_weightOf 24 = .ok (.iload 6, 2) := by decide +kernel
theorem dX12_weightOf_26 : decode cX12_weightOf 26 = .ok (.iload 4, 2) := by decide +kernel
theorem dX12_weightOf_28 : decode cX12_weightOf 28 = .ok (.iadd, 1) := by decide +kernel
theorem dX12_weightOf_29 : decode cX12_weightOf 29 = .ok (.iaload, 1) := by decide +kernel
theorem dX12_weightOf_30 : decode cX12_weightOf 30 = .ok (.aload_n 0, 1) := by decide +kernel
theorem dX12_weightOf_31 : decode cX12_weightOf 31 = .ok (.getfield 7, 3) := by decide +kernel
theorem dX12_weightOf_34 : decode cX12_weightOf 34 = .ok (.iload 6, 2) := by decide +kernel
theorem dX12_weightOf_36 : decode cX12_weightOf 36 = .ok (.iload 5, 2) := by decide +kernel
theorem dX12_weightOf_38 : decode cX12_weightOf 38 = .ok (.iadd, 1) := by decide +kernel
theorem dX12_weightOf_39 : decode cX12_weightOf 39 = .ok (.iaload, 1) := by decide +kernel
theorem dX12_weightOf_40 : decode cX12_weightOf 40 = .ok (.iadd, 1) := by decide +kernel
theorem dX12_weightOf_41 : decode cX12_weightOf 41 = .ok (.aload_n 0, 1) := by decide +kernel
theorem dX12_weightOf_42 : decode cX12_weightOf 42 = .ok (.getfield 7, 3) := by decide +kernel
theorem dX12_weightOf_45 : decode cX12_weightOf 45 = .ok (.iload 6, 2) := by decide +kernel
theorem dX12_weightOf_47 : decode cX12_weightOf 47 = .ok (.iconst 4, 1) := by decide +kernel
theorem dX12_weightOf_48 : decode cX12_weightOf 48 = .ok (.iadd, 1) := by decide +kernel
theorem dX12_weightOf_49 : decode cX12_weightOf 49 = .ok (.iaload, 1) := by decide +kernel
theorem dX12_weightOf_50 : decode cX12_weightOf 50 = .ok (.iadd, 1) := by decide +kernel
theorem dX12_weightOf_51 : decode cX12_weightOf 51 = .ok (.aload_n 0, 1) := by decide +kernel
theorem dX12_weightOf_52 : decode cX12_weightOf 52 = .ok (.getfield 7, 3) := by decide +kernel
theorem dX12_weightOf_55 : decode cX12_weightOf 55 = .ok (.iload 6, 2) := by decide +kernel
theorem dX12_weightOf_57 : decode cX12_weightOf 57 = .ok (.iconst 5, 1) := by decide +kernel
theorem dX12_weightOf_58 : decode cX12_weightOf 58 = .ok (.iadd, 1) := by decide +kernel
theorem dX12_weightOf_59 : decode cX12_weightOf 59 = .ok (.iaload, 1) := by decide +kernel
theorem dX12_weightOf_60 : decode cX12_weightOf 60 = .ok (.iadd, 1) := by decide +kernel
theorem dX12_weightOf_61 : decode cX12_weightOf 61 = .ok (.aload_n 0, 1) := by decide +kernel
theorem dX12_weightOf_62 : decode cX12_weightOf 62 = .ok (.getfield 7, 3) := by decide +kernel
theorem dX12_weightOf_65 : decode cX12_weightOf 65 = .ok (.iload 6, 2) := by decide +kernel
theorem dX12_weightOf_67 : decode cX12_weightOf 67 = .ok (.bipush 6, 2) := by decide +kernel
theorem dX12_weightOf_69 : decode cX12_weightOf 69 = .ok (.iadd, 1) := by decide +kernel
theorem dX12_weightOf_70 : decode cX12_weightOf 70 = .ok (.iaload, 1) := by decide +kernel
theorem dX12_weightOf_71 : decode cX12_weightOf 71 = .ok (.iadd, 1) := by decide +kernel
theorem dX12_weightOf_72 : decode cX12_weightOf 72 = .ok (.aload_n 0, 1) := by decide +kernel
theorem dX12_weightOf_73 : decode cX12_weightOf 73 = .ok (.getfield 7, 3) := by decide +kernel
theorem dX12_weightOf_76 : decode cX12_weightOf 76 = .ok (.iload 6, 2) := by decide +kernel
theorem dX12_weightOf_78 : decode cX12_weightOf 78 = .ok (.iload 4, 2) := by decide +kernel
theorem dX12_weightOf_80 : decode cX12_weightOf 80 = .ok (.iload 5, 2) := by decide +kernel
theorem dX12_weightOf_82 : decode cX12_weightOf 82 = .ok (.invokestatic 77, 3) := by decide +kernel
theorem dX12_weightOf_85 : decode cX12_weightOf 85 = .ok (.iadd, 1) := by decide +kernel
theorem dX12_weightOf_86 : decode cX12_weightOf 86 = .ok (.iaload, 1) := by decide +kernel
theorem dX12_weightOf_87 : decode cX12_weightOf 87 = .ok (.isub, 1) := by decide +kernel
theorem dX12_weightOf_88 : decode cX12_weightOf 88 = .ok (.ireturn, 1) := by decide +kernel
theorem dX12_meets_0 : decode cX12_meets 0 = .ok (.iconst 0, 1) := by decide +kernel
theorem dX12_meets_1 : decode cX12_meets 1 = .ok (.istore_n 2, 1) := by decide +kernel
theorem dX12_meets_2 : decode cX12_meets 2 = .ok (.iload_n 2, 1) := by decide +kernel
theorem dX12_meets_3 : decode cX12_meets 3 = .ok (.aload_n 0, 1) := by decide +kernel
theorem dX12_meets_4 : decode cX12_meets 4 = .ok (.invokevirtual 48, 3) := by decide +kernel
theorem dX12_meets_7 : decode cX12_meets 7 = .ok (.if_icmp .ge 74, 3) := by decide +kernel
theorem dX12_meets_10 : decode cX12_meets 10 = .ok (.iconst 0, 1) := by decide +kernel
theorem dX12_meets_11 : decode cX12_meets 11 = .ok (.istore_n 3, 1) := by decide +kernel
theorem dX12_meets_12 : decode cX12_meets 12 = .ok (.iload_n 3, 1) := by decide +kernel
theorem dX12_meets_13 : decode cX12_meets 13 = .ok (.iconst 4, 1) := by decide +kernel
theorem dX12_meets_14 : decode cX12_meets 14 = .ok (.if_icmp .ge 61, 3) := by decide +kernel
theorem dX12_meets_17 : decode cX12_meets 17 = .ok (.aload_n 0, 1) := by decide +kernel
theorem dX12_meets_18 : decode cX12_meets 18 = .ok (.iload_n 2, 1) := by decide +kernel
theorem dX12_meets_19 : decode cX12_meets 19 = .ok (.invokevirtual 52, 3) := by decide +kernel
theorem dX12_meets_22 : decode cX12_meets 22 = .ok (.ifCond .ne 53, 3) := by decide +kernel
theorem dX12_meets_25 : decode cX12_meets 25 = .ok (.iload_n 3, 1) := by decide +kernel
theorem dX12_meets_26 : decode cX12_meets 26 = .ok (.iload_n 2, 1) := by decide +kernel
theorem dX12_meets_27 : decode cX12_meets 27 = .ok (.iconst 4, 1) := by decide +kernel
theorem dX12_meets_28 : decode cX12_meets 28 = .ok (.irem, 1) := by decide +kernel
theorem dX12_meets_29 : decode cX12_meets 29 = .ok (.if_icmp .eq 40, 3) := by decide +kernel
theorem dX12_meets_32 : decode cX12_meets 32 = .ok (.aload_n 0, 1) := by decide +kernel
theorem dX12_meets_33 : decode cX12_meets 33 = .ok (.iload_n 2, 1) := by decide +kernel
theorem dX12_meets_34 : decode cX12_meets 34 = .ok (.iload_n 3, 1) := by decide +kernel
theorem dX12_meets_35 : decode cX12_meets 35 = .ok (.invokevirtual 60, 3) := by decide +kernel
theorem dX12_meets_38 : decode cX12_meets 38 = .ok (.istore 4, 2) := by decide +kernel
theorem dX12_meets_40 : decode cX12_meets 40 = .ok (.aload_n 0, 1) := by decide +kernel
theorem dX12_meets_41 : decode cX12_meets 41 = .ok (.iload_n 1, 1) := by decide +kernel
theorem dX12_meets_42 : decode cX12_meets 42 = .ok (.iload_n 2, 1) := by decide +kernel
theorem dX12_meets_43 : decode cX12_meets 43 = .ok (.iload_n 3, 1) := by decide +kernel
theorem dX12_meets_44 : decode cX12_meets 44 = .ok (.invokevirtual 83, 3) := by decide +kernel
theorem dX12_meets_47 : decode cX12_meets 47 = .ok (.aload_n 0, 1) := by decide +kernel
theorem dX12_meets_48 : decode cX12_meets 48 = .ok (.iload_n 1, 1) := by decide +kernel
theorem dX12_meets_49 : decode cX12_meets 49 = .ok (.aload_n 0, 1) := by decide +kernel
theorem dX12_meets_50 : decode cX12_meets 50 = .ok (.getfield 7, 3) := by decide +kernel
theorem dX12_meets_53 : decode cX12_meets 53 = .ok (.iconst 2, 1) := by decide +kernel
theorem dX12_meets_54 : decode cX12_meets 54 = .ok (.iload_n 2, 1) := by decide +kernel
theorem dX12_meets_55 : decode cX12_meets 55 = .ok (.iadd, 1) := by decide +kernel
theorem dX12_meets_56 : decode cX12_meets 56 = .ok (.iaload, 1) := by decide +kernel
theorem dX12_meets_57 : decode cX12_meets 57 = .ok (.iload 4, 2) := by decide +kernel
theorem dX12_meets_59 : decode cX12_meets 59 = .ok (.iconst 4, 1) := by decide +kernel
theorem dX12_meets_60 : decode cX12_meets 60 = .ok (.irem, 1) := by decide +kernel
theorem dX12_meets_61 : decode cX12_meets 61 = .ok (.invokevirtual 83, 3) := by decide +kernel
theorem dX12_meets_64 : decode cX12_meets 64 = .ok (.if_icmp .eq 5, 3) := by decide +kernel
theorem dX12_meets_67 : decode cX12_meets 67 = .ok (.iconst 0, 1) := by decide +kernel
theorem dX12_meets_68 : decode cX12_meets 68 = .ok (.ireturn, 1) := by decide +kernel
theorem dX12_meets_69 : decode cX12_meets 69 = .ok (.iinc 3 1, 3) := by decide +kernel
theorem dX12_meets_72 : decode cX12_meets 72 = .ok (.goto (-60), 3) := by decide +kernel
theorem dX12_meets_75 : decode cX12_meets 75 = .ok (.iinc 2 1, 3) := by decide +kernel
theorem dX12_meets_78 : decode cX12_meets 78 = .ok (.goto (-76), 3) := by decide +kernel
theorem dX12_meets_81 : decode cX12_meets 81 = .ok (.iconst 1, 1) := by decide +kernel
theorem dX12_meets_82 : decode cX12_meets 82 = .ok (.ireturn, 1) := by decide +kernel
theorem dX12_crosses_0 : decode cX12_crosses 0 = .ok (.iconst 0, 1) := by decide +kernel
theorem dX12_crosses_1 : decode cX12_crosses 1 = .ok (.istore_n 2, 1) := by decide +kernel
theorem dX12_crosses_2 : decode cX12_crosses 2 = .ok (.iconst 0, 1) := by decide +kernel
theorem dX12_crosses_3 : decode cX12_crosses 3 = .ok (.istore_n 3, 1) := by decide +kernel
theorem dX12_crosses_4 : decode cX12_crosses 4 = .ok (.iload_n 3, 1) := by decide +kernel
theorem dX12_crosses_5 : decode cX12_crosses 5 = .ok (.aload_n 0, 1) := by decide +kernel
theorem dX12_crosses_6 : decode cX12_crosses 6 = .ok (.getfield 7, 3) := by decide +kernel
theorem dX12_crosses_9 : decode cX12_crosses 9 = .ok (.iconst 0, 1) := by decide +kernel
theorem dX12_crosses_10 : decode cX12_crosses 10 = .ok (.iaload, 1) := by decide +kernel
theorem dX12_crosses_11 : decode cX12_crosses 11 = .ok (.if_icmp .ge 89, 3) := by decide +kernel
theorem dX12_crosses_14 : decode cX12_crosses 14 = .ok (.iload_n 1, 1) := by decide +kernel
theorem dX12_crosses_15 : decode cX12_crosses 15 = .ok (.bipush 7, 2) := by decide +kernel
theorem dX12_crosses_17 : decode cX12_crosses 17 = .ok (.iload_n 3, 1) := by decide +kernel
theorem dX12_crosses_18 : decode cX12_crosses 18 = .ok (.imul, 1) := by decide +kernel
theorem dX12_crosses_19 : decode cX12_crosses 19 = .ok (.iadd, 1) := by decide +kernel
theorem dX12_crosses_20 : decode cX12_crosses 20 = .ok (.istore 4, 2) := by decide +kernel
theorem dX12_crosses_22 : decode cX12_crosses 22 = .ok (.aload_n 0, 1) := by decide +kernel
theorem dX12_crosses_23 : decode cX12_crosses 23 = .ok (.getfield 7, 3) := by decide +kernel
theorem dX12_crosses_26 : decode cX12_crosses 26 = .ok (.iload 4, 2) := by decide +kernel
theorem dX12_crosses_28 : decode cX12_crosses 28 = .ok (.iconst 4, 1) := by decide +kernel
theorem dX12_crosses_29 : decode cX12_crosses 29 = .ok (.iadd, 1) := by decide +kernel
theorem dX12_crosses_30 : decode cX12_crosses 30 = .ok (.iaload, 1) := by decide +kernel
theorem dX12_crosses_31 : decode cX12_crosses 31 = .ok (.ifCond .le 7, 3) := by decide +kernel
theorem dX12_crosses_34 : decode cX12_crosses 34 = .ok (.iconst 1, 1) := by decide +kernel
theorem dX12_crosses_35 : decode cX12_crosses 35 = .ok (.goto 4, 3) := by decide +kernel
theorem dX12_crosses_38 : decode cX12_crosses 38 = .ok (.iconst 0, 1) := by decide +kernel
theorem dX12_crosses_39 : decode cX12_crosses 39 = .ok (.aload_n 0, 1) := by decide +kernel
theorem dX12_crosses_40 : decode cX12_crosses 40 = .ok (.getfield 7, 3) := by decide +kernel
theorem dX12_crosses_43 : decode cX12_crosses 43 = .ok (.iload 4, 2) := by decide +kernel
theorem dX12_crosses_45 : decode cX12_crosses 45 = .ok (.iconst 5, 1) := by decide +kernel
theorem dX12_crosses_46 : decode cX12_crosses 46 = .ok (.iadd, 1) := by decide +kernel
theorem dX12_crosses_47 : decode cX12_crosses 47 = .ok (.iaload, 1) := by decide +kernel
theorem dX12_crosses_48 : decode cX12_crosses 48 = .ok (.ifCond .le 7, 3) := by decide +kernel
theorem dX12_crosses_51 : decode cX12_crosses 51 = .ok (.iconst 1, 1) := by decide +kernel
theorem dX12_crosses_52 : decode cX12_crosses 52 = .ok (.goto 4, 3) := by decide +kernel
theorem dX12_crosses_55 : decode cX12_crosses 55 = .ok (.iconst 0, 1) := by decide +kernel
theorem dX12_crosses_56 : decode cX12_crosses 56 = .ok (.iadd, 1) := by decide +kernel
theorem dX12_crosses_57 : decode cX12_crosses 57 = .ok (.aload_n 0, 1) := by decide +kernel
theorem dX12_crosses_58 : decode cX12_crosses 58 = .ok (.getfield 7, 3) := by decide +kernel
theorem dX12_crosses_61 : decode cX12_crosses 61 = .ok (.iload 4, 2) := by decide +kernel
theorem dX12_crosses_63 : decode cX12_crosses 63 = .ok (.bipush 6, 2) := by decide +kernel
theorem dX12_crosses_65 : decode cX12_crosses 65 = .ok (.iadd, 1) := by decide +kernel
theorem dX12_crosses_66 : decode cX12_crosses 66 = .ok (.iaload, 1) := by decide +kernel
theorem dX12_crosses_67 : decode cX12_crosses 67 = .ok (.ifCond .le 7, 3) := by decide +kernel
theorem dX12_crosses_70 : decode cX12_crosses 70 = .ok (.iconst 1, 1) := by decide +kernel
theorem dX12_crosses_71 : decode cX12_crosses 71 = .ok (.goto 4, 3) := by decide +kernel
theorem dX12_crosses_74 : decode cX12_crosses 74 = .ok (.iconst 0, 1) := by decide +kernel
theorem dX12_crosses_75 : decode cX12_crosses 75 = .ok (.iadd, 1) := by decide +kernel
theorem dX12_crosses_76 : decode cX12_crosses 76 = .ok (.istore 5, 2) := by decide +kernel
theorem dX12_crosses_78 : decode cX12_crosses 78 = .ok (.iload_n 2, 1) := by decide +kernel
theorem dX12_crosses_79 : decode cX12_crosses 79 = .ok (.ifCond .ne 9, 3) := by decide +kernel
theorem dX12_crosses_82 : decode cX12_crosses 82 = .ok (.iload 5, 2) := by decide +kernel
theorem dX12_crosses_84 : decode cX12_crosses 84 = .ok (.iconst 1, 1) := by decide +kernel
theorem dX12_crosses_85 : decode cX12_crosses 85 = .ok (.if_icmp .le 7, 3) := by decide +kernel
theorem dX12_crosses_88 : decode cX12_crosses 88 = .ok (.iconst 1, 1) := by decide +kernel
theorem dX12_crosses_89 : decode cX12_crosses 89 = .ok (.goto 4, 3) := by decide +kernel
theorem dX12_crosses_92 : decode cX12_crosses 92 = .ok (.iconst 0, 1) := by decide +kernel
theorem dX12_crosses_93 : decode cX12_crosses 93 = .ok (.istore_n 2, 1) := by decide +kernel
theorem dX12_crosses_94 : decode cX12_crosses 94 = .ok (.iinc 3 1, 3) := by decide +kernel
theorem dX12_crosses_97 : decode cX12_crosses 97 = .ok (.goto (-93), 3) := by decide +kernel
theorem dX12_crosses_100 : decode cX12_crosses 100 = .ok (.iload_n 2, 1) := by decide +kernel
theorem dX12_crosses_101 : decode cX12_crosses 101 = .ok (.ireturn, 1) := by decide +kernel
theorem dX12_isWell_0 : decode cX12_isWell 0 = .ok (.aload_n 0, 1) := by decide +kernel
theorem dX12_isWell_1 : decode cX12_isWell 1 = .ok (.iload_n 1, 1) := by decide +kernel
theorem dX12_isWell_2 : decode cX12_isWell 2 = .ok (.invokevirtual 87, 3) := by decide +kernel
theorem dX12_isWell_5 : decode cX12_isWell 5 = .ok (.ifCond .eq 15, 3) := by decide +kernel
theorem dX12_isWell_8 : decode cX12_isWell 8 = .ok (.aload_n 0, 1) := by decide +kernel
theorem dX12_isWell_9 : decode cX12_isWell 9 = .ok (.iload_n 1, 1) := by decide +kernel
theorem dX12_isWell_10 : decode cX12_isWell 10 = .ok (.invokevirtual 90, 3) := by decide +kernel
theorem dX12_isWell_13 : decode cX12_isWell 13 = .ok (.ifCond .ne 7, 3) := by decide +kernel
theorem dX12_isWell_16 : decode cX12_isWell 16 = .ok (.iconst 1, 1) := by decide +kernel
theorem dX12_isWell_17 : decode cX12_isWell 17 = .ok (.goto 4, 3) := by decide +kernel
theorem dX12_isWell_20 : decode cX12_isWell 20 = .ok (.iconst 0, 1) := by decide +kernel
theorem dX12_isWell_21 : decode cX12_isWell 21 = .ok (.ireturn, 1) := by decide +kernel
theorem dX12_allPieces_0 : decode cX12_allPieces 0 = .ok (.iconst 0, 1) := by decide +kernel
theorem dX12_allPieces_1 : decode cX12_allPieces 1 = .ok (.istore_n 2, 1) := by decide +kernel
theorem dX12_allPieces_2 : decode cX12_allPieces 2 = .ok (.iconst 0, 1) := by decide +kernel
theorem dX12_allPieces_3 : decode cX12_allPieces 3 = .ok (.istore_n 3, 1) := by decide +kernel
theorem dX12_allPieces_4 : decode cX12_allPieces 4 = .ok (.iload_n 3, 1) := by decide +kernel
theorem dX12_allPieces_5 : decode cX12_allPieces 5 = .ok (.bipush 7, 2) := by decide +kernel
theorem dX12_allPieces_7 : decode cX12_allPieces 7 = .ok (.aload_n 0, 1) := by decide +kernel
theorem dX12_allPieces_8 : decode cX12_allPieces 8 = .ok (.getfield 7, 3) := by decide +kernel
theorem dX12_allPieces_11 : decode cX12_allPieces 11 = .ok (.iconst 0, 1) := by decide +kernel
theorem dX12_allPieces_12 : decode cX12_allPieces 12 = .ok (.iaload, 1) := by decide +kernel
theorem dX12_allPieces_13 : decode cX12_allPieces 13 = .ok (.imul, 1) := by decide +kernel
theorem dX12_allPieces_14 : decode cX12_allPieces 14 = .ok (.if_icmp .ge 20, 3) := by decide +kernel
theorem dX12_allPieces_17 : decode cX12_allPieces 17 = .ok (.iload_n 2, 1) := by decide +kernel
theorem dX12_allPieces_18 : decode cX12_allPieces 18 = .ok (.aload_n 0, 1) := by decide +kernel
theorem dX12_allPieces_19 : decode cX12_allPieces 19 = .ok (.getfield 7, 3) := by decide +kernel
theorem dX12_allPieces_22 : decode cX12_allPieces 22 = .ok (.iload_n 1, 1) := by decide +kernel
theorem dX12_allPieces_23 : decode cX12_allPieces 23 = .ok (.iload_n 3, 1) := by decide +kernel
theorem dX12_allPieces_24 : decode cX12_allPieces 24 = .ok (.iadd, 1) := by decide +kernel
theorem dX12_allPieces_25 : decode cX12_allPieces 25 = .ok (.iaload, 1) := by decide +kernel
theorem dX12_allPieces_26 : decode cX12_allPieces 26 = .ok (.iadd, 1) := by decide +kernel
theorem dX12_allPieces_27 : decode cX12_allPieces 27 = .ok (.istore_n 2, 1) := by decide +kernel
theorem dX12_allPieces_28 : decode cX12_allPieces 28 = .ok (.iinc 3 1, 3) := by decide +kernel
theorem dX12_allPieces_31 : decode cX12_allPieces 31 = .ok (.goto (-27), 3) := by decide +kernel
theorem dX12_allPieces_34 : decode cX12_allPieces 34 = .ok (.iload_n 2, 1) := by decide +kernel
theorem dX12_allPieces_35 : decode cX12_allPieces 35 = .ok (.ireturn, 1) := by decide +kernel
theorem dX12_arcsOfWall_0 : decode cX12_arcsOfWall 0 = .ok (.iconst 0, 1) := by decide +kernel
theorem dX12_arcsOfWall_1 : decode cX12_arcsOfWall 1 = .ok (.istore_n 3, 1) := by decide +kernel
theorem dX12_arcsOfWall_2 : decode cX12_arcsOfWall 2 = .ok (.iconst 0, 1) := by decide +kernel
theorem dX12_arcsOfWall_3 : decode cX12_arcsOfWall 3 = .ok (.istore 4, 2) := by decide +kernel
theorem dX12_arcsOfWall_5 : decode cX12_arcsOfWall 5 = .ok (.iload 4, 2) := by decide +kernel
theorem dX12_arcsOfWall_7 : decode cX12_arcsOfWall 7 = .ok (.iconst 4, 1) := by decide +kernel
theorem dX12_arcsOfWall_8 : decode cX12_arcsOfWall 8 = .ok (.if_icmp .ge 32, 3) := by decide +kernel
theorem dX12_arcsOfWall_11 : decode cX12_arcsOfWall 11 = .ok (.iload_n 3, 1) := by decide +kernel
theorem dX12_arcsOfWall_12 : decode cX12_arcsOfWall 12 = .ok (.iload 4, 2) := by decide +kernel
theorem dX12_arcsOfWall_14 : decode cX12_arcsOfWall 14 = .ok (.iload_n 2, 1) := by decide +kernel
theorem dX12_arcsOfWall_15 : decode cX12_arcsOfWall 15 = .ok (.iconst 4, 1) := by decide +kernel
theorem dX12_arcsOfWall_16 : decode cX12_arcsOfWall 16 = .ok (.irem, 1) := by decide +kernel
theorem dX12_arcsOfWall_17 : decode cX12_arcsOfWall 17 = .ok (.if_icmp .eq 14, 3) := by decide +kernel
theorem dX12_arcsOfWall_20 : decode cX12_arcsOfWall 20 = .ok (.aload_n 0, 1) := by decide +kernel
theorem dX12_arcsOfWall_21 : decode cX12_arcsOfWall 21 = .ok (.iload_n 1, 1) := by decide +kernel
theorem dX12_arcsOfWall_22 : decode cX12_arcsOfWall 22 = .ok (.iload_n 2, 1) := by decide +kernel
theorem dX12_arcsOfWall_23 : decode cX12_arcsOfWall 23 = .ok (.iload 4, 2) := by decide +kernel
theorem dX12_arcsOfWall_25 : decode cX12_arcsOfWall 25 = .ok (.invokevirtual 83, 3) := by decide +kernel
theorem dX12_arcsOfWall_28 : decode cX12_arcsOfWall 28 = .ok (.goto 4, 3) := by decide +kernel
theorem dX12_arcsOfWall_31 : decode cX12_arcsOfWall 31 = .ok (.iconst 0, 1) := by decide +kernel
theorem dX12_arcsOfWall_32 : decode cX12_arcsOfWall 32 = .ok (.iadd, 1) := by decide +kernel
theorem dX12_arcsOfWall_33 : decode cX12_arcsOfWall 33 = .ok (.istore_n 3, 1) := by decide +kernel
theorem dX12_arcsOfWall_34 : decode cX12_arcsOfWall 34 = .ok (.iinc 4 1, 3) := by decide +kernel
theorem dX12_arcsOfWall_37 : decode cX12_arcsOfWall 37 = .ok (.goto (-32), 3) := by decide +kernel
theorem dX12_arcsOfWall_40 : decode cX12_arcsOfWall 40 = .ok (.iload_n 3, 1) := by decide +kernel
theorem dX12_arcsOfWall_41 : decode cX12_arcsOfWall 41 = .ok (.ireturn, 1) := by decide +kernel
theorem dX12_border_0 : decode cX12_border 0 = .ok (.iconst 0, 1) := by decide +kernel
theorem dX12_border_1 : decode cX12_border 1 = .ok (.istore_n 2, 1) := by decide +kernel
theorem dX12_border_2 : decode cX12_border 2 = .ok (.iconst 0, 1) := by decide +kernel
theorem dX12_border_3 : decode cX12_border 3 = .ok (.istore_n 3, 1) := by decide +kernel
theorem dX12_border_4 : decode cX12_border 4 = .ok (.iload_n 3, 1) := by decide +kernel
theorem dX12_border_5 : decode cX12_border 5 = .ok (.aload_n 0, 1) := by decide +kernel
theorem dX12_border_6 : decode cX12_border 6 = .ok (.invokevirtual 48, 3) := by decide +kernel
theorem dX12_border_9 : decode cX12_border 9 = .ok (.if_icmp .ge 30, 3) := by decide +kernel
theorem dX12_border_12 : decode cX12_border 12 = .ok (.iload_n 2, 1) := by decide +kernel
theorem dX12_border_13 : decode cX12_border 13 = .ok (.aload_n 0, 1) := by decide +kernel
theorem dX12_border_14 : decode cX12_border 14 = .ok (.iload_n 3, 1) := by decide +kernel
theorem dX12_border_15 : decode cX12_border 15 = .ok (.invokevirtual 52, 3) := by decide +kernel
theorem dX12_border_18 : decode cX12_border 18 = .ok (.ifCond .eq 12, 3) := by decide +kernel
theorem dX12_border_21 : decode cX12_border 21 = .ok (.aload_n 0, 1) := by decide +kernel
theorem dX12_border_22 : decode cX12_border 22 = .ok (.iload_n 1, 1) := by decide +kernel
theorem dX12_border_23 : decode cX12_border 23 = .ok (.iload_n 3, 1) := by decide +kernel
theorem dX12_border_24 : decode cX12_border 24 = .ok (.invokevirtual 93, 3) := by decide +kernel
theorem dX12_border_27 : decode cX12_border 27 = .ok (.goto 4, 3) := by decide +kernel
theorem dX12_border_30 : decode cX12_border 30 = .ok (.iconst 0, 1) := by decide +kernel
theorem dX12_border_31 : decode cX12_border 31 = .ok (.iadd, 1) := by decide +kernel
theorem dX12_border_32 : decode cX12_border 32 = .ok (.istore_n 2, 1) := by decide +kernel
theorem dX12_border_33 : decode cX12_border 33 = .ok (.iinc 3 1, 3) := by decide +kernel
theorem dX12_border_36 : decode cX12_border 36 = .ok (.goto (-32), 3) := by decide +kernel
theorem dX12_border_39 : decode cX12_border 39 = .ok (.iload_n 2, 1) := by decide +kernel
theorem dX12_border_40 : decode cX12_border 40 = .ok (.ireturn, 1) := by decide +kernel
theorem dX12_euler_0 : decode cX12_euler 0 = .ok (.aload_n 0, 1) := by decide +kernel
theorem dX12_euler_1 : decode cX12_euler 1 = .ok (.invokevirtual 96, 3) := by decide +kernel
theorem dX12_euler_4 : decode cX12_euler 4 = .ok (.aload_n 0, 1) := by decide +kernel
theorem dX12_euler_5 : decode cX12_euler 5 = .ok (.iload_n 1, 1) := by decide +kernel
theorem dX12_euler_6 : decode cX12_euler 6 = .ok (.invokevirtual 99, 3) := by decide +kernel
theorem dX12_euler_9 : decode cX12_euler 9 = .ok (.istore_n 2, 1) := by decide +kernel
theorem dX12_euler_10 : decode cX12_euler 10 = .ok (.iconst 0, 1) := by decide +kernel
theorem dX12_euler_11 : decode cX12_euler 11 = .ok (.istore_n 3, 1) := by decide +kernel
theorem dX12_euler_12 : decode cX12_euler 12 = .ok (.iload_n 3, 1) := by decide +kernel
theorem dX12_euler_13 : decode cX12_euler 13 = .ok (.bipush 6, 2) := by decide +kernel
theorem dX12_euler_15 : decode cX12_euler 15 = .ok (.aload_n 0, 1) := by decide +kernel
theorem dX12_euler_16 : decode cX12_euler 16 = .ok (.getfield 7, 3) := by decide +kernel
theorem dX12_euler_19 : decode cX12_euler 19 = .ok (.iconst 0, 1) := by decide +kernel
theorem dX12_euler_20 : decode cX12_euler 20 = .ok (.iaload, 1) := by decide +kernel
theorem dX12_euler_21 : decode cX12_euler 21 = .ok (.imul, 1) := by decide +kernel
theorem dX12_euler_22 : decode cX12_euler 22 = .ok (.if_icmp .ge 39, 3) := by decide +kernel
theorem dX12_euler_25 : decode cX12_euler 25 = .ok (.iload_n 2, 1) := by decide +kernel
theorem dX12_euler_26 : decode cX12_euler 26 = .ok (.aload_n 0, 1) := by decide +kernel
theorem dX12_euler_27 : decode cX12_euler 27 = .ok (.getfield 25, 3) := by decide +kernel
theorem dX12_euler_30 : decode cX12_euler 30 = .ok (.iload_n 3, 1) := by decide +kernel
theorem dX12_euler_31 : decode cX12_euler 31 = .ok (.iaload, 1) := by decide +kernel
theorem dX12_euler_32 : decode cX12_euler 32 = .ok (.iload_n 3, 1) := by decide +kernel
theorem dX12_euler_33 : decode cX12_euler 33 = .ok (.if_icmp .ne 19, 3) := by decide +kernel
theorem dX12_euler_36 : decode cX12_euler 36 = .ok (.aload_n 0, 1) := by decide +kernel
theorem dX12_euler_37 : decode cX12_euler 37 = .ok (.iload_n 1, 1) := by decide +kernel
theorem dX12_euler_38 : decode cX12_euler 38 = .ok (.iload_n 3, 1) := by decide +kernel
theorem dX12_euler_39 : decode cX12_euler 39 = .ok (.bipush 6, 2) := by decide +kernel
theorem dX12_euler_41 : decode cX12_euler 41 = .ok (.idiv, 1) := by decide +kernel
theorem dX12_euler_42 : decode cX12_euler 42 = .ok (.iload_n 3, 1) := by decide +kernel
theorem dX12_euler_43 : decode cX12_euler 43 = .ok (.bipush 6, 2) := by decide +kernel
theorem dX12_euler_45 : decode cX12_euler 45 = .ok (.irem, 1) := by decide +kernel
theorem dX12_euler_46 : decode cX12_euler 46 = .ok (.invokevirtual 102, 3) := by decide +kernel
theorem dX12_euler_49 : decode cX12_euler 49 = .ok (.goto 4, 3) := by decide +kernel
theorem dX12_euler_52 : decode cX12_euler 52 = .ok (.iconst 0, 1) := by decide +kernel
theorem dX12_euler_53 : decode cX12_euler 53 = .ok (.iadd, 1) := by decide +kernel
theorem dX12_euler_54 : decode cX12_euler 54 = .ok (.istore_n 2, 1) := by decide +kernel
theorem dX12_euler_55 : decode cX12_euler 55 = .ok (.iinc 3 1, 3) := by decide +kernel
theorem dX12_euler_58 : decode cX12_euler 58 = .ok (.goto (-46), 3) := by decide +kernel
theorem dX12_euler_61 : decode cX12_euler 61 = .ok (.iconst 0, 1) := by decide +kernel
theorem dX12_euler_62 : decode cX12_euler 62 = .ok (.istore_n 3, 1) := by decide +kernel
theorem dX12_euler_63 : decode cX12_euler 63 = .ok (.iload_n 3, 1) := by decide +kernel
theorem dX12_euler_64 : decode cX12_euler 64 = .ok (.aload_n 0, 1) := by decide +kernel
theorem dX12_euler_65 : decode cX12_euler 65 = .ok (.invokevirtual 48, 3) := by decide +kernel
theorem dX12_euler_68 : decode cX12_euler 68 = .ok (.if_icmp .ge 42, 3) := by decide +kernel
theorem dX12_euler_71 : decode cX12_euler 71 = .ok (.iload_n 2, 1) := by decide +kernel
theorem dX12_euler_72 : decode cX12_euler 72 = .ok (.aload_n 0, 1) := by decide +kernel
theorem dX12_euler_73 : decode cX12_euler 73 = .ok (.iload_n 3, 1) := by decide +kernel
theorem dX12_euler_74 : decode cX12_euler 74 = .ok (.invokevirtual 52, 3) := by decide +kernel
theorem dX12_euler_77 : decode cX12_euler 77 = .ok (.ifCond .ne 15, 3) := by decide +kernel
theorem dX12_euler_80 : decode cX12_euler 80 = .ok (.iload_n 3, 1) := by decide +kernel
theorem dX12_euler_81 : decode cX12_euler 81 = .ok (.aload_n 0, 1) := by decide +kernel
theorem dX12_euler_82 : decode cX12_euler 82 = .ok (.getfield 7, 3) := by decide +kernel
theorem dX12_euler_85 : decode cX12_euler 85 = .ok (.iconst 2, 1) := by decide +kernel
theorem dX12_euler_86 : decode cX12_euler 86 = .ok (.iload_n 3, 1) := by decide +kernel
theorem dX12_euler_87 : decode cX12_euler 87 = .ok (.iadd, 1) := by decide +kernel
theorem dX12_euler_88 : decode cX12_euler 88 = .ok (.iaload, 1) := by decide +kernel
theorem dX12_euler_89 : decode cX12_euler 89 = .ok (.if_icmp .ge 12, 3) := by decide +kernel
theorem dX12_euler_92 : decode cX12_euler 92 = .ok (.aload_n 0, 1) := by decide +kernel
theorem dX12_euler_93 : decode cX12_euler 93 = .ok (.iload_n 1, 1) := by decide +kernel
theorem dX12_euler_94 : decode cX12_euler 94 = .ok (.iload_n 3, 1) := by decide +kernel
theorem dX12_euler_95 : decode cX12_euler 95 = .ok (.invokevirtual 93, 3) := by decide +kernel
theorem dX12_euler_98 : decode cX12_euler 98 = .ok (.goto 4, 3) := by decide +kernel
theorem dX12_euler_101 : decode cX12_euler 101 = .ok (.iconst 0, 1) := by decide +kernel
theorem dX12_euler_102 : decode cX12_euler 102 = .ok (.isub, 1) := by decide +kernel
theorem dX12_euler_103 : decode cX12_euler 103 = .ok (.istore_n 2, 1) := by decide +kernel
theorem dX12_euler_104 : decode cX12_euler 104 = .ok (.iinc 3 1, 3) := by decide +kernel
theorem dX12_euler_107 : decode cX12_euler 107 = .ok (.goto (-44), 3) := by decide +kernel
theorem dX12_euler_110 : decode cX12_euler 110 = .ok (.iload_n 2, 1) := by decide +kernel
theorem dX12_euler_111 : decode cX12_euler 111 = .ok (.ireturn, 1) := by decide +kernel
theorem dX12_isWithFirst_0 : decode cX12_isWithFirst 0 = .ok (.iload_n 1, 1) := by decide +kernel
theorem dX12_isWithFirst_1 : decode cX12_isWithFirst 1 = .ok (.ifCond .eq 10, 3) := by decide +kernel
theorem dX12_isWithFirst_4 : decode cX12_isWithFirst 4 = .ok (.iload_n 1, 1) := by decide +kernel
theorem dX12_isWithFirst_5 : decode cX12_isWithFirst 5 = .ok (.iload_n 0, 1) := by decide +kernel
theorem dX12_isWithFirst_6 : decode cX12_isWithFirst 6 = .ok (.iconst 3, 1) := by decide +kernel
theorem dX12_isWithFirst_7 : decode cX12_isWithFirst 7 = .ok (.isub, 1) := by decide +kernel
theorem dX12_isWithFirst_8 : decode cX12_isWithFirst 8 = .ok (.if_icmp .ne 7, 3) := by decide +kernel
theorem dX12_isWithFirst_11 : decode cX12_isWithFirst 11 = .ok (.iconst 1, 1) := by decide +kernel
theorem dX12_isWithFirst_12 : decode cX12_isWithFirst 12 = .ok (.goto 4, 3) := by decide +kernel
theorem dX12_isWithFirst_15 : decode cX12_isWithFirst 15 = .ok (.iconst 0, 1) := by decide +kernel
theorem dX12_isWithFirst_16 : decode cX12_isWithFirst 16 = .ok (.ireturn, 1) := by decide +kernel
theorem dX12_pieceAt_0 : decode cX12_pieceAt 0 = .ok (.iload_n 2, 1) := by decide +kernel
theorem dX12_pieceAt_1 : decode cX12_pieceAt 1 = .ok (.iconst 4, 1) := by decide +kernel
theorem dX12_pieceAt_2 : decode cX12_pieceAt 2 = .ok (.idiv, 1) := by decide +kernel
theorem dX12_pieceAt_3 : decode cX12_pieceAt 3 = .ok (.istore 5, 2) := by decide +kernel
theorem dX12_pieceAt_5 : decode cX12_pieceAt 5 = .ok (.iload_n 3, 1) := by decide +kernel
theorem dX12_pieceAt_6 : decode cX12_pieceAt 6 = .ok (.iload_n 2, 1) := by decide +kernel
theorem dX12_pieceAt_7 : decode cX12_pieceAt 7 = .ok (.iconst 4, 1) := by decide +kernel
theorem dX12_pieceAt_8 : decode cX12_pieceAt 8 = .ok (.irem, 1) := by decide +kernel
theorem dX12_pieceAt_9 : decode cX12_pieceAt 9 = .ok (.invokestatic 77, 3) := by decide +kernel
theorem dX12_pieceAt_12 : decode cX12_pieceAt 12 = .ok (.istore 6, 2) := by decide +kernel
theorem dX12_pieceAt_14 : decode cX12_pieceAt 14 = .ok (.aload_n 0, 1) := by decide +kernel
theorem dX12_pieceAt_15 : decode cX12_pieceAt 15 = .ok (.getfield 7, 3) := by decide +kernel
theorem dX12_pieceAt_18 : decode cX12_pieceAt 18 = .ok (.iload_n 1, 1) := by decide +kernel
theorem dX12_pieceAt_19 : decode cX12_pieceAt 19 = .ok (.bipush 7, 2) := by decide +kernel
theorem dX12_pieceAt_21 : decode cX12_pieceAt 21 = .ok (.iload 5, 2) := by decide +kernel
theorem dX12_pieceAt_23 : decode cX12_pieceAt 23 = .ok (.imul, 1) := by decide +kernel
theorem dX12_pieceAt_24 : decode cX12_pieceAt 24 = .ok (.iadd, 1) := by decide +kernel
theorem dX12_pieceAt_25 : decode cX12_pieceAt 25 = .ok (.iload_n 3, 1) := by decide +kernel
theorem dX12_pieceAt_26 : decode cX12_pieceAt 26 = .ok (.iadd, 1) := by decide +kernel
theorem dX12_pieceAt_27 : decode cX12_pieceAt 27 = .ok (.iaload, 1) := by decide +kernel
theorem dX12_pieceAt_28 : decode cX12_pieceAt 28 = .ok (.istore 7, 2) := by decide +kernel
theorem dX12_pieceAt_30 : decode cX12_pieceAt 30 = .ok (.aload_n 0, 1) := by decide +kernel
theorem dX12_pieceAt_31 : decode cX12_pieceAt 31 = .ok (.getfield 7, 3) := by decide +kernel
theorem dX12_pieceAt_34 : decode cX12_pieceAt 34 = .ok (.iload_n 1, 1) := by decide +kernel
theorem dX12_pieceAt_35 : decode cX12_pieceAt 35 = .ok (.bipush 7, 2) := by decide +kernel
theorem dX12_pieceAt_37 : decode cX12_pieceAt 37 = .ok (.iload 5, 2) := by decide +kernel
theorem dX12_pieceAt_39 : decode cX12_pieceAt 39 = .ok (.imul, 1) := by decide +kernel
theorem dX12_pieceAt_40 : decode cX12_pieceAt 40 = .ok (.iadd, 1) := by decide +kernel
theorem dX12_pieceAt_41 : decode cX12_pieceAt 41 = .ok (.iload 6, 2) := by decide +kernel
theorem dX12_pieceAt_43 : decode cX12_pieceAt 43 = .ok (.iadd, 1) := by decide +kernel
theorem dX12_pieceAt_44 : decode cX12_pieceAt 44 = .ok (.iaload, 1) := by decide +kernel
theorem dX12_pieceAt_45 : decode cX12_pieceAt 45 = .ok (.istore 8, 2) := by decide +kernel
theorem dX12_pieceAt_47 : decode cX12_pieceAt 47 = .ok (.iload 4, 2) := by decide +kernel
theorem dX12_pieceAt_49 : decode cX12_pieceAt 49 = .ok (.iload 7, 2) := by decide +kernel
theorem dX12_pieceAt_51 : decode cX12_pieceAt 51 = .ok (.if_icmp .ge 17, 3) := by decide +kernel
theorem dX12_pieceAt_54 : decode cX12_pieceAt 54 = .ok (.bipush 20, 2) := by decide +kernel
theorem dX12_pieceAt_56 : decode cX12_pieceAt 56 = .ok (.bipush 7, 2) := by decide +kernel
theorem dX12_pieceAt_58 : decode cX12_pieceAt 58 = .ok (.iload 5, 2) := by decide +kernel
theorem dX12_pieceAt_60 : decode cX12_pieceAt 60 = .ok (.imul, 1) := by decide +kernel
theorem dX12_pieceAt_61 : decode cX12_pieceAt 61 = .ok (.iload_n 3, 1) := by decide +kernel
theorem dX12_pieceAt_62 : decode cX12_pieceAt 62 = .ok (.iadd, 1) := by decide +kernel
theorem dX12_pieceAt_63 : decode cX12_pieceAt 63 = .ok (.imul, 1) := by decide +kernel
theorem dX12_pieceAt_64 : decode cX12_pieceAt 64 = .ok (.iload 4, 2) := by decide +kernel
theorem dX12_pieceAt_66 : decode cX12_pieceAt 66 = .ok (.iadd, 1) := by decide +kernel
theorem dX12_pieceAt_67 : decode cX12_pieceAt 67 = .ok (.ireturn, 1) := by decide +kernel
theorem dX12_pieceAt_68 : decode cX12_pieceAt 68 = .ok (.iload 4, 2) := by decide +kernel
theorem dX12_pieceAt_70 : decode cX12_pieceAt 70 = .ok (.iload 7, 2) := by decide +kernel
theorem dX12_pieceAt_72 : decode cX12_pieceAt 72 = .ok (.isub, 1) := by decide +kernel
theorem dX12_pieceAt_73 : decode cX12_pieceAt 73 = .ok (.istore 9, 2) := by decide +kernel
theorem dX12_pieceAt_75 : decode cX12_pieceAt 75 = .ok (.bipush 20, 2) := by decide +kernel
theorem dX12_pieceAt_77 : decode cX12_pieceAt 77 = .ok (.bipush 7, 2) := by decide +kernel
theorem dX12_pieceAt_79 : decode cX12_pieceAt 79 = .ok (.iload 5, 2) := by decide +kernel
theorem dX12_pieceAt_81 : decode cX12_pieceAt 81 = .ok (.imul, 1) := by decide +kernel
theorem dX12_pieceAt_82 : decode cX12_pieceAt 82 = .ok (.iload 6, 2) := by decide +kernel
theorem dX12_pieceAt_84 : decode cX12_pieceAt 84 = .ok (.iadd, 1) := by decide +kernel
theorem dX12_pieceAt_85 : decode cX12_pieceAt 85 = .ok (.imul, 1) := by decide +kernel
theorem dX12_pieceAt_86 : decode cX12_pieceAt 86 = .ok (.iload 6, 2) := by decide +kernel
theorem dX12_pieceAt_88 : decode cX12_pieceAt 88 = .ok (.iload_n 3, 1) := by decide +kernel
theorem dX12_pieceAt_89 : decode cX12_pieceAt 89 = .ok (.invokestatic 105, 3) := by decide +kernel
theorem dX12_pieceAt_92 : decode cX12_pieceAt 92 = .ok (.ifCond .eq 8, 3) := by decide +kernel
theorem dX12_pieceAt_95 : decode cX12_pieceAt 95 = .ok (.iload 9, 2) := by decide +kernel
theorem dX12_pieceAt_97 : decode cX12_pieceAt 97 = .ok (.goto 10, 3) := by decide +kernel
theorem dX12_pieceAt_100 : decode cX12_pieceAt 100 = .ok (.iload 8, 2) := by decide +kernel
theorem dX12_pieceAt_102 : decode cX12_pieceAt 102 = .ok (.iconst 1, 1) := by decide +kernel
theorem dX12_pieceAt_103 : decode cX12_pieceAt 103 = .ok (.isub, 1) := by decide +kernel
theorem dX12_pieceAt_104 : decode cX12_pieceAt 104 = .ok (.iload 9, 2) := by decide +kernel
theorem dX12_pieceAt_106 : decode cX12_pieceAt 106 = .ok (.isub, 1) := by decide +kernel
theorem dX12_pieceAt_107 : decode cX12_pieceAt 107 = .ok (.iadd, 1) := by decide +kernel
theorem dX12_pieceAt_108 : decode cX12_pieceAt 108 = .ok (.ireturn, 1) := by decide +kernel
theorem dX12_sideTo_0 : decode cX12_sideTo 0 = .ok (.iload_n 0, 1) := by decide +kernel
theorem dX12_sideTo_1 : decode cX12_sideTo 1 = .ok (.bipush 20, 2) := by decide +kernel
theorem dX12_sideTo_3 : decode cX12_sideTo 3 = .ok (.idiv, 1) := by decide +kernel
theorem dX12_sideTo_4 : decode cX12_sideTo 4 = .ok (.bipush 7, 2) := by decide +kernel
theorem dX12_sideTo_6 : decode cX12_sideTo 6 = .ok (.irem, 1) := by decide +kernel
theorem dX12_sideTo_7 : decode cX12_sideTo 7 = .ok (.istore_n 2, 1) := by decide +kernel
theorem dX12_sideTo_8 : decode cX12_sideTo 8 = .ok (.iconst 2, 1) := by decide +kernel
theorem dX12_sideTo_9 : decode cX12_sideTo 9 = .ok (.iload_n 0, 1) := by decide +kernel
theorem dX12_sideTo_10 : decode cX12_sideTo 10 = .ok (.imul, 1) := by decide +kernel
theorem dX12_sideTo_11 : decode cX12_sideTo 11 = .ok (.iload_n 2, 1) := by decide +kernel
theorem dX12_sideTo_12 : decode cX12_sideTo 12 = .ok (.iconst 4, 1) := by decide +kernel
theorem dX12_sideTo_13 : decode cX12_sideTo 13 = .ok (.if_icmp .lt 11, 3) := by decide +kernel
theorem dX12_sideTo_16 : decode cX12_sideTo 16 = .ok (.iload_n 2, 1) := by decide +kernel
theorem dX12_sideTo_17 : decode cX12_sideTo 17 = .ok (.iload_n 1, 1) := by decide +kernel
theorem dX12_sideTo_18 : decode cX12_sideTo 18 = .ok (.invokestatic 105, 3) := by decide +kernel
theorem dX12_sideTo_21 : decode cX12_sideTo 21 = .ok (.ifCond .eq 7, 3) := by decide +kernel
theorem dX12_sideTo_24 : decode cX12_sideTo 24 = .ok (.iconst 0, 1) := by decide +kernel
theorem dX12_sideTo_25 : decode cX12_sideTo 25 = .ok (.goto 4, 3) := by decide +kernel
theorem dX12_sideTo_28 : decode cX12_sideTo 28 = .ok (.iconst 1, 1) := by decide +kernel
theorem dX12_sideTo_29 : decode cX12_sideTo 29 = .ok (.iadd, 1) := by decide +kernel
theorem dX12_sideTo_30 : decode cX12_sideTo 30 = .ok (.ireturn, 1) := by decide +kernel
theorem dX12_joinArcs_0 : decode cX12_joinArcs 0 = .ok (.aload_n 0, 1) := by decide +kernel
theorem dX12_joinArcs_1 : decode cX12_joinArcs 1 = .ok (.getfield 7, 3) := by decide +kernel
theorem dX12_joinArcs_4 : decode cX12_joinArcs 4 = .ok (.iconst 2, 1) := by decide +kernel
theorem dX12_joinArcs_5 : decode cX12_joinArcs 5 = .ok (.iload_n 2, 1) := by decide +kernel
theorem dX12_joinArcs_6 : decode cX12_joinArcs 6 = .ok (.iadd, 1) := by decide +kernel
theorem dX12_joinArcs_7 : decode cX12_joinArcs 7 = .ok (.iaload, 1) := by decide +kernel
theorem dX12_joinArcs_8 : decode cX12_joinArcs 8 = .ok (.istore 4, 2) := by decide +kernel
theorem dX12_joinArcs_10 : decode cX12_joinArcs 10 = .ok (.aload_n 0, 1) := by decide +kernel
theorem dX12_joinArcs_11 : decode cX12_joinArcs 11 = .ok (.iload_n 2, 1) := by decide +kernel
theorem dX12_joinArcs_12 : decode cX12_joinArcs 12 = .ok (.iload_n 3, 1) := by decide +kernel
theorem dX12_joinArcs_13 : decode cX12_joinArcs 13 = .ok (.invokevirtual 60, 3) := by decide +kernel
theorem dX12_joinArcs_16 : decode cX12_joinArcs 16 = .ok (.iconst 4, 1) := by decide +kernel
theorem dX12_joinArcs_17 : decode cX12_joinArcs 17 = .ok (.irem, 1) := by decide +kernel
theorem dX12_joinArcs_18 : decode cX12_joinArcs 18 = .ok (.istore 5, 2) := by decide +kernel
theorem dX12_joinArcs_20 : decode cX12_joinArcs 20 = .ok (.aload_n 0, 1) := by decide +kernel
theorem dX12_joinArcs_21 : decode cX12_joinArcs 21 = .ok (.iload_n 1, 1) := by decide +kernel
theorem dX12_joinArcs_22 : decode cX12_joinArcs 22 = .ok (.iload_n 2, 1) := by decide +kernel
theorem dX12_joinArcs_23 : decode cX12_joinArcs 23 = .ok (.iload_n 3, 1) := by decide +kernel
theorem dX12_joinArcs_24 : decode cX12_joinArcs 24 = .ok (.invokevirtual 83, 3) := by decide +kernel
theorem dX12_joinArcs_27 : decode cX12_joinArcs 27 = .ok (.istore 6, 2) := by decide +kernel
theorem dX12_joinArcs_29 : decode cX12_joinArcs 29 = .ok (.iconst 0, 1) := by decide +kernel
theorem dX12_joinArcs_30 : decode cX12_joinArcs 30 = .ok (.istore 7, 2) := by decide +kernel
theorem dX12_joinArcs_32 : decode cX12_joinArcs 32 = .ok (.iload 7, 2) := by decide +kernel
theorem dX12_joinArcs_34 : decode cX12_joinArcs 34 = .ok (.iload 6, 2) := by decide +kernel
theorem dX12_joinArcs_36 : decode cX12_joinArcs 36 = .ok (.if_icmp .ge 96, 3) := by decide +kernel
theorem dX12_joinArcs_39 : decode cX12_joinArcs 39 = .ok (.aload_n 0, 1) := by decide +kernel
theorem dX12_joinArcs_40 : decode cX12_joinArcs 40 = .ok (.iload_n 1, 1) := by decide +kernel
theorem dX12_joinArcs_41 : decode cX12_joinArcs 41 = .ok (.iload_n 2, 1) := by decide +kernel
theorem dX12_joinArcs_42 : decode cX12_joinArcs 42 = .ok (.iload_n 3, 1) := by decide +kernel
theorem dX12_joinArcs_43 : decode cX12_joinArcs 43 = .ok (.iload 7, 2) := by decide +kernel
theorem dX12_joinArcs_45 : decode cX12_joinArcs 45 = .ok (.invokevirtual 109, 3) := by decide +kernel
theorem dX12_joinArcs_48 : decode cX12_joinArcs 48 = .ok (.istore 8, 2) := by decide +kernel
theorem dX12_joinArcs_50 : decode cX12_joinArcs 50 = .ok (.aload_n 0, 1) := by decide +kernel
theorem dX12_joinArcs_51 : decode cX12_joinArcs 51 = .ok (.iload_n 1, 1) := by decide +kernel
theorem dX12_joinArcs_52 : decode cX12_joinArcs 52 = .ok (.iload 4, 2) := by decide +kernel
theorem dX12_joinArcs_54 : decode cX12_joinArcs 54 = .ok (.iload 5, 2) := by decide +kernel
theorem dX12_joinArcs_56 : decode cX12_joinArcs 56 = .ok (.iload 7, 2) := by decide +kernel
theorem dX12_joinArcs_58 : decode cX12_joinArcs 58 = .ok (.invokevirtual 109, 3) := by decide +kernel
theorem dX12_joinArcs_61 : decode cX12_joinArcs 61 = .ok (.istore 9, 2) := by decide +kernel
theorem dX12_joinArcs_63 : decode cX12_joinArcs 63 = .ok (.iload 8, 2) := by decide +kernel
theorem dX12_joinArcs_65 : decode cX12_joinArcs 65 = .ok (.iload_n 3, 1) := by decide +kernel
theorem dX12_joinArcs_66 : decode cX12_joinArcs 66 = .ok (.invokestatic 113, 3) := by decide +kernel
theorem dX12_joinArcs_69 : decode cX12_joinArcs 69 = .ok (.istore 10, 2) := by decide +kernel
theorem dX12_joinArcs_71 : decode cX12_joinArcs 71 = .ok (.iload 9, 2) := by decide +kernel
theorem dX12_joinArcs_73 : decode cX12_joinArcs 73 = .ok (.iload 5, 2) := by decide +kernel
theorem dX12_joinArcs_75 : decode cX12_joinArcs 75 = .ok (.invokestatic 113, 3) := by decide +kernel
theorem dX12_joinArcs_78 : decode cX12_joinArcs 78 = .ok (.istore 11, 2) := by decide +kernel
theorem dX12_joinArcs_80 : decode cX12_joinArcs 80 = .ok (.aload_n 0, 1) := by decide +kernel
theorem dX12_joinArcs_81 : decode cX12_joinArcs 81 = .ok (.getfield 31, 3) := by decide +kernel
theorem dX12_joinArcs_84 : decode cX12_joinArcs 84 = .ok (.sipush 420, 3) := by decide +kernel
theorem dX12_joinArcs_87 : decode cX12_joinArcs 87 = .ok (.iload 8, 2) := by decide +kernel
theorem dX12_joinArcs_89 : decode cX12_joinArcs 89 = .ok (.iload 9, 2) := by decide +kernel
theorem dX12_joinArcs_91 : decode cX12_joinArcs 91 = .ok (.invokestatic 63, 3) := by decide +kernel
theorem dX12_joinArcs_94 : decode cX12_joinArcs 94 = .ok (.aload_n 0, 1) := by decide +kernel
theorem dX12_joinArcs_95 : decode cX12_joinArcs 95 = .ok (.getfield 34, 3) := by decide +kernel
theorem dX12_joinArcs_98 : decode cX12_joinArcs 98 = .ok (.sipush 840, 3) := by decide +kernel
theorem dX12_joinArcs_101 : decode cX12_joinArcs 101 = .ok (.iload 10, 2) := by decide +kernel
theorem dX12_joinArcs_103 : decode cX12_joinArcs 103 = .ok (.iload 11, 2) := by decide +kernel
theorem dX12_joinArcs_105 : decode cX12_joinArcs 105 = .ok (.invokestatic 63, 3) := by decide +kernel
theorem dX12_joinArcs_108 : decode cX12_joinArcs 108 = .ok (.aload_n 0, 1) := by decide +kernel
theorem dX12_joinArcs_109 : decode cX12_joinArcs 109 = .ok (.getfield 34, 3) := by decide +kernel
theorem dX12_joinArcs_112 : decode cX12_joinArcs 112 = .ok (.sipush 840, 3) := by decide +kernel
theorem dX12_joinArcs_115 : decode cX12_joinArcs 115 = .ok (.iload 10, 2) := by decide +kernel
theorem dX12_joinArcs_117 : decode cX12_joinArcs 117 = .ok (.iconst 1, 1) := by decide +kernel
theorem dX12_joinArcs_118 : decode cX12_joinArcs 118 = .ok (.ixor, 1) := by decide +kernel
theorem dX12_joinArcs_119 : decode cX12_joinArcs 119 = .ok (.iload 11, 2) := by decide +kernel
theorem dX12_joinArcs_121 : decode cX12_joinArcs 121 = .ok (.iconst 1, 1) := by decide +kernel
theorem dX12_joinArcs_122 : decode cX12_joinArcs 122 = .ok (.ixor, 1) := by decide +kernel
theorem dX12_joinArcs_123 : decode cX12_joinArcs 123 = .ok (.invokestatic 63, 3) := by decide +kernel
theorem dX12_joinArcs_126 : decode cX12_joinArcs 126 = .ok (.iinc 7 1, 3) := by decide +kernel
theorem dX12_joinArcs_129 : decode cX12_joinArcs 129 = .ok (.goto (-97), 3) := by decide +kernel
theorem dX12_joinArcs_132 : decode cX12_joinArcs 132 = .ok (.return_, 1) := by decide +kernel
theorem dX12_join_0 : decode cX12_join 0 = .ok (.iconst 0, 1) := by decide +kernel
theorem dX12_join_1 : decode cX12_join 1 = .ok (.istore_n 2, 1) := by decide +kernel
theorem dX12_join_2 : decode cX12_join 2 = .ok (.iload_n 2, 1) := by decide +kernel
theorem dX12_join_3 : decode cX12_join 3 = .ok (.sipush 840, 3) := by decide +kernel
theorem dX12_join_6 : decode cX12_join 6 = .ok (.if_icmp .ge 27, 3) := by decide +kernel
theorem dX12_join_9 : decode cX12_join 9 = .ok (.aload_n 0, 1) := by decide +kernel
theorem dX12_join_10 : decode cX12_join 10 = .ok (.getfield 34, 3) := by decide +kernel
theorem dX12_join_13 : decode cX12_join 13 = .ok (.iload_n 2, 1) := by decide +kernel
theorem dX12_join_14 : decode cX12_join 14 = .ok (.iload_n 2, 1) := by decide +kernel
theorem dX12_join_15 : decode cX12_join 15 = .ok (.iastore, 1) := by decide +kernel
theorem dX12_join_16 : decode cX12_join 16 = .ok (.aload_n 0, 1) := by decide +kernel
theorem dX12_join_17 : decode cX12_join 17 = .ok (.getfield 31, 3) := by decide +kernel
theorem dX12_join_20 : decode cX12_join 20 = .ok (.iload_n 2, 1) := by decide +kernel
theorem dX12_join_21 : decode cX12_join 21 = .ok (.iconst 2, 1) := by decide +kernel
theorem dX12_join_22 : decode cX12_join 22 = .ok (.idiv, 1) := by decide +kernel
theorem dX12_join_23 : decode cX12_join 23 = .ok (.iload_n 2, 1) := by decide +kernel
theorem dX12_join_24 : decode cX12_join 24 = .ok (.iconst 2, 1) := by decide +kernel
theorem dX12_join_25 : decode cX12_join 25 = .ok (.idiv, 1) := by decide +kernel
theorem dX12_join_26 : decode cX12_join 26 = .ok (.iastore, 1) := by decide +kernel
theorem dX12_join_27 : decode cX12_join 27 = .ok (.iinc 2 1, 3) := by decide +kernel
theorem dX12_join_30 : decode cX12_join 30 = .ok (.goto (-28), 3) := by decide +kernel
theorem dX12_join_33 : decode cX12_join 33 = .ok (.iconst 0, 1) := by decide +kernel
theorem dX12_join_34 : decode cX12_join 34 = .ok (.istore_n 2, 1) := by decide +kernel
theorem dX12_join_35 : decode cX12_join 35 = .ok (.iload_n 2, 1) := by decide +kernel
theorem dX12_join_36 : decode cX12_join 36 = .ok (.aload_n 0, 1) := by decide +kernel
theorem dX12_join_37 : decode cX12_join 37 = .ok (.invokevirtual 48, 3) := by decide +kernel
theorem dX12_join_40 : decode cX12_join 40 = .ok (.if_icmp .ge 56, 3) := by decide +kernel
theorem dX12_join_43 : decode cX12_join 43 = .ok (.iconst 0, 1) := by decide +kernel
theorem dX12_join_44 : decode cX12_join 44 = .ok (.istore_n 3, 1) := by decide +kernel
theorem dX12_join_45 : decode cX12_join 45 = .ok (.iload_n 3, 1) := by decide +kernel
theorem dX12_join_46 : decode cX12_join 46 = .ok (.iconst 4, 1) := by decide +kernel
theorem dX12_join_47 : decode cX12_join 47 = .ok (.if_icmp .ge 43, 3) := by decide +kernel
theorem dX12_join_50 : decode cX12_join 50 = .ok (.aload_n 0, 1) := by decide +kernel
theorem dX12_join_51 : decode cX12_join 51 = .ok (.iload_n 2, 1) := by decide +kernel
theorem dX12_join_52 : decode cX12_join 52 = .ok (.invokevirtual 52, 3) := by decide +kernel
theorem dX12_join_55 : decode cX12_join 55 = .ok (.ifCond .ne 35, 3) := by decide +kernel
theorem dX12_join_58 : decode cX12_join 58 = .ok (.iload_n 2, 1) := by decide +kernel
theorem dX12_join_59 : decode cX12_join 59 = .ok (.aload_n 0, 1) := by decide +kernel
theorem dX12_join_60 : decode cX12_join 60 = .ok (.getfield 7, 3) := by decide +kernel
theorem dX12_join_63 : decode cX12_join 63 = .ok (.iconst 2, 1) := by decide +kernel
theorem dX12_join_64 : decode cX12_join 64 = .ok (.iload_n 2, 1) := by decide +kernel
theorem dX12_join_65 : decode cX12_join 65 = .ok (.iadd, 1) := by decide +kernel
theorem dX12_join_66 : decode cX12_join 66 = .ok (.iaload, 1) := by decide +kernel
theorem dX12_join_67 : decode cX12_join 67 = .ok (.if_icmp .ge 23, 3) := by decide +kernel
theorem dX12_join_70 : decode cX12_join 70 = .ok (.iload_n 3, 1) := by decide +kernel
theorem dX12_join_71 : decode cX12_join 71 = .ok (.iload_n 2, 1) := by decide +kernel
theorem dX12_join_72 : decode cX12_join 72 = .ok (.iconst 4, 1) := by decide +kernel
theorem dX12_join_73 : decode cX12_join 73 = .ok (.irem, 1) := by decide +kernel
theorem dX12_join_74 : decode cX12_join 74 = .ok (.if_icmp .eq 10, 3) := by decide +kernel
theorem dX12_join_77 : decode cX12_join 77 = .ok (.aload_n 0, 1) := by decide +kernel
theorem dX12_join_78 : decode cX12_join 78 = .ok (.iload_n 1, 1) := by decide +kernel
theorem dX12_join_79 : decode cX12_join 79 = .ok (.iload_n 2, 1) := by decide +kernel
theorem dX12_join_80 : decode cX12_join 80 = .ok (.iload_n 3, 1) := by decide +kernel
theorem dX12_join_81 : decode cX12_join 81 = .ok (.invokevirtual 116, 3) := by decide +kernel
theorem dX12_join_84 : decode cX12_join 84 = .ok (.iinc 3 1, 3) := by decide +kernel
theorem dX12_join_87 : decode cX12_join 87 = .ok (.goto (-42), 3) := by decide +kernel
theorem dX12_join_90 : decode cX12_join 90 = .ok (.iinc 2 1, 3) := by decide +kernel
theorem dX12_join_93 : decode cX12_join 93 = .ok (.goto (-58), 3) := by decide +kernel
theorem dX12_join_96 : decode cX12_join 96 = .ok (.return_, 1) := by decide +kernel
theorem dX12_isThere_0 : decode cX12_isThere 0 = .ok (.iload_n 2, 1) := by decide +kernel
theorem dX12_isThere_1 : decode cX12_isThere 1 = .ok (.bipush 20, 2) := by decide +kernel
theorem dX12_isThere_3 : decode cX12_isThere 3 = .ok (.irem, 1) := by decide +kernel
theorem dX12_isThere_4 : decode cX12_isThere 4 = .ok (.aload_n 0, 1) := by decide +kernel
theorem dX12_isThere_5 : decode cX12_isThere 5 = .ok (.getfield 7, 3) := by decide +kernel
theorem dX12_isThere_8 : decode cX12_isThere 8 = .ok (.iload_n 1, 1) := by decide +kernel
theorem dX12_isThere_9 : decode cX12_isThere 9 = .ok (.iload_n 2, 1) := by decide +kernel
theorem dX12_isThere_10 : decode cX12_isThere 10 = .ok (.bipush 20, 2) := by decide +kernel
theorem dX12_isThere_12 : decode cX12_isThere 12 = .ok (.idiv, 1) := by decide +kernel
theorem dX12_isThere_13 : decode cX12_isThere 13 = .ok (.iadd, 1) := by decide +kernel
theorem dX12_isThere_14 : decode cX12_isThere 14 = .ok (.iaload, 1) := by decide +kernel
theorem dX12_isThere_15 : decode cX12_isThere 15 = .ok (.if_icmp .ge 7, 3) := by decide +kernel
theorem dX12_isThere_18 : decode cX12_isThere 18 = .ok (.iconst 1, 1) := by decide +kernel
theorem dX12_isThere_19 : decode cX12_isThere 19 = .ok (.goto 4, 3) := by decide +kernel
theorem dX12_isThere_22 : decode cX12_isThere 22 = .ok (.iconst 0, 1) := by decide +kernel
theorem dX12_isThere_23 : decode cX12_isThere 23 = .ok (.ireturn, 1) := by decide +kernel
theorem dX12_isTwoSided_0 : decode cX12_isTwoSided 0 = .ok (.iconst 1, 1) := by decide +kernel
theorem dX12_isTwoSided_1 : decode cX12_isTwoSided 1 = .ok (.istore_n 3, 1) := by decide +kernel
theorem dX12_isTwoSided_2 : decode cX12_isTwoSided 2 = .ok (.iconst 0, 1) := by decide +kernel
theorem dX12_isTwoSided_3 : decode cX12_isTwoSided 3 = .ok (.istore 4, 2) := by decide +kernel
theorem dX12_isTwoSided_5 : decode cX12_isTwoSided 5 = .ok (.iload 4, 2) := by decide +kernel
theorem dX12_isTwoSided_7 : decode cX12_isTwoSided 7 = .ok (.sipush 140, 3) := by decide +kernel
theorem dX12_isTwoSided_10 : decode cX12_isTwoSided 10 = .ok (.aload_n 0, 1) := by decide +kernel
theorem dX12_isTwoSided_11 : decode cX12_isTwoSided 11 = .ok (.getfield 7, 3) := by decide +kernel
theorem dX12_isTwoSided_14 : decode cX12_isTwoSided 14 = .ok (.iconst 0, 1) := by decide +kernel
theorem dX12_isTwoSided_15 : decode cX12_isTwoSided 15 = .ok (.iaload, 1) := by decide +kernel
theorem dX12_isTwoSided_16 : decode cX12_isTwoSided 16 = .ok (.imul, 1) := by decide +kernel
theorem dX12_isTwoSided_17 : decode cX12_isTwoSided 17 = .ok (.if_icmp .ge 63, 3) := by decide +kernel
theorem dX12_isTwoSided_20 : decode cX12_isTwoSided 20 = .ok (.iload_n 3, 1) := by decide +kernel
theorem dX12_isTwoSided_21 : decode cX12_isTwoSided 21 = .ok (.ifCond .eq 51, 3) := by decide +kernel
theorem dX12_isTwoSided_24 : decode cX12_isTwoSided 24 = .ok (.aload_n 0, 1) := by decide +kernel
theorem dX12_isTwoSided_25 : decode cX12_isTwoSided 25 = .ok (.getfield 31, 3) := by decide +kernel
theorem dX12_isTwoSided_28 : decode cX12_isTwoSided 28 = .ok (.iload 4, 2) := by decide +kernel
theorem dX12_isTwoSided_30 : decode cX12_isTwoSided 30 = .ok (.iaload, 1) := by decide +kernel
theorem dX12_isTwoSided_31 : decode cX12_isTwoSided 31 = .ok (.iload_n 2, 1) := by decide +kernel
theorem dX12_isTwoSided_32 : decode cX12_isTwoSided 32 = .ok (.if_icmp .ne 36, 3) := by decide +kernel
theorem dX12_isTwoSided_35 : decode cX12_isTwoSided 35 = .ok (.aload_n 0, 1) := by decide +kernel
theorem dX12_isTwoSided_36 : decode cX12_isTwoSided 36 = .ok (.iload_n 1, 1) := by decide +kernel
theorem dX12_isTwoSided_37 : decode cX12_isTwoSided 37 = .ok (.iload 4, 2) := by decide +kernel
theorem dX12_isTwoSided_39 : decode cX12_isTwoSided 39 = .ok (.invokevirtual 120, 3) := by decide +kernel
theorem dX12_isTwoSided_42 : decode cX12_isTwoSided 42 = .ok (.ifCond .eq 26, 3) := by decide +kernel
theorem dX12_isTwoSided_45 : decode cX12_isTwoSided 45 = .ok (.aload_n 0, 1) := by decide +kernel
theorem dX12_isTwoSided_46 : decode cX12_isTwoSided 46 = .ok (.getfield 34, 3) := by decide +kernel
theorem dX12_isTwoSided_49 : decode cX12_isTwoSided 49 = .ok (.iconst 2, 1) := by decide +kernel
theorem dX12_isTwoSided_50 : decode cX12_isTwoSided 50 = .ok (.iload 4, 2) := by decide +kernel
theorem dX12_isTwoSided_52 : decode cX12_isTwoSided 52 = .ok (.imul, 1) := by decide +kernel
theorem dX12_isTwoSided_53 : decode cX12_isTwoSided 53 = .ok (.iaload, 1) := by decide +kernel
theorem dX12_isTwoSided_54 : decode cX12_isTwoSided 54 = .ok (.aload_n 0, 1) := by decide +kernel
theorem dX12_isTwoSided_55 : decode cX12_isTwoSided 55 = .ok (.getfield 34, 3) := by decide +kernel
theorem dX12_isTwoSided_58 : decode cX12_isTwoSided 58 = .ok (.iconst 2, 1) := by decide +kernel
theorem dX12_isTwoSided_59 : decode cX12_isTwoSided 59 = .ok (.iload 4, 2) := by decide +kernel
theorem dX12_isTwoSided_61 : decode cX12_isTwoSided 61 = .ok (.imul, 1) := by decide +kernel
theorem dX12_isTwoSided_62 : decode cX12_isTwoSided 62 = .ok (.iconst 1, 1) := by decide +kernel
theorem dX12_isTwoSided_63 : decode cX12_isTwoSided 63 = .ok (.iadd, 1) := by decide +kernel
theorem dX12_isTwoSided_64 : decode cX12_isTwoSided 64 = .ok (.iaload, 1) := by decide +kernel
theorem dX12_isTwoSided_65 : decode cX12_isTwoSided 65 = .ok (.if_icmp .eq 7, 3) := by decide +kernel
theorem dX12_isTwoSided_68 : decode cX12_isTwoSided 68 = .ok (.iconst 1, 1) := by decide +kernel
theorem dX12_isTwoSided_69 : decode cX12_isTwoSided 69 = .ok (.goto 4, 3) := by decide +kernel
theorem dX12_isTwoSided_72 : decode cX12_isTwoSided 72 = .ok (.iconst 0, 1) := by decide +kernel
theorem dX12_isTwoSided_73 : decode cX12_isTwoSided 73 = .ok (.istore_n 3, 1) := by decide +kernel
theorem dX12_isTwoSided_74 : decode cX12_isTwoSided 74 = .ok (.iinc 4 1, 3) := by decide +kernel
theorem dX12_isTwoSided_77 : decode cX12_isTwoSided 77 = .ok (.goto (-72), 3) := by decide +kernel
theorem dX12_isTwoSided_80 : decode cX12_isTwoSided 80 = .ok (.iload_n 3, 1) := by decide +kernel
theorem dX12_isTwoSided_81 : decode cX12_isTwoSided 81 = .ok (.ireturn, 1) := by decide +kernel
theorem dX12_parts_0 : decode cX12_parts 0 = .ok (.aload_n 0, 1) := by decide +kernel
theorem dX12_parts_1 : decode cX12_parts 1 = .ok (.iload_n 1, 1) := by decide +kernel
theorem dX12_parts_2 : decode cX12_parts 2 = .ok (.invokevirtual 123, 3) := by decide +kernel
theorem dX12_parts_5 : decode cX12_parts 5 = .ok (.iconst 0, 1) := by decide +kernel
theorem dX12_parts_6 : decode cX12_parts 6 = .ok (.istore_n 3, 1) := by decide +kernel
theorem dX12_parts_7 : decode cX12_parts 7 = .ok (.iconst 0, 1) := by decide +kernel
theorem dX12_parts_8 : decode cX12_parts 8 = .ok (.istore 4, 2) := by decide +kernel
theorem dX12_parts_10 : decode cX12_parts 10 = .ok (.iload 4, 2) := by decide +kernel
theorem dX12_parts_12 : decode cX12_parts 12 = .ok (.sipush 140, 3) := by decide +kernel
theorem dX12_parts_15 : decode cX12_parts 15 = .ok (.aload_n 0, 1) := by decide +kernel
theorem dX12_parts_16 : decode cX12_parts 16 = .ok (.getfield 7, 3) := by decide +kernel
theorem dX12_parts_19 : decode cX12_parts 19 = .ok (.iconst 0, 1) := by decide +kernel
theorem dX12_parts_20 : decode cX12_parts 20 = .ok (.iaload, 1) := by decide +kernel
theorem dX12_parts_21 : decode cX12_parts 21 = .ok (.imul, 1) := by decide +kernel
theorem dX12_parts_22 : decode cX12_parts 22 = .ok (.if_icmp .ge 53, 3) := by decide +kernel
theorem dX12_parts_25 : decode cX12_parts 25 = .ok (.iload_n 3, 1) := by decide +kernel
theorem dX12_parts_26 : decode cX12_parts 26 = .ok (.aload_n 0, 1) := by decide +kernel
theorem dX12_parts_27 : decode cX12_parts 27 = .ok (.iload_n 1, 1) := by decide +kernel
theorem dX12_parts_28 : decode cX12_parts 28 = .ok (.iload 4, 2) := by decide +kernel
theorem dX12_parts_30 : decode cX12_parts 30 = .ok (.invokevirtual 120, 3) := by decide +kernel
theorem dX12_parts_33 : decode cX12_parts 33 = .ok (.ifCond .eq 33, 3) := by decide +kernel
theorem dX12_parts_36 : decode cX12_parts 36 = .ok (.aload_n 0, 1) := by decide +kernel
theorem dX12_parts_37 : decode cX12_parts 37 = .ok (.getfield 31, 3) := by decide +kernel
theorem dX12_parts_40 : decode cX12_parts 40 = .ok (.iload 4, 2) := by decide +kernel
theorem dX12_parts_42 : decode cX12_parts 42 = .ok (.iaload, 1) := by decide +kernel
theorem dX12_parts_43 : decode cX12_parts 43 = .ok (.iload 4, 2) := by decide +kernel
theorem dX12_parts_45 : decode cX12_parts 45 = .ok (.if_icmp .ne 21, 3) := by decide +kernel
theorem dX12_parts_48 : decode cX12_parts 48 = .ok (.iload_n 2, 1) := by decide +kernel
theorem dX12_parts_49 : decode cX12_parts 49 = .ok (.ifCond .eq 13, 3) := by decide +kernel
theorem dX12_parts_52 : decode cX12_parts 52 = .ok (.aload_n 0, 1) := by decide +kernel
theorem dX12_parts_53 : decode cX12_parts 53 = .ok (.iload_n 1, 1) := by decide +kernel
theorem dX12_parts_54 : decode cX12_parts 54 = .ok (.iload 4, 2) := by decide +kernel
theorem dX12_parts_56 : decode cX12_parts 56 = .ok (.invokevirtual 126, 3) := by decide +kernel
theorem dX12_parts_59 : decode cX12_parts 59 = .ok (.ifCond .eq 7, 3) := by decide +kernel
theorem dX12_parts_62 : decode cX12_parts 62 = .ok (.iconst 1, 1) := by decide +kernel
theorem dX12_parts_63 : decode cX12_parts 63 = .ok (.goto 4, 3) := by decide +kernel
theorem dX12_parts_66 : decode cX12_parts 66 = .ok (.iconst 0, 1) := by decide +kernel
theorem dX12_parts_67 : decode cX12_parts 67 = .ok (.iadd, 1) := by decide +kernel
theorem dX12_parts_68 : decode cX12_parts 68 = .ok (.istore_n 3, 1) := by decide +kernel
theorem dX12_parts_69 : decode cX12_parts 69 = .ok (.iinc 4 1, 3) := by decide +kernel
theorem dX12_parts_72 : decode cX12_parts 72 = .ok (.goto (-62), 3) := by decide +kernel
theorem dX12_parts_75 : decode cX12_parts 75 = .ok (.iload_n 3, 1) := by decide +kernel
theorem dX12_parts_76 : decode cX12_parts 76 = .ok (.ireturn, 1) := by decide +kernel
theorem dX12_name_0 : decode cX12_name 0 = .ok (.aload_n 0, 1) := by decide +kernel
theorem dX12_name_1 : decode cX12_name 1 = .ok (.iload_n 1, 1) := by decide +kernel
theorem dX12_name_2 : decode cX12_name 2 = .ok (.invokevirtual 129, 3) := by decide +kernel
theorem dX12_name_5 : decode cX12_name 5 = .ok (.ifCond .ne 5, 3) := by decide +kernel
theorem dX12_name_8 : decode cX12_name 8 = .ok (.iconst (-1), 1) := by decide +kernel
theorem dX12_name_9 : decode cX12_name 9 = .ok (.ireturn, 1) := by decide +kernel
theorem dX12_name_10 : decode cX12_name 10 = .ok (.aload_n 0, 1) := by decide +kernel
theorem dX12_name_11 : decode cX12_name 11 = .ok (.iload_n 1, 1) := by decide +kernel
theorem dX12_name_12 : decode cX12_name 12 = .ok (.iconst 0, 1) := by decide +kernel
theorem dX12_name_13 : decode cX12_name 13 = .ok (.invokevirtual 132, 3) := by decide +kernel
theorem dX12_name_16 : decode cX12_name 16 = .ok (.iconst 1, 1) := by decide +kernel
theorem dX12_name_17 : decode cX12_name 17 = .ok (.if_icmp .eq 5, 3) := by decide +kernel
theorem dX12_name_20 : decode cX12_name 20 = .ok (.iconst 0, 1) := by decide +kernel
theorem dX12_name_21 : decode cX12_name 21 = .ok (.ireturn, 1) := by decide +kernel
theorem dX12_name_22 : decode cX12_name 22 = .ok (.aload_n 0, 1) := by decide +kernel
theorem dX12_name_23 : decode cX12_name 23 = .ok (.iload_n 1, 1) := by decide +kernel
theorem dX12_name_24 : decode cX12_name 24 = .ok (.invokevirtual 136, 3) := by decide +kernel
theorem dX12_name_27 : decode cX12_name 27 = .ok (.ifCond .le 5, 3) := by decide +kernel
theorem dX12_name_30 : decode cX12_name 30 = .ok (.iconst 1, 1) := by decide +kernel
theorem dX12_name_31 : decode cX12_name 31 = .ok (.ireturn, 1) := by decide +kernel
theorem dX12_name_32 : decode cX12_name 32 = .ok (.aload_n 0, 1) := by decide +kernel
theorem dX12_name_33 : decode cX12_name 33 = .ok (.iload_n 1, 1) := by decide +kernel
theorem dX12_name_34 : decode cX12_name 34 = .ok (.invokevirtual 139, 3) := by decide +kernel
theorem dX12_name_37 : decode cX12_name 37 = .ok (.tableswitch 47 0 2 #[31, 29, 27], 27) := by decide +kernel
theorem dX12_name_64 : decode cX12_name 64 = .ok (.iconst 2, 1) := by decide +kernel
theorem dX12_name_65 : decode cX12_name 65 = .ok (.ireturn, 1) := by decide +kernel
theorem dX12_name_66 : decode cX12_name 66 = .ok (.iconst 3, 1) := by decide +kernel
theorem dX12_name_67 : decode cX12_name 67 = .ok (.ireturn, 1) := by decide +kernel
theorem dX12_name_68 : decode cX12_name 68 = .ok (.aload_n 0, 1) := by decide +kernel
theorem dX12_name_69 : decode cX12_name 69 = .ok (.iload_n 1, 1) := by decide +kernel
theorem dX12_name_70 : decode cX12_name 70 = .ok (.iconst 1, 1) := by decide +kernel
theorem dX12_name_71 : decode cX12_name 71 = .ok (.invokevirtual 132, 3) := by decide +kernel
theorem dX12_name_74 : decode cX12_name 74 = .ok (.iconst 1, 1) := by decide +kernel
theorem dX12_name_75 : decode cX12_name 75 = .ok (.if_icmp .ne 7, 3) := by decide +kernel
theorem dX12_name_78 : decode cX12_name 78 = .ok (.iconst 4, 1) := by decide +kernel
theorem dX12_name_79 : decode cX12_name 79 = .ok (.goto 4, 3) := by decide +kernel
theorem dX12_name_82 : decode cX12_name 82 = .ok (.iconst 5, 1) := by decide +kernel
theorem dX12_name_83 : decode cX12_name 83 = .ok (.ireturn, 1) := by decide +kernel
theorem dX12_name_84 : decode cX12_name 84 = .ok (.bipush 6, 2) := by decide +kernel
theorem dX12_name_86 : decode cX12_name 86 = .ok (.ireturn, 1) := by decide +kernel
theorem dX12_layAbout_0 : decode cX12_layAbout 0 = .ok (.iconst 0, 1) := by decide +kernel
theorem dX12_layAbout_1 : decode cX12_layAbout 1 = .ok (.istore_n 3, 1) := by decide +kernel
theorem dX12_layAbout_2 : decode cX12_layAbout 2 = .ok (.iload_n 3, 1) := by decide +kernel
theorem dX12_layAbout_3 : decode cX12_layAbout 3 = .ok (.bipush 21, 2) := by decide +kernel
theorem dX12_layAbout_5 : decode cX12_layAbout 5 = .ok (.if_icmp .ge 18, 3) := by decide +kernel
theorem dX12_layAbout_8 : decode cX12_layAbout 8 = .ok (.aload_n 0, 1) := by decide +kernel
theorem dX12_layAbout_9 : decode cX12_layAbout 9 = .ok (.getfield 7, 3) := by decide +kernel
theorem dX12_layAbout_12 : decode cX12_layAbout 12 = .ok (.iload_n 2, 1) := by decide +kernel
theorem dX12_layAbout_13 : decode cX12_layAbout 13 = .ok (.iload_n 3, 1) := by decide +kernel
theorem dX12_layAbout_14 : decode cX12_layAbout 14 = .ok (.iadd, 1) := by decide +kernel
theorem dX12_layAbout_15 : decode cX12_layAbout 15 = .ok (.iconst 0, 1) := by decide +kernel
theorem dX12_layAbout_16 : decode cX12_layAbout 16 = .ok (.iastore, 1) := by decide +kernel
theorem dX12_layAbout_17 : decode cX12_layAbout 17 = .ok (.iinc 3 1, 3) := by decide +kernel
theorem dX12_layAbout_20 : decode cX12_layAbout 20 = .ok (.goto (-18), 3) := by decide +kernel
theorem dX12_layAbout_23 : decode cX12_layAbout 23 = .ok (.iconst 0, 1) := by decide +kernel
theorem dX12_layAbout_24 : decode cX12_layAbout 24 = .ok (.istore_n 3, 1) := by decide +kernel
theorem dX12_layAbout_25 : decode cX12_layAbout 25 = .ok (.iload_n 3, 1) := by decide +kernel
theorem dX12_layAbout_26 : decode cX12_layAbout 26 = .ok (.aload_n 0, 1) := by decide +kernel
theorem dX12_layAbout_27 : decode cX12_layAbout 27 = .ok (.invokevirtual 48, 3) := by decide +kernel
theorem dX12_layAbout_30 : decode cX12_layAbout 30 = .ok (.if_icmp .ge 41, 3) := by decide +kernel
theorem dX12_layAbout_33 : decode cX12_layAbout 33 = .ok (.aload_n 0, 1) := by decide +kernel
theorem dX12_layAbout_34 : decode cX12_layAbout 34 = .ok (.getfield 7, 3) := by decide +kernel
theorem dX12_layAbout_37 : decode cX12_layAbout 37 = .ok (.iload_n 2, 1) := by decide +kernel
theorem dX12_layAbout_38 : decode cX12_layAbout 38 = .ok (.bipush 7, 2) := by decide +kernel
theorem dX12_layAbout_40 : decode cX12_layAbout 40 = .ok (.iload_n 3, 1) := by decide +kernel
theorem dX12_layAbout_41 : decode cX12_layAbout 41 = .ok (.iconst 4, 1) := by decide +kernel
theorem dX12_layAbout_42 : decode cX12_layAbout 42 = .ok (.idiv, 1) := by decide +kernel
theorem dX12_layAbout_43 : decode cX12_layAbout 43 = .ok (.imul, 1) := by decide +kernel
theorem dX12_layAbout_44 : decode cX12_layAbout 44 = .ok (.iadd, 1) := by decide +kernel
theorem dX12_layAbout_45 : decode cX12_layAbout 45 = .ok (.iload_n 3, 1) := by decide +kernel
theorem dX12_layAbout_46 : decode cX12_layAbout 46 = .ok (.iconst 4, 1) := by decide +kernel
theorem dX12_layAbout_47 : decode cX12_layAbout 47 = .ok (.irem, 1) := by decide +kernel
theorem dX12_layAbout_48 : decode cX12_layAbout 48 = .ok (.iadd, 1) := by decide +kernel
theorem dX12_layAbout_49 : decode cX12_layAbout 49 = .ok (.aload_n 0, 1) := by decide +kernel
theorem dX12_layAbout_50 : decode cX12_layAbout 50 = .ok (.getfield 22, 3) := by decide +kernel
theorem dX12_layAbout_53 : decode cX12_layAbout 53 = .ok (.iload_n 3, 1) := by decide +kernel
theorem dX12_layAbout_54 : decode cX12_layAbout 54 = .ok (.iaload, 1) := by decide +kernel
theorem dX12_layAbout_55 : decode cX12_layAbout 55 = .ok (.iload_n 1, 1) := by decide +kernel
theorem dX12_layAbout_56 : decode cX12_layAbout 56 = .ok (.if_icmp .ne 7, 3) := by decide +kernel
theorem dX12_layAbout_59 : decode cX12_layAbout 59 = .ok (.iconst 1, 1) := by decide +kernel
theorem dX12_layAbout_60 : decode cX12_layAbout 60 = .ok (.goto 4, 3) := by decide +kernel
theorem dX12_layAbout_63 : decode cX12_layAbout 63 = .ok (.iconst 0, 1) := by decide +kernel
theorem dX12_layAbout_64 : decode cX12_layAbout 64 = .ok (.iastore, 1) := by decide +kernel
theorem dX12_layAbout_65 : decode cX12_layAbout 65 = .ok (.iinc 3 1, 3) := by decide +kernel
theorem dX12_layAbout_68 : decode cX12_layAbout 68 = .ok (.goto (-43), 3) := by decide +kernel
theorem dX12_layAbout_71 : decode cX12_layAbout 71 = .ok (.return_, 1) := by decide +kernel
theorem dX12_isGood_0 : decode cX12_isGood 0 = .ok (.aload_n 0, 1) := by decide +kernel
theorem dX12_isGood_1 : decode cX12_isGood 1 = .ok (.invokevirtual 96, 3) := by decide +kernel
theorem dX12_isGood_4 : decode cX12_isGood 4 = .ok (.aload_n 0, 1) := by decide +kernel
theorem dX12_isGood_5 : decode cX12_isGood 5 = .ok (.iload_n 1, 1) := by decide +kernel
theorem dX12_isGood_6 : decode cX12_isGood 6 = .ok (.sipush 2888, 3) := by decide +kernel
theorem dX12_isGood_9 : decode cX12_isGood 9 = .ok (.invokevirtual 142, 3) := by decide +kernel
theorem dX12_isGood_12 : decode cX12_isGood 12 = .ok (.aload_n 0, 1) := by decide +kernel
theorem dX12_isGood_13 : decode cX12_isGood 13 = .ok (.sipush 2888, 3) := by decide +kernel
theorem dX12_isGood_16 : decode cX12_isGood 16 = .ok (.iconst 0, 1) := by decide +kernel
theorem dX12_isGood_17 : decode cX12_isGood 17 = .ok (.invokevirtual 132, 3) := by decide +kernel
theorem dX12_isGood_20 : decode cX12_isGood 20 = .ok (.iconst 1, 1) := by decide +kernel
theorem dX12_isGood_21 : decode cX12_isGood 21 = .ok (.if_icmp .ne 32, 3) := by decide +kernel
theorem dX12_isGood_24 : decode cX12_isGood 24 = .ok (.aload_n 0, 1) := by decide +kernel
theorem dX12_isGood_25 : decode cX12_isGood 25 = .ok (.sipush 2888, 3) := by decide +kernel
theorem dX12_isGood_28 : decode cX12_isGood 28 = .ok (.invokevirtual 139, 3) := by decide +kernel
theorem dX12_isGood_31 : decode cX12_isGood 31 = .ok (.aload_n 0, 1) := by decide +kernel
theorem dX12_isGood_32 : decode cX12_isGood 32 = .ok (.sipush 2888, 3) := by decide +kernel
theorem dX12_isGood_35 : decode cX12_isGood 35 = .ok (.invokevirtual 136, 3) := by decide +kernel
theorem dX12_isGood_38 : decode cX12_isGood 38 = .ok (.ifCond .le 7, 3) := by decide +kernel
theorem dX12_isGood_41 : decode cX12_isGood 41 = .ok (.iconst 1, 1) := by decide +kernel
theorem dX12_isGood_42 : decode cX12_isGood 42 = .ok (.goto 4, 3) := by decide +kernel
theorem dX12_isGood_45 : decode cX12_isGood 45 = .ok (.iconst 2, 1) := by decide +kernel
theorem dX12_isGood_46 : decode cX12_isGood 46 = .ok (.if_icmp .ne 7, 3) := by decide +kernel
theorem dX12_isGood_49 : decode cX12_isGood 49 = .ok (.iconst 1, 1) := by decide +kernel
theorem dX12_isGood_50 : decode cX12_isGood 50 = .ok (.goto 4, 3) := by decide +kernel
theorem dX12_isGood_53 : decode cX12_isGood 53 = .ok (.iconst 0, 1) := by decide +kernel
theorem dX12_isGood_54 : decode cX12_isGood 54 = .ok (.ireturn, 1) := by decide +kernel
theorem dX12_goodMany_0 : decode cX12_goodMany 0 = .ok (.iconst 0, 1) := by decide +kernel
theorem dX12_goodMany_1 : decode cX12_goodMany 1 = .ok (.istore_n 1, 1) := by decide +kernel
theorem dX12_goodMany_2 : decode cX12_goodMany 2 = .ok (.aload_n 0, 1) := by decide +kernel
theorem dX12_goodMany_3 : decode cX12_goodMany 3 = .ok (.invokevirtual 96, 3) := by decide +kernel
theorem dX12_goodMany_6 : decode cX12_goodMany 6 = .ok (.iconst 0, 1) := by decide +kernel
theorem dX12_goodMany_7 : decode cX12_goodMany 7 = .ok (.istore_n 2, 1) := by decide +kernel
theorem dX12_goodMany_8 : decode cX12_goodMany 8 = .ok (.iload_n 2, 1) := by decide +kernel
theorem dX12_goodMany_9 : decode cX12_goodMany 9 = .ok (.aload_n 0, 1) := by decide +kernel
theorem dX12_goodMany_10 : decode cX12_goodMany 10 = .ok (.invokevirtual 48, 3) := by decide +kernel
theorem dX12_goodMany_13 : decode cX12_goodMany 13 = .ok (.if_icmp .ge 35, 3) := by decide +kernel
theorem dX12_goodMany_16 : decode cX12_goodMany 16 = .ok (.iload_n 1, 1) := by decide +kernel
theorem dX12_goodMany_17 : decode cX12_goodMany 17 = .ok (.aload_n 0, 1) := by decide +kernel
theorem dX12_goodMany_18 : decode cX12_goodMany 18 = .ok (.getfield 22, 3) := by decide +kernel
theorem dX12_goodMany_21 : decode cX12_goodMany 21 = .ok (.iload_n 2, 1) := by decide +kernel
theorem dX12_goodMany_22 : decode cX12_goodMany 22 = .ok (.iaload, 1) := by decide +kernel
theorem dX12_goodMany_23 : decode cX12_goodMany 23 = .ok (.iload_n 2, 1) := by decide +kernel
theorem dX12_goodMany_24 : decode cX12_goodMany 24 = .ok (.if_icmp .ne 15, 3) := by decide +kernel
theorem dX12_goodMany_27 : decode cX12_goodMany 27 = .ok (.aload_n 0, 1) := by decide +kernel
theorem dX12_goodMany_28 : decode cX12_goodMany 28 = .ok (.iload_n 2, 1) := by decide +kernel
theorem dX12_goodMany_29 : decode cX12_goodMany 29 = .ok (.invokevirtual 146, 3) := by decide +kernel
theorem dX12_goodMany_32 : decode cX12_goodMany 32 = .ok (.ifCond .eq 7, 3) := by decide +kernel
theorem dX12_goodMany_35 : decode cX12_goodMany 35 = .ok (.iconst 1, 1) := by decide +kernel
theorem dX12_goodMany_36 : decode cX12_goodMany 36 = .ok (.goto 4, 3) := by decide +kernel
theorem dX12_goodMany_39 : decode cX12_goodMany 39 = .ok (.iconst 0, 1) := by decide +kernel
theorem dX12_goodMany_40 : decode cX12_goodMany 40 = .ok (.iadd, 1) := by decide +kernel
theorem dX12_goodMany_41 : decode cX12_goodMany 41 = .ok (.istore_n 1, 1) := by decide +kernel
theorem dX12_goodMany_42 : decode cX12_goodMany 42 = .ok (.iinc 2 1, 3) := by decide +kernel
theorem dX12_goodMany_45 : decode cX12_goodMany 45 = .ok (.goto (-37), 3) := by decide +kernel
theorem dX12_goodMany_48 : decode cX12_goodMany 48 = .ok (.iload_n 1, 1) := by decide +kernel
theorem dX12_goodMany_49 : decode cX12_goodMany 49 = .ok (.ireturn, 1) := by decide +kernel
theorem dX12_points_0 : decode cX12_points 0 = .ok (.aload_n 0, 1) := by decide +kernel
theorem dX12_points_1 : decode cX12_points 1 = .ok (.invokevirtual 96, 3) := by decide +kernel
theorem dX12_points_4 : decode cX12_points 4 = .ok (.aload_n 0, 1) := by decide +kernel
theorem dX12_points_5 : decode cX12_points 5 = .ok (.getfield 22, 3) := by decide +kernel
theorem dX12_points_8 : decode cX12_points 8 = .ok (.aload_n 0, 1) := by decide +kernel
theorem dX12_points_9 : decode cX12_points 9 = .ok (.invokevirtual 48, 3) := by decide +kernel
theorem dX12_points_12 : decode cX12_points 12 = .ok (.invokestatic 149, 3) := by decide +kernel
theorem dX12_points_15 : decode cX12_points 15 = .ok (.ireturn, 1) := by decide +kernel
theorem dX12_lines_0 : decode cX12_lines 0 = .ok (.aload_n 0, 1) := by decide +kernel
theorem dX12_lines_1 : decode cX12_lines 1 = .ok (.invokevirtual 96, 3) := by decide +kernel
theorem dX12_lines_4 : decode cX12_lines 4 = .ok (.aload_n 0, 1) := by decide +kernel
theorem dX12_lines_5 : decode cX12_lines 5 = .ok (.getfield 25, 3) := by decide +kernel
theorem dX12_lines_8 : decode cX12_lines 8 = .ok (.bipush 6, 2) := by decide +kernel
theorem dX12_lines_10 : decode cX12_lines 10 = .ok (.aload_n 0, 1) := by decide +kernel
theorem dX12_lines_11 : decode cX12_lines 11 = .ok (.getfield 7, 3) := by decide +kernel
theorem dX12_lines_14 : decode cX12_lines 14 = .ok (.iconst 0, 1) := by decide +kernel
theorem dX12_lines_15 : decode cX12_lines 15 = .ok (.iaload, 1) := by decide +kernel
theorem dX12_lines_16 : decode cX12_lines 16 = .ok (.imul, 1) := by decide +kernel
theorem dX12_lines_17 : decode cX12_lines 17 = .ok (.invokestatic 149, 3) := by decide +kernel
theorem dX12_lines_20 : decode cX12_lines 20 = .ok (.ireturn, 1) := by decide +kernel
theorem dX12_bents_0 : decode cX12_bents 0 = .ok (.aload_n 0, 1) := by decide +kernel
theorem dX12_bents_1 : decode cX12_bents 1 = .ok (.invokevirtual 96, 3) := by decide +kernel
theorem dX12_bents_4 : decode cX12_bents 4 = .ok (.aload_n 0, 1) := by decide +kernel
theorem dX12_bents_5 : decode cX12_bents 5 = .ok (.invokevirtual 153, 3) := by decide +kernel
theorem dX12_bents_8 : decode cX12_bents 8 = .ok (.ireturn, 1) := by decide +kernel
theorem dX12_characteristic_0 : decode cX12_characteristic 0 = .ok (.aload_n 0, 1) := by decide +kernel
theorem dX12_characteristic_1 : decode cX12_characteristic 1 = .ok (.invokevirtual 48, 3) := by decide +kernel
theorem dX12_characteristic_4 : decode cX12_characteristic 4 = .ok (.aload_n 0, 1) := by decide +kernel
theorem dX12_characteristic_5 : decode cX12_characteristic 5 = .ok (.invokevirtual 156, 3) := by decide +kernel
theorem dX12_characteristic_8 : decode cX12_characteristic 8 = .ok (.iadd, 1) := by decide +kernel
theorem dX12_characteristic_9 : decode cX12_characteristic 9 = .ok (.iconst 2, 1) := by decide +kernel
theorem dX12_characteristic_10 : decode cX12_characteristic 10 = .ok (.idiv, 1) := by decide +kernel
theorem dX12_characteristic_11 : decode cX12_characteristic 11 = .ok (.istore_n 1, 1) := by decide +kernel
theorem dX12_characteristic_12 : decode cX12_characteristic 12 = .ok (.aload_n 0, 1) := by decide +kernel
theorem dX12_characteristic_13 : decode cX12_characteristic 13 = .ok (.invokevirtual 159, 3) := by decide +kernel
theorem dX12_characteristic_16 : decode cX12_characteristic 16 = .ok (.aload_n 0, 1) := by decide +kernel
theorem dX12_characteristic_17 : decode cX12_characteristic 17 = .ok (.invokevirtual 162, 3) := by decide +kernel
theorem dX12_characteristic_20 : decode cX12_characteristic 20 = .ok (.isub, 1) := by decide +kernel
theorem dX12_characteristic_21 : decode cX12_characteristic 21 = .ok (.iload_n 1, 1) := by decide +kernel
theorem dX12_characteristic_22 : decode cX12_characteristic 22 = .ok (.iadd, 1) := by decide +kernel
theorem dX12_characteristic_23 : decode cX12_characteristic 23 = .ok (.aload_n 0, 1) := by decide +kernel
theorem dX12_characteristic_24 : decode cX12_characteristic 24 = .ok (.getfield 7, 3) := by decide +kernel
theorem dX12_characteristic_27 : decode cX12_characteristic 27 = .ok (.iconst 0, 1) := by decide +kernel
theorem dX12_characteristic_28 : decode cX12_characteristic 28 = .ok (.iaload, 1) := by decide +kernel
theorem dX12_characteristic_29 : decode cX12_characteristic 29 = .ok (.isub, 1) := by decide +kernel
theorem dX12_characteristic_30 : decode cX12_characteristic 30 = .ok (.ireturn, 1) := by decide +kernel
theorem dX12_split_0 : decode cX12_split 0 = .ok (.aload_n 0, 1) := by decide +kernel
theorem dX12_split_1 : decode cX12_split 1 = .ok (.iload_n 1, 1) := by decide +kernel
theorem dX12_split_2 : decode cX12_split 2 = .ok (.invokevirtual 129, 3) := by decide +kernel
theorem dX12_split_5 : decode cX12_split 5 = .ok (.ifCond .ne 5, 3) := by decide +kernel
theorem dX12_split_8 : decode cX12_split 8 = .ok (.iconst (-1), 1) := by decide +kernel
theorem dX12_split_9 : decode cX12_split 9 = .ok (.ireturn, 1) := by decide +kernel
theorem dX12_split_10 : decode cX12_split 10 = .ok (.iconst 1, 1) := by decide +kernel
theorem dX12_split_11 : decode cX12_split 11 = .ok (.istore_n 2, 1) := by decide +kernel
theorem dX12_split_12 : decode cX12_split 12 = .ok (.iconst 0, 1) := by decide +kernel
theorem dX12_split_13 : decode cX12_split 13 = .ok (.istore_n 3, 1) := by decide +kernel
theorem dX12_split_14 : decode cX12_split 14 = .ok (.iload_n 3, 1) := by decide +kernel
theorem dX12_split_15 : decode cX12_split 15 = .ok (.bipush 7, 2) := by decide +kernel
theorem dX12_split_17 : decode cX12_split 17 = .ok (.aload_n 0, 1) := by decide +kernel
theorem dX12_split_18 : decode cX12_split 18 = .ok (.getfield 7, 3) := by decide +kernel
theorem dX12_split_21 : decode cX12_split 21 = .ok (.iconst 0, 1) := by decide +kernel
theorem dX12_split_22 : decode cX12_split 22 = .ok (.iaload, 1) := by decide +kernel
theorem dX12_split_23 : decode cX12_split 23 = .ok (.imul, 1) := by decide +kernel
theorem dX12_split_24 : decode cX12_split 24 = .ok (.if_icmp .ge 33, 3) := by decide +kernel
theorem dX12_split_27 : decode cX12_split 27 = .ok (.iload_n 2, 1) := by decide +kernel
theorem dX12_split_28 : decode cX12_split 28 = .ok (.sipush 6000, 3) := by decide +kernel
theorem dX12_split_31 : decode cX12_split 31 = .ok (.if_icmp .le 7, 3) := by decide +kernel
theorem dX12_split_34 : decode cX12_split 34 = .ok (.iload_n 2, 1) := by decide +kernel
theorem dX12_split_35 : decode cX12_split 35 = .ok (.goto 15, 3) := by decide +kernel
theorem dX12_split_38 : decode cX12_split 38 = .ok (.iload_n 2, 1) := by decide +kernel
theorem dX12_split_39 : decode cX12_split 39 = .ok (.aload_n 0, 1) := by decide +kernel
theorem dX12_split_40 : decode cX12_split 40 = .ok (.getfield 7, 3) := by decide +kernel
theorem dX12_split_43 : decode cX12_split 43 = .ok (.iload_n 1, 1) := by decide +kernel
theorem dX12_split_44 : decode cX12_split 44 = .ok (.iload_n 3, 1) := by decide +kernel
theorem dX12_split_45 : decode cX12_split 45 = .ok (.iadd, 1) := by decide +kernel
theorem dX12_split_46 : decode cX12_split 46 = .ok (.iaload, 1) := by decide +kernel
theorem dX12_split_47 : decode cX12_split 47 = .ok (.iconst 1, 1) := by decide +kernel
theorem dX12_split_48 : decode cX12_split 48 = .ok (.iadd, 1) := by decide +kernel
theorem dX12_split_49 : decode cX12_split 49 = .ok (.imul, 1) := by decide +kernel
theorem dX12_split_50 : decode cX12_split 50 = .ok (.istore_n 2, 1) := by decide +kernel
theorem dX12_split_51 : decode cX12_split 51 = .ok (.iinc 3 1, 3) := by decide +kernel
theorem dX12_split_54 : decode cX12_split 54 = .ok (.goto (-40), 3) := by decide +kernel
theorem dX12_split_57 : decode cX12_split 57 = .ok (.iload_n 2, 1) := by decide +kernel
theorem dX12_split_58 : decode cX12_split 58 = .ok (.sipush 6000, 3) := by decide +kernel
theorem dX12_split_61 : decode cX12_split 61 = .ok (.if_icmp .le 5, 3) := by decide +kernel
theorem dX12_split_64 : decode cX12_split 64 = .ok (.iconst (-1), 1) := by decide +kernel
theorem dX12_split_65 : decode cX12_split 65 = .ok (.ireturn, 1) := by decide +kernel
theorem dX12_split_66 : decode cX12_split 66 = .ok (.iconst 1, 1) := by decide +kernel
theorem dX12_split_67 : decode cX12_split 67 = .ok (.istore_n 3, 1) := by decide +kernel
theorem dX12_split_68 : decode cX12_split 68 = .ok (.iload_n 3, 1) := by decide +kernel
theorem dX12_split_69 : decode cX12_split 69 = .ok (.iload_n 2, 1) := by decide +kernel
theorem dX12_split_70 : decode cX12_split 70 = .ok (.iconst 1, 1) := by decide +kernel
theorem dX12_split_71 : decode cX12_split 71 = .ok (.isub, 1) := by decide +kernel
theorem dX12_split_72 : decode cX12_split 72 = .ok (.if_icmp .ge 88, 3) := by decide +kernel
theorem dX12_split_75 : decode cX12_split 75 = .ok (.iload_n 3, 1) := by decide +kernel
theorem dX12_split_76 : decode cX12_split 76 = .ok (.istore 4, 2) := by decide +kernel
theorem dX12_split_78 : decode cX12_split 78 = .ok (.iconst 0, 1) := by decide +kernel
theorem dX12_split_79 : decode cX12_split 79 = .ok (.istore 5, 2) := by decide +kernel
theorem dX12_split_81 : decode cX12_split 81 = .ok (.iload 5, 2) := by decide +kernel
theorem dX12_split_83 : decode cX12_split 83 = .ok (.bipush 7, 2) := by decide +kernel
theorem dX12_split_85 : decode cX12_split 85 = .ok (.aload_n 0, 1) := by decide +kernel
theorem dX12_split_86 : decode cX12_split 86 = .ok (.getfield 7, 3) := by decide +kernel
theorem dX12_split_89 : decode cX12_split 89 = .ok (.iconst 0, 1) := by decide +kernel
theorem dX12_split_90 : decode cX12_split 90 = .ok (.iaload, 1) := by decide +kernel
theorem dX12_split_91 : decode cX12_split 91 = .ok (.imul, 1) := by decide +kernel
theorem dX12_split_92 : decode cX12_split 92 = .ok (.if_icmp .ge 50, 3) := by decide +kernel
theorem dX12_split_95 : decode cX12_split 95 = .ok (.aload_n 0, 1) := by decide +kernel
theorem dX12_split_96 : decode cX12_split 96 = .ok (.getfield 7, 3) := by decide +kernel
theorem dX12_split_99 : decode cX12_split 99 = .ok (.sipush 2888, 3) := by decide +kernel
theorem dX12_split_102 : decode cX12_split 102 = .ok (.iload 5, 2) := by decide +kernel
theorem dX12_split_104 : decode cX12_split 104 = .ok (.iadd, 1) := by decide +kernel
theorem dX12_split_105 : decode cX12_split 105 = .ok (.iload 4, 2) := by decide +kernel
theorem dX12_split_107 : decode cX12_split 107 = .ok (.aload_n 0, 1) := by decide +kernel
theorem dX12_split_108 : decode cX12_split 108 = .ok (.getfield 7, 3) := by decide +kernel
theorem dX12_split_111 : decode cX12_split 111 = .ok (.iload_n 1, 1) := by decide +kernel
theorem dX12_split_112 : decode cX12_split 112 = .ok (.iload 5, 2) := by decide +kernel
theorem dX12_split_114 : decode cX12_split 114 = .ok (.iadd, 1) := by decide +kernel
theorem dX12_split_115 : decode cX12_split 115 = .ok (.iaload, 1) := by decide +kernel
theorem dX12_split_116 : decode cX12_split 116 = .ok (.iconst 1, 1) := by decide +kernel
theorem dX12_split_117 : decode cX12_split 117 = .ok (.iadd, 1) := by decide +kernel
theorem dX12_split_118 : decode cX12_split 118 = .ok (.irem, 1) := by decide +kernel
theorem dX12_split_119 : decode cX12_split 119 = .ok (.iastore, 1) := by decide +kernel
theorem dX12_split_120 : decode cX12_split 120 = .ok (.iload 4, 2) := by decide +kernel
theorem dX12_split_122 : decode cX12_split 122 = .ok (.aload_n 0, 1) := by decide +kernel
theorem dX12_split_123 : decode cX12_split 123 = .ok (.getfield 7, 3) := by decide +kernel
theorem dX12_split_126 : decode cX12_split 126 = .ok (.iload_n 1, 1) := by decide +kernel
theorem dX12_split_127 : decode cX12_split 127 = .ok (.iload 5, 2) := by decide +kernel
theorem dX12_split_129 : decode cX12_split 129 = .ok (.iadd, 1) := by decide +kernel
theorem dX12_split_130 : decode cX12_split 130 = .ok (.iaload, 1) := by decide +kernel
theorem dX12_split_131 : decode cX12_split 131 = .ok (.iconst 1, 1) := by decide +kernel
theorem dX12_split_132 : decode cX12_split 132 = .ok (.iadd, 1) := by decide +kernel
theorem dX12_split_133 : decode cX12_split 133 = .ok (.idiv, 1) := by decide +kernel
theorem dX12_split_134 : decode cX12_split 134 = .ok (.istore 4, 2) := by decide +kernel
theorem dX12_split_136 : decode cX12_split 136 = .ok (.iinc 5 1, 3) := by decide +kernel
theorem dX12_split_139 : decode cX12_split 139 = .ok (.goto (-58), 3) := by decide +kernel
theorem dX12_split_142 : decode cX12_split 142 = .ok (.aload_n 0, 1) := by decide +kernel
theorem dX12_split_143 : decode cX12_split 143 = .ok (.sipush 2888, 3) := by decide +kernel
theorem dX12_split_146 : decode cX12_split 146 = .ok (.invokevirtual 87, 3) := by decide +kernel
theorem dX12_split_149 : decode cX12_split 149 = .ok (.ifCond .eq 5, 3) := by decide +kernel
theorem dX12_split_152 : decode cX12_split 152 = .ok (.iconst 1, 1) := by decide +kernel
theorem dX12_split_153 : decode cX12_split 153 = .ok (.ireturn, 1) := by decide +kernel
theorem dX12_split_154 : decode cX12_split 154 = .ok (.iinc 3 1, 3) := by decide +kernel
theorem dX12_split_157 : decode cX12_split 157 = .ok (.goto (-89), 3) := by decide +kernel
theorem dX12_split_160 : decode cX12_split 160 = .ok (.iconst 0, 1) := by decide +kernel
theorem dX12_split_161 : decode cX12_split 161 = .ok (.ireturn, 1) := by decide +kernel
theorem dX12_wrongEntry_0 : decode cX12_wrongEntry 0 = .ok (.iconst 0, 1) := by decide +kernel
theorem dX12_wrongEntry_1 : decode cX12_wrongEntry 1 = .ok (.istore_n 1, 1) := by decide +kernel
theorem dX12_wrongEntry_2 : decode cX12_wrongEntry 2 = .ok (.iload_n 1, 1) := by decide +kernel
theorem dX12_wrongEntry_3 : decode cX12_wrongEntry 3 = .ok (.aload_n 0, 1) := by decide +kernel
theorem dX12_wrongEntry_4 : decode cX12_wrongEntry 4 = .ok (.getfield 165, 3) := by decide +kernel
theorem dX12_wrongEntry_7 : decode cX12_wrongEntry 7 = .ok (.if_icmp .ge 56, 3) := by decide +kernel
theorem dX12_wrongEntry_10 : decode cX12_wrongEntry 10 = .ok (.aload_n 0, 1) := by decide +kernel
theorem dX12_wrongEntry_11 : decode cX12_wrongEntry 11 = .ok (.getfield 16, 3) := by decide +kernel
theorem dX12_wrongEntry_14 : decode cX12_wrongEntry 14 = .ok (.iload_n 1, 1) := by decide +kernel
theorem dX12_wrongEntry_15 : decode cX12_wrongEntry 15 = .ok (.iaload, 1) := by decide +kernel
theorem dX12_wrongEntry_16 : decode cX12_wrongEntry 16 = .ok (.invokestatic 169, 3) := by decide +kernel
theorem dX12_wrongEntry_19 : decode cX12_wrongEntry 19 = .ok (.istore_n 2, 1) := by decide +kernel
theorem dX12_wrongEntry_20 : decode cX12_wrongEntry 20 = .ok (.aload_n 0, 1) := by decide +kernel
theorem dX12_wrongEntry_21 : decode cX12_wrongEntry 21 = .ok (.aload_n 0, 1) := by decide +kernel
theorem dX12_wrongEntry_22 : decode cX12_wrongEntry 22 = .ok (.getfield 16, 3) := by decide +kernel
theorem dX12_wrongEntry_25 : decode cX12_wrongEntry 25 = .ok (.iload_n 1, 1) := by decide +kernel
theorem dX12_wrongEntry_26 : decode cX12_wrongEntry 26 = .ok (.iaload, 1) := by decide +kernel
theorem dX12_wrongEntry_27 : decode cX12_wrongEntry 27 = .ok (.invokevirtual 172, 3) := by decide +kernel
theorem dX12_wrongEntry_30 : decode cX12_wrongEntry 30 = .ok (.ifCond .eq 25, 3) := by decide +kernel
theorem dX12_wrongEntry_33 : decode cX12_wrongEntry 33 = .ok (.aload_n 0, 1) := by decide +kernel
theorem dX12_wrongEntry_34 : decode cX12_wrongEntry 34 = .ok (.iload_n 2, 1) := by decide +kernel
theorem dX12_wrongEntry_35 : decode cX12_wrongEntry 35 = .ok (.invokevirtual 129, 3) := by decide +kernel
theorem dX12_wrongEntry_38 : decode cX12_wrongEntry 38 = .ok (.ifCond .eq 17, 3) := by decide +kernel
theorem dX12_wrongEntry_41 : decode cX12_wrongEntry 41 = .ok (.aload_n 0, 1) := by decide +kernel
theorem dX12_wrongEntry_42 : decode cX12_wrongEntry 42 = .ok (.iload_n 2, 1) := by decide +kernel
theorem dX12_wrongEntry_43 : decode cX12_wrongEntry 43 = .ok (.invokevirtual 139, 3) := by decide +kernel
theorem dX12_wrongEntry_46 : decode cX12_wrongEntry 46 = .ok (.aload_n 0, 1) := by decide +kernel
theorem dX12_wrongEntry_47 : decode cX12_wrongEntry 47 = .ok (.getfield 19, 3) := by decide +kernel
theorem dX12_wrongEntry_50 : decode cX12_wrongEntry 50 = .ok (.iload_n 1, 1) := by decide +kernel
theorem dX12_wrongEntry_51 : decode cX12_wrongEntry 51 = .ok (.iaload, 1) := by decide +kernel
theorem dX12_wrongEntry_52 : decode cX12_wrongEntry 52 = .ok (.if_icmp .eq 5, 3) := by decide +kernel
theorem dX12_wrongEntry_55 : decode cX12_wrongEntry 55 = .ok (.iload_n 1, 1) := by decide +kernel
theorem dX12_wrongEntry_56 : decode cX12_wrongEntry 56 = .ok (.ireturn, 1) := by decide +kernel
theorem dX12_wrongEntry_57 : decode cX12_wrongEntry 57 = .ok (.iinc 1 1, 3) := by decide +kernel
theorem dX12_wrongEntry_60 : decode cX12_wrongEntry 60 = .ok (.goto (-58), 3) := by decide +kernel
theorem dX12_wrongEntry_63 : decode cX12_wrongEntry 63 = .ok (.iconst (-1), 1) := by decide +kernel
theorem dX12_wrongEntry_64 : decode cX12_wrongEntry 64 = .ok (.ireturn, 1) := by decide +kernel
theorem dX12_told_0 : decode cX12_told 0 = .ok (.iload_n 1, 1) := by decide +kernel
theorem dX12_told_1 : decode cX12_told 1 = .ok (.tableswitch 149 0 11 #[63, 70, 75, 80, 85, 90, 95, 119, 126, 134, 139, 144], 63) := by decide +kernel
theorem dX12_told_64 : decode cX12_told 64 = .ok (.aload_n 0, 1) := by decide +kernel
theorem dX12_told_65 : decode cX12_told 65 = .ok (.getfield 7, 3) := by decide +kernel
theorem dX12_told_68 : decode cX12_told 68 = .ok (.iconst 0, 1) := by decide +kernel
theorem dX12_told_69 : decode cX12_told 69 = .ok (.iaload, 1) := by decide +kernel
theorem dX12_told_70 : decode cX12_told 70 = .ok (.ireturn, 1) := by decide +kernel
theorem dX12_told_71 : decode cX12_told 71 = .ok (.aload_n 0, 1) := by decide +kernel
theorem dX12_told_72 : decode cX12_told 72 = .ok (.invokevirtual 156, 3) := by decide +kernel
theorem dX12_told_75 : decode cX12_told 75 = .ok (.ireturn, 1) := by decide +kernel
theorem dX12_told_76 : decode cX12_told 76 = .ok (.aload_n 0, 1) := by decide +kernel
theorem dX12_told_77 : decode cX12_told 77 = .ok (.invokevirtual 159, 3) := by decide +kernel
theorem dX12_told_80 : decode cX12_told 80 = .ok (.ireturn, 1) := by decide +kernel
theorem dX12_told_81 : decode cX12_told 81 = .ok (.aload_n 0, 1) := by decide +kernel
theorem dX12_told_82 : decode cX12_told 82 = .ok (.invokevirtual 162, 3) := by decide +kernel
theorem dX12_told_85 : decode cX12_told 85 = .ok (.ireturn, 1) := by decide +kernel
theorem dX12_told_86 : decode cX12_told 86 = .ok (.aload_n 0, 1) := by decide +kernel
theorem dX12_told_87 : decode cX12_told 87 = .ok (.invokevirtual 175, 3) := by decide +kernel
theorem dX12_told_90 : decode cX12_told 90 = .ok (.ireturn, 1) := by decide +kernel
theorem dX12_told_91 : decode cX12_told 91 = .ok (.aload_n 0, 1) := by decide +kernel
theorem dX12_told_92 : decode cX12_told 92 = .ok (.invokevirtual 178, 3) := by decide +kernel
theorem dX12_told_95 : decode cX12_told 95 = .ok (.ireturn, 1) := by decide +kernel
theorem dX12_told_96 : decode cX12_told 96 = .ok (.aload_n 0, 1) := by decide +kernel
theorem dX12_told_97 : decode cX12_told 97 = .ok (.invokevirtual 178, 3) := by decide +kernel
theorem dX12_told_100 : decode cX12_told 100 = .ok (.aload_n 0, 1) := by decide +kernel
theorem dX12_told_101 : decode cX12_told 101 = .ok (.invokevirtual 159, 3) := by decide +kernel
theorem dX12_told_104 : decode cX12_told 104 = .ok (.if_icmp .ne 14, 3) := by decide +kernel
theorem dX12_told_107 : decode cX12_told 107 = .ok (.aload_n 0, 1) := by decide +kernel
theorem dX12_told_108 : decode cX12_told 108 = .ok (.invokevirtual 175, 3) := by decide +kernel
theorem dX12_told_111 : decode cX12_told 111 = .ok (.ifCond .ne 7, 3) := by decide +kernel
theorem dX12_told_114 : decode cX12_told 114 = .ok (.iconst 1, 1) := by decide +kernel
theorem dX12_told_115 : decode cX12_told 115 = .ok (.goto 4, 3) := by decide +kernel
theorem dX12_told_118 : decode cX12_told 118 = .ok (.iconst 0, 1) := by decide +kernel
theorem dX12_told_119 : decode cX12_told 119 = .ok (.ireturn, 1) := by decide +kernel
theorem dX12_told_120 : decode cX12_told 120 = .ok (.aload_n 0, 1) := by decide +kernel
theorem dX12_told_121 : decode cX12_told 121 = .ok (.getfield 7, 3) := by decide +kernel
theorem dX12_told_124 : decode cX12_told 124 = .ok (.iconst 1, 1) := by decide +kernel
theorem dX12_told_125 : decode cX12_told 125 = .ok (.iaload, 1) := by decide +kernel
theorem dX12_told_126 : decode cX12_told 126 = .ok (.ireturn, 1) := by decide +kernel
theorem dX12_told_127 : decode cX12_told 127 = .ok (.aload_n 0, 1) := by decide +kernel
theorem dX12_told_128 : decode cX12_told 128 = .ok (.invokevirtual 181, 3) := by decide +kernel
theorem dX12_told_131 : decode cX12_told 131 = .ok (.bipush 100, 2) := by decide +kernel
theorem dX12_told_133 : decode cX12_told 133 = .ok (.iadd, 1) := by decide +kernel
theorem dX12_told_134 : decode cX12_told 134 = .ok (.ireturn, 1) := by decide +kernel
theorem dX12_told_135 : decode cX12_told 135 = .ok (.aload_n 0, 1) := by decide +kernel
theorem dX12_told_136 : decode cX12_told 136 = .ok (.getfield 165, 3) := by decide +kernel
theorem dX12_told_139 : decode cX12_told 139 = .ok (.ireturn, 1) := by decide +kernel
theorem dX12_told_140 : decode cX12_told 140 = .ok (.aload_n 0, 1) := by decide +kernel
theorem dX12_told_141 : decode cX12_told 141 = .ok (.invokevirtual 184, 3) := by decide +kernel
theorem dX12_told_144 : decode cX12_told 144 = .ok (.ireturn, 1) := by decide +kernel
theorem dX12_told_145 : decode cX12_told 145 = .ok (.aload_n 0, 1) := by decide +kernel
theorem dX12_told_146 : decode cX12_told 146 = .ok (.getfield 187, 3) := by decide +kernel
theorem dX12_told_149 : decode cX12_told 149 = .ok (.ireturn, 1) := by decide +kernel
theorem dX12_told_150 : decode cX12_told 150 = .ok (.ldc 190, 2) := by decide +kernel
theorem dX12_told_152 : decode cX12_told 152 = .ok (.ireturn, 1) := by decide +kernel
theorem dX12_wall_0 : decode cX12_wall 0 = .ok (.aload_n 0, 1) := by decide +kernel
theorem dX12_wall_1 : decode cX12_wall 1 = .ok (.iload_n 1, 1) := by decide +kernel
theorem dX12_wall_2 : decode cX12_wall 2 = .ok (.invokevirtual 191, 3) := by decide +kernel
theorem dX12_wall_5 : decode cX12_wall 5 = .ok (.ifCond .eq 10, 3) := by decide +kernel
theorem dX12_wall_8 : decode cX12_wall 8 = .ok (.iload_n 2, 1) := by decide +kernel
theorem dX12_wall_9 : decode cX12_wall 9 = .ok (.invokestatic 194, 3) := by decide +kernel
theorem dX12_wall_12 : decode cX12_wall 12 = .ok (.ifCond .ne 6, 3) := by decide +kernel
theorem dX12_wall_15 : decode cX12_wall 15 = .ok (.ldc 197, 2) := by decide +kernel
theorem dX12_wall_17 : decode cX12_wall 17 = .ok (.ireturn, 1) := by decide +kernel
theorem dX12_wall_18 : decode cX12_wall 18 = .ok (.iload_n 3, 1) := by decide +kernel
theorem dX12_wall_19 : decode cX12_wall 19 = .ok (.iconst 0, 1) := by decide +kernel
theorem dX12_wall_20 : decode cX12_wall 20 = .ok (.iconst 2, 1) := by decide +kernel
theorem dX12_wall_21 : decode cX12_wall 21 = .ok (.invokestatic 40, 3) := by decide +kernel
theorem dX12_wall_24 : decode cX12_wall 24 = .ok (.ifCond .ne 6, 3) := by decide +kernel
theorem dX12_wall_27 : decode cX12_wall 27 = .ok (.ldc 190, 2) := by decide +kernel
theorem dX12_wall_29 : decode cX12_wall 29 = .ok (.ireturn, 1) := by decide +kernel
theorem dX12_wall_30 : decode cX12_wall 30 = .ok (.iconst 4, 1) := by decide +kernel
theorem dX12_wall_31 : decode cX12_wall 31 = .ok (.iload_n 1, 1) := by decide +kernel
theorem dX12_wall_32 : decode cX12_wall 32 = .ok (.imul, 1) := by decide +kernel
theorem dX12_wall_33 : decode cX12_wall 33 = .ok (.iload_n 2, 1) := by decide +kernel
theorem dX12_wall_34 : decode cX12_wall 34 = .ok (.iadd, 1) := by decide +kernel
theorem dX12_wall_35 : decode cX12_wall 35 = .ok (.istore 4, 2) := by decide +kernel
theorem dX12_wall_37 : decode cX12_wall 37 = .ok (.aload_n 0, 1) := by decide +kernel
theorem dX12_wall_38 : decode cX12_wall 38 = .ok (.iload 4, 2) := by decide +kernel
theorem dX12_wall_40 : decode cX12_wall 40 = .ok (.invokevirtual 52, 3) := by decide +kernel
theorem dX12_wall_43 : decode cX12_wall 43 = .ok (.ifCond .eq 5, 3) := by decide +kernel
theorem dX12_wall_46 : decode cX12_wall 46 = .ok (.iconst (-1), 1) := by decide +kernel
theorem dX12_wall_47 : decode cX12_wall 47 = .ok (.ireturn, 1) := by decide +kernel
theorem dX12_wall_48 : decode cX12_wall 48 = .ok (.iload_n 3, 1) := by decide +kernel
theorem dX12_wall_49 : decode cX12_wall 49 = .ok (.ifCond .ne 17, 3) := by decide +kernel
theorem dX12_wall_52 : decode cX12_wall 52 = .ok (.aload_n 0, 1) := by decide +kernel
theorem dX12_wall_53 : decode cX12_wall 53 = .ok (.getfield 7, 3) := by decide +kernel
theorem dX12_wall_56 : decode cX12_wall 56 = .ok (.iconst 2, 1) := by decide +kernel
theorem dX12_wall_57 : decode cX12_wall 57 = .ok (.iload 4, 2) := by decide +kernel
theorem dX12_wall_59 : decode cX12_wall 59 = .ok (.iadd, 1) := by decide +kernel
theorem dX12_wall_60 : decode cX12_wall 60 = .ok (.iaload, 1) := by decide +kernel
theorem dX12_wall_61 : decode cX12_wall 61 = .ok (.iconst 4, 1) := by decide +kernel
theorem dX12_wall_62 : decode cX12_wall 62 = .ok (.idiv, 1) := by decide +kernel
theorem dX12_wall_63 : decode cX12_wall 63 = .ok (.goto 32, 3) := by decide +kernel
theorem dX12_wall_66 : decode cX12_wall 66 = .ok (.iload_n 3, 1) := by decide +kernel
theorem dX12_wall_67 : decode cX12_wall 67 = .ok (.iconst 1, 1) := by decide +kernel
theorem dX12_wall_68 : decode cX12_wall 68 = .ok (.if_icmp .ne 17, 3) := by decide +kernel
theorem dX12_wall_71 : decode cX12_wall 71 = .ok (.aload_n 0, 1) := by decide +kernel
theorem dX12_wall_72 : decode cX12_wall 72 = .ok (.getfield 7, 3) := by decide +kernel
theorem dX12_wall_75 : decode cX12_wall 75 = .ok (.iconst 2, 1) := by decide +kernel
theorem dX12_wall_76 : decode cX12_wall 76 = .ok (.iload 4, 2) := by decide +kernel
theorem dX12_wall_78 : decode cX12_wall 78 = .ok (.iadd, 1) := by decide +kernel
theorem dX12_wall_79 : decode cX12_wall 79 = .ok (.iaload, 1) := by decide +kernel
theorem dX12_wall_80 : decode cX12_wall 80 = .ok (.iconst 4, 1) := by decide +kernel
theorem dX12_wall_81 : decode cX12_wall 81 = .ok (.irem, 1) := by decide +kernel
theorem dX12_wall_82 : decode cX12_wall 82 = .ok (.goto 13, 3) := by decide +kernel
theorem dX12_wall_85 : decode cX12_wall 85 = .ok (.aload_n 0, 1) := by decide +kernel
theorem dX12_wall_86 : decode cX12_wall 86 = .ok (.getfield 7, 3) := by decide +kernel
theorem dX12_wall_89 : decode cX12_wall 89 = .ok (.bipush 14, 2) := by decide +kernel
theorem dX12_wall_91 : decode cX12_wall 91 = .ok (.iload 4, 2) := by decide +kernel
theorem dX12_wall_93 : decode cX12_wall 93 = .ok (.iadd, 1) := by decide +kernel
theorem dX12_wall_94 : decode cX12_wall 94 = .ok (.iaload, 1) := by decide +kernel
theorem dX12_wall_95 : decode cX12_wall 95 = .ok (.ireturn, 1) := by decide +kernel
theorem dX12_corner_0 : decode cX12_corner 0 = .ok (.aload_n 0, 1) := by decide +kernel
theorem dX12_corner_1 : decode cX12_corner 1 = .ok (.iload_n 1, 1) := by decide +kernel
theorem dX12_corner_2 : decode cX12_corner 2 = .ok (.invokevirtual 191, 3) := by decide +kernel
theorem dX12_corner_5 : decode cX12_corner 5 = .ok (.ifCond .eq 10, 3) := by decide +kernel
theorem dX12_corner_8 : decode cX12_corner 8 = .ok (.iload_n 2, 1) := by decide +kernel
theorem dX12_corner_9 : decode cX12_corner 9 = .ok (.invokestatic 194, 3) := by decide +kernel
theorem dX12_corner_12 : decode cX12_corner 12 = .ok (.ifCond .ne 6, 3) := by decide +kernel
theorem dX12_corner_15 : decode cX12_corner 15 = .ok (.ldc 197, 2) := by decide +kernel
theorem dX12_corner_17 : decode cX12_corner 17 = .ok (.ireturn, 1) := by decide +kernel
theorem dX12_corner_18 : decode cX12_corner 18 = .ok (.iload_n 3, 1) := by decide +kernel
theorem dX12_corner_19 : decode cX12_corner 19 = .ok (.iconst 0, 1) := by decide +kernel
theorem dX12_corner_20 : decode cX12_corner 20 = .ok (.iconst 4, 1) := by decide +kernel
theorem dX12_corner_21 : decode cX12_corner 21 = .ok (.invokestatic 40, 3) := by decide +kernel
theorem dX12_corner_24 : decode cX12_corner 24 = .ok (.ifCond .ne 6, 3) := by decide +kernel
theorem dX12_corner_27 : decode cX12_corner 27 = .ok (.ldc 190, 2) := by decide +kernel
theorem dX12_corner_29 : decode cX12_corner 29 = .ok (.ireturn, 1) := by decide +kernel
theorem dX12_corner_30 : decode cX12_corner 30 = .ok (.iload_n 3, 1) := by decide +kernel
theorem dX12_corner_31 : decode cX12_corner 31 = .ok (.ifCond .ne 25, 3) := by decide +kernel
theorem dX12_corner_34 : decode cX12_corner 34 = .ok (.aload_n 0, 1) := by decide +kernel
theorem dX12_corner_35 : decode cX12_corner 35 = .ok (.invokevirtual 96, 3) := by decide +kernel
theorem dX12_corner_38 : decode cX12_corner 38 = .ok (.aload_n 0, 1) := by decide +kernel
theorem dX12_corner_39 : decode cX12_corner 39 = .ok (.getfield 22, 3) := by decide +kernel
theorem dX12_corner_42 : decode cX12_corner 42 = .ok (.aload_n 0, 1) := by decide +kernel
theorem dX12_corner_43 : decode cX12_corner 43 = .ok (.getfield 22, 3) := by decide +kernel
theorem dX12_corner_46 : decode cX12_corner 46 = .ok (.iconst 4, 1) := by decide +kernel
theorem dX12_corner_47 : decode cX12_corner 47 = .ok (.iload_n 1, 1) := by decide +kernel
theorem dX12_corner_48 : decode cX12_corner 48 = .ok (.imul, 1) := by decide +kernel
theorem dX12_corner_49 : decode cX12_corner 49 = .ok (.iload_n 2, 1) := by decide +kernel
theorem dX12_corner_50 : decode cX12_corner 50 = .ok (.iadd, 1) := by decide +kernel
theorem dX12_corner_51 : decode cX12_corner 51 = .ok (.iaload, 1) := by decide +kernel
theorem dX12_corner_52 : decode cX12_corner 52 = .ok (.invokestatic 149, 3) := by decide +kernel
theorem dX12_corner_55 : decode cX12_corner 55 = .ok (.ireturn, 1) := by decide +kernel
theorem dX12_corner_56 : decode cX12_corner 56 = .ok (.iconst 4, 1) := by decide +kernel
theorem dX12_corner_57 : decode cX12_corner 57 = .ok (.iload_n 1, 1) := by decide +kernel
theorem dX12_corner_58 : decode cX12_corner 58 = .ok (.imul, 1) := by decide +kernel
theorem dX12_corner_59 : decode cX12_corner 59 = .ok (.iload_n 3, 1) := by decide +kernel
theorem dX12_corner_60 : decode cX12_corner 60 = .ok (.iadd, 1) := by decide +kernel
theorem dX12_corner_61 : decode cX12_corner 61 = .ok (.iconst 1, 1) := by decide +kernel
theorem dX12_corner_62 : decode cX12_corner 62 = .ok (.isub, 1) := by decide +kernel
theorem dX12_corner_63 : decode cX12_corner 63 = .ok (.istore 4, 2) := by decide +kernel
theorem dX12_corner_65 : decode cX12_corner 65 = .ok (.iload_n 2, 1) := by decide +kernel
theorem dX12_corner_66 : decode cX12_corner 66 = .ok (.iload_n 3, 1) := by decide +kernel
theorem dX12_corner_67 : decode cX12_corner 67 = .ok (.iconst 1, 1) := by decide +kernel
theorem dX12_corner_68 : decode cX12_corner 68 = .ok (.isub, 1) := by decide +kernel
theorem dX12_corner_69 : decode cX12_corner 69 = .ok (.if_icmp .eq 12, 3) := by decide +kernel
theorem dX12_corner_72 : decode cX12_corner 72 = .ok (.aload_n 0, 1) := by decide +kernel
theorem dX12_corner_73 : decode cX12_corner 73 = .ok (.iload 4, 2) := by decide +kernel
theorem dX12_corner_75 : decode cX12_corner 75 = .ok (.invokevirtual 52, 3) := by decide +kernel
theorem dX12_corner_78 : decode cX12_corner 78 = .ok (.ifCond .eq 7, 3) := by decide +kernel
theorem dX12_corner_81 : decode cX12_corner 81 = .ok (.iconst (-1), 1) := by decide +kernel
theorem dX12_corner_82 : decode cX12_corner 82 = .ok (.goto 10, 3) := by decide +kernel
theorem dX12_corner_85 : decode cX12_corner 85 = .ok (.aload_n 0, 1) := by decide +kernel
theorem dX12_corner_86 : decode cX12_corner 86 = .ok (.iload 4, 2) := by decide +kernel
theorem dX12_corner_88 : decode cX12_corner 88 = .ok (.iload_n 2, 1) := by decide +kernel
theorem dX12_corner_89 : decode cX12_corner 89 = .ok (.invokevirtual 60, 3) := by decide +kernel
theorem dX12_corner_92 : decode cX12_corner 92 = .ok (.ireturn, 1) := by decide +kernel
theorem dX12_edge_0 : decode cX12_edge 0 = .ok (.aload_n 0, 1) := by decide +kernel
theorem dX12_edge_1 : decode cX12_edge 1 = .ok (.iload_n 1, 1) := by decide +kernel
theorem dX12_edge_2 : decode cX12_edge 2 = .ok (.invokevirtual 191, 3) := by decide +kernel
theorem dX12_edge_5 : decode cX12_edge 5 = .ok (.ifCond .eq 12, 3) := by decide +kernel
theorem dX12_edge_8 : decode cX12_edge 8 = .ok (.iload_n 2, 1) := by decide +kernel
theorem dX12_edge_9 : decode cX12_edge 9 = .ok (.iconst 0, 1) := by decide +kernel
theorem dX12_edge_10 : decode cX12_edge 10 = .ok (.iconst 5, 1) := by decide +kernel
theorem dX12_edge_11 : decode cX12_edge 11 = .ok (.invokestatic 40, 3) := by decide +kernel
theorem dX12_edge_14 : decode cX12_edge 14 = .ok (.ifCond .ne 6, 3) := by decide +kernel
theorem dX12_edge_17 : decode cX12_edge 17 = .ok (.ldc 197, 2) := by decide +kernel
theorem dX12_edge_19 : decode cX12_edge 19 = .ok (.ireturn, 1) := by decide +kernel
theorem dX12_edge_20 : decode cX12_edge 20 = .ok (.aload_n 0, 1) := by decide +kernel
theorem dX12_edge_21 : decode cX12_edge 21 = .ok (.invokevirtual 96, 3) := by decide +kernel
theorem dX12_edge_24 : decode cX12_edge 24 = .ok (.bipush 6, 2) := by decide +kernel
theorem dX12_edge_26 : decode cX12_edge 26 = .ok (.iload_n 1, 1) := by decide +kernel
theorem dX12_edge_27 : decode cX12_edge 27 = .ok (.imul, 1) := by decide +kernel
theorem dX12_edge_28 : decode cX12_edge 28 = .ok (.iload_n 2, 1) := by decide +kernel
theorem dX12_edge_29 : decode cX12_edge 29 = .ok (.iadd, 1) := by decide +kernel
theorem dX12_edge_30 : decode cX12_edge 30 = .ok (.istore 4, 2) := by decide +kernel
theorem dX12_edge_32 : decode cX12_edge 32 = .ok (.iload_n 3, 1) := by decide +kernel
theorem dX12_edge_33 : decode cX12_edge 33 = .ok (.tableswitch 64 0 2 #[27, 42, 49], 27) := by decide +kernel
theorem dX12_edge_60 : decode cX12_edge 60 = .ok (.aload_n 0, 1) := by decide +kernel
theorem dX12_edge_61 : decode cX12_edge 61 = .ok (.getfield 25, 3) := by decide +kernel
theorem dX12_edge_64 : decode cX12_edge 64 = .ok (.aload_n 0, 1) := by decide +kernel
theorem dX12_edge_65 : decode cX12_edge 65 = .ok (.getfield 25, 3) := by decide +kernel
theorem dX12_edge_68 : decode cX12_edge 68 = .ok (.iload 4, 2) := by decide +kernel
theorem dX12_edge_70 : decode cX12_edge 70 = .ok (.iaload, 1) := by decide +kernel
theorem dX12_edge_71 : decode cX12_edge 71 = .ok (.invokestatic 149, 3) := by decide +kernel
theorem dX12_edge_74 : decode cX12_edge 74 = .ok (.ireturn, 1) := by decide +kernel
theorem dX12_edge_75 : decode cX12_edge 75 = .ok (.aload_n 0, 1) := by decide +kernel
theorem dX12_edge_76 : decode cX12_edge 76 = .ok (.iload 4, 2) := by decide +kernel
theorem dX12_edge_78 : decode cX12_edge 78 = .ok (.invokevirtual 198, 3) := by decide +kernel
theorem dX12_edge_81 : decode cX12_edge 81 = .ok (.ireturn, 1) := by decide +kernel
theorem dX12_edge_82 : decode cX12_edge 82 = .ok (.aload_n 0, 1) := by decide +kernel
theorem dX12_edge_83 : decode cX12_edge 83 = .ok (.iload 4, 2) := by decide +kernel
theorem dX12_edge_85 : decode cX12_edge 85 = .ok (.invokevirtual 74, 3) := by decide +kernel
theorem dX12_edge_88 : decode cX12_edge 88 = .ok (.ifCond .eq 7, 3) := by decide +kernel
theorem dX12_edge_91 : decode cX12_edge 91 = .ok (.iconst 1, 1) := by decide +kernel
theorem dX12_edge_92 : decode cX12_edge 92 = .ok (.goto 4, 3) := by decide +kernel
theorem dX12_edge_95 : decode cX12_edge 95 = .ok (.iconst 0, 1) := by decide +kernel
theorem dX12_edge_96 : decode cX12_edge 96 = .ok (.ireturn, 1) := by decide +kernel
theorem dX12_edge_97 : decode cX12_edge 97 = .ok (.ldc 190, 2) := by decide +kernel
theorem dX12_edge_99 : decode cX12_edge 99 = .ok (.ireturn, 1) := by decide +kernel
theorem dX12_pieces_0 : decode cX12_pieces 0 = .ok (.aload_n 0, 1) := by decide +kernel
theorem dX12_pieces_1 : decode cX12_pieces 1 = .ok (.iload_n 1, 1) := by decide +kernel
theorem dX12_pieces_2 : decode cX12_pieces 2 = .ok (.invokevirtual 172, 3) := by decide +kernel
theorem dX12_pieces_5 : decode cX12_pieces 5 = .ok (.ifCond .eq 11, 3) := by decide +kernel
theorem dX12_pieces_8 : decode cX12_pieces 8 = .ok (.aload_n 0, 1) := by decide +kernel
theorem dX12_pieces_9 : decode cX12_pieces 9 = .ok (.iload_n 2, 1) := by decide +kernel
theorem dX12_pieces_10 : decode cX12_pieces 10 = .ok (.invokevirtual 191, 3) := by decide +kernel
theorem dX12_pieces_13 : decode cX12_pieces 13 = .ok (.ifCond .ne 6, 3) := by decide +kernel
theorem dX12_pieces_16 : decode cX12_pieces 16 = .ok (.ldc 197, 2) := by decide +kernel
theorem dX12_pieces_18 : decode cX12_pieces 18 = .ok (.ireturn, 1) := by decide +kernel
theorem dX12_pieces_19 : decode cX12_pieces 19 = .ok (.iload_n 3, 1) := by decide +kernel
theorem dX12_pieces_20 : decode cX12_pieces 20 = .ok (.iconst 0, 1) := by decide +kernel
theorem dX12_pieces_21 : decode cX12_pieces 21 = .ok (.bipush 6, 2) := by decide +kernel
theorem dX12_pieces_23 : decode cX12_pieces 23 = .ok (.invokestatic 40, 3) := by decide +kernel
theorem dX12_pieces_26 : decode cX12_pieces 26 = .ok (.ifCond .eq 22, 3) := by decide +kernel
theorem dX12_pieces_29 : decode cX12_pieces 29 = .ok (.aload_n 0, 1) := by decide +kernel
theorem dX12_pieces_30 : decode cX12_pieces 30 = .ok (.getfield 7, 3) := by decide +kernel
theorem dX12_pieces_33 : decode cX12_pieces 33 = .ok (.iload_n 1, 1) := by decide +kernel
theorem dX12_pieces_34 : decode cX12_pieces 34 = .ok (.invokestatic 169, 3) := by decide +kernel
theorem dX12_pieces_37 : decode cX12_pieces 37 = .ok (.bipush 7, 2) := by decide +kernel
theorem dX12_pieces_39 : decode cX12_pieces 39 = .ok (.iload_n 2, 1) := by decide +kernel
theorem dX12_pieces_40 : decode cX12_pieces 40 = .ok (.imul, 1) := by decide +kernel
theorem dX12_pieces_41 : decode cX12_pieces 41 = .ok (.iadd, 1) := by decide +kernel
theorem dX12_pieces_42 : decode cX12_pieces 42 = .ok (.iload_n 3, 1) := by decide +kernel
theorem dX12_pieces_43 : decode cX12_pieces 43 = .ok (.iadd, 1) := by decide +kernel
theorem dX12_pieces_44 : decode cX12_pieces 44 = .ok (.iaload, 1) := by decide +kernel
theorem dX12_pieces_45 : decode cX12_pieces 45 = .ok (.goto 5, 3) := by decide +kernel
theorem dX12_pieces_48 : decode cX12_pieces 48 = .ok (.ldc 190, 2) := by decide +kernel
theorem dX12_pieces_50 : decode cX12_pieces 50 = .ok (.ireturn, 1) := by decide +kernel
theorem dX12_ofWell_0 : decode cX12_ofWell 0 = .ok (.aload_n 0, 1) := by decide +kernel
theorem dX12_ofWell_1 : decode cX12_ofWell 1 = .ok (.iload_n 1, 1) := by decide +kernel
theorem dX12_ofWell_2 : decode cX12_ofWell 2 = .ok (.invokevirtual 129, 3) := by decide +kernel
theorem dX12_ofWell_5 : decode cX12_ofWell 5 = .ok (.ifCond .ne 5, 3) := by decide +kernel
theorem dX12_ofWell_8 : decode cX12_ofWell 8 = .ok (.iconst (-1), 1) := by decide +kernel
theorem dX12_ofWell_9 : decode cX12_ofWell 9 = .ok (.ireturn, 1) := by decide +kernel
theorem dX12_ofWell_10 : decode cX12_ofWell 10 = .ok (.iload_n 2, 1) := by decide +kernel
theorem dX12_ofWell_11 : decode cX12_ofWell 11 = .ok (.tableswitch 48 3 5 #[25, 35, 42], 25) := by decide +kernel
theorem dX12_ofWell_36 : decode cX12_ofWell 36 = .ok (.aload_n 0, 1) := by decide +kernel
theorem dX12_ofWell_37 : decode cX12_ofWell 37 = .ok (.iload_n 1, 1) := by decide +kernel
theorem dX12_ofWell_38 : decode cX12_ofWell 38 = .ok (.invokevirtual 139, 3) := by decide +kernel
theorem dX12_ofWell_41 : decode cX12_ofWell 41 = .ok (.sipush 1000, 3) := by decide +kernel
theorem dX12_ofWell_44 : decode cX12_ofWell 44 = .ok (.iadd, 1) := by decide +kernel
theorem dX12_ofWell_45 : decode cX12_ofWell 45 = .ok (.ireturn, 1) := by decide +kernel
theorem dX12_ofWell_46 : decode cX12_ofWell 46 = .ok (.aload_n 0, 1) := by decide +kernel
theorem dX12_ofWell_47 : decode cX12_ofWell 47 = .ok (.iload_n 1, 1) := by decide +kernel
theorem dX12_ofWell_48 : decode cX12_ofWell 48 = .ok (.iconst 0, 1) := by decide +kernel
theorem dX12_ofWell_49 : decode cX12_ofWell 49 = .ok (.invokevirtual 132, 3) := by decide +kernel
theorem dX12_ofWell_52 : decode cX12_ofWell 52 = .ok (.ireturn, 1) := by decide +kernel
theorem dX12_ofWell_53 : decode cX12_ofWell 53 = .ok (.aload_n 0, 1) := by decide +kernel
theorem dX12_ofWell_54 : decode cX12_ofWell 54 = .ok (.iload_n 1, 1) := by decide +kernel
theorem dX12_ofWell_55 : decode cX12_ofWell 55 = .ok (.invokevirtual 136, 3) := by decide +kernel
theorem dX12_ofWell_58 : decode cX12_ofWell 58 = .ok (.ireturn, 1) := by decide +kernel
theorem dX12_ofWell_59 : decode cX12_ofWell 59 = .ok (.aload_n 0, 1) := by decide +kernel
theorem dX12_ofWell_60 : decode cX12_ofWell 60 = .ok (.iload_n 1, 1) := by decide +kernel
theorem dX12_ofWell_61 : decode cX12_ofWell 61 = .ok (.iconst 1, 1) := by decide +kernel
theorem dX12_ofWell_62 : decode cX12_ofWell 62 = .ok (.invokevirtual 132, 3) := by decide +kernel
theorem dX12_ofWell_65 : decode cX12_ofWell 65 = .ok (.ireturn, 1) := by decide +kernel
theorem dX12_surface_0 : decode cX12_surface 0 = .ok (.aload_n 0, 1) := by decide +kernel
theorem dX12_surface_1 : decode cX12_surface 1 = .ok (.iload_n 1, 1) := by decide +kernel
theorem dX12_surface_2 : decode cX12_surface 2 = .ok (.invokevirtual 172, 3) := by decide +kernel
theorem dX12_surface_5 : decode cX12_surface 5 = .ok (.ifCond .ne 6, 3) := by decide +kernel
theorem dX12_surface_8 : decode cX12_surface 8 = .ok (.ldc 197, 2) := by decide +kernel
theorem dX12_surface_10 : decode cX12_surface 10 = .ok (.ireturn, 1) := by decide +kernel
theorem dX12_surface_11 : decode cX12_surface 11 = .ok (.iload_n 1, 1) := by decide +kernel
theorem dX12_surface_12 : decode cX12_surface 12 = .ok (.invokestatic 169, 3) := by decide +kernel
theorem dX12_surface_15 : decode cX12_surface 15 = .ok (.istore_n 3, 1) := by decide +kernel
theorem dX12_surface_16 : decode cX12_surface 16 = .ok (.iload_n 2, 1) := by decide +kernel
theorem dX12_surface_17 : decode cX12_surface 17 = .ok (.tableswitch 104 0 8 #[51, 65, 79, 85, 85, 85, 85, 92, 98], 51) := by decide +kernel
theorem dX12_surface_68 : decode cX12_surface 68 = .ok (.aload_n 0, 1) := by decide +kernel
theorem dX12_surface_69 : decode cX12_surface 69 = .ok (.iload_n 3, 1) := by decide +kernel
theorem dX12_surface_70 : decode cX12_surface 70 = .ok (.invokevirtual 87, 3) := by decide +kernel
theorem dX12_surface_73 : decode cX12_surface 73 = .ok (.ifCond .eq 7, 3) := by decide +kernel
theorem dX12_surface_76 : decode cX12_surface 76 = .ok (.iconst 1, 1) := by decide +kernel
theorem dX12_surface_77 : decode cX12_surface 77 = .ok (.goto 4, 3) := by decide +kernel
theorem dX12_surface_80 : decode cX12_surface 80 = .ok (.iconst 0, 1) := by decide +kernel
theorem dX12_surface_81 : decode cX12_surface 81 = .ok (.ireturn, 1) := by decide +kernel
theorem dX12_surface_82 : decode cX12_surface 82 = .ok (.aload_n 0, 1) := by decide +kernel
theorem dX12_surface_83 : decode cX12_surface 83 = .ok (.iload_n 3, 1) := by decide +kernel
theorem dX12_surface_84 : decode cX12_surface 84 = .ok (.invokevirtual 90, 3) := by decide +kernel
theorem dX12_surface_87 : decode cX12_surface 87 = .ok (.ifCond .eq 7, 3) := by decide +kernel
theorem dX12_surface_90 : decode cX12_surface 90 = .ok (.iconst 1, 1) := by decide +kernel
theorem dX12_surface_91 : decode cX12_surface 91 = .ok (.goto 4, 3) := by decide +kernel
theorem dX12_surface_94 : decode cX12_surface 94 = .ok (.iconst 0, 1) := by decide +kernel
theorem dX12_surface_95 : decode cX12_surface 95 = .ok (.ireturn, 1) := by decide +kernel
theorem dX12_surface_96 : decode cX12_surface 96 = .ok (.aload_n 0, 1) := by decide +kernel
theorem dX12_surface_97 : decode cX12_surface 97 = .ok (.iload_n 3, 1) := by decide +kernel
theorem dX12_surface_98 : decode cX12_surface 98 = .ok (.invokevirtual 99, 3) := by decide +kernel
theorem dX12_surface_101 : decode cX12_surface 101 = .ok (.ireturn, 1) := by decide +kernel
theorem dX12_surface_102 : decode cX12_surface 102 = .ok (.aload_n 0, 1) := by decide +kernel
theorem dX12_surface_103 : decode cX12_surface 103 = .ok (.iload_n 3, 1) := by decide +kernel
theorem dX12_surface_104 : decode cX12_surface 104 = .ok (.iload_n 2, 1) := by decide +kernel
theorem dX12_surface_105 : decode cX12_surface 105 = .ok (.invokevirtual 201, 3) := by decide +kernel
theorem dX12_surface_108 : decode cX12_surface 108 = .ok (.ireturn, 1) := by decide +kernel
theorem dX12_surface_109 : decode cX12_surface 109 = .ok (.aload_n 0, 1) := by decide +kernel
theorem dX12_surface_110 : decode cX12_surface 110 = .ok (.iload_n 3, 1) := by decide +kernel
theorem dX12_surface_111 : decode cX12_surface 111 = .ok (.invokevirtual 204, 3) := by decide +kernel
theorem dX12_surface_114 : decode cX12_surface 114 = .ok (.ireturn, 1) := by decide +kernel
theorem dX12_surface_115 : decode cX12_surface 115 = .ok (.aload_n 0, 1) := by decide +kernel
theorem dX12_surface_116 : decode cX12_surface 116 = .ok (.iload_n 3, 1) := by decide +kernel
theorem dX12_surface_117 : decode cX12_surface 117 = .ok (.invokevirtual 207, 3) := by decide +kernel
theorem dX12_surface_120 : decode cX12_surface 120 = .ok (.ireturn, 1) := by decide +kernel
theorem dX12_surface_121 : decode cX12_surface 121 = .ok (.ldc 190, 2) := by decide +kernel
theorem dX12_surface_123 : decode cX12_surface 123 = .ok (.ireturn, 1) := by decide +kernel
theorem dX12_weight_0 : decode cX12_weight 0 = .ok (.aload_n 0, 1) := by decide +kernel
theorem dX12_weight_1 : decode cX12_weight 1 = .ok (.iload_n 1, 1) := by decide +kernel
theorem dX12_weight_2 : decode cX12_weight 2 = .ok (.invokevirtual 172, 3) := by decide +kernel
theorem dX12_weight_5 : decode cX12_weight 5 = .ok (.ifCond .eq 24, 3) := by decide +kernel
theorem dX12_weight_8 : decode cX12_weight 8 = .ok (.aload_n 0, 1) := by decide +kernel
theorem dX12_weight_9 : decode cX12_weight 9 = .ok (.iload_n 2, 1) := by decide +kernel
theorem dX12_weight_10 : decode cX12_weight 10 = .ok (.invokevirtual 191, 3) := by decide +kernel
theorem dX12_weight_13 : decode cX12_weight 13 = .ok (.ifCond .eq 16, 3) := by decide +kernel
theorem dX12_weight_16 : decode cX12_weight 16 = .ok (.iload_n 3, 1) := by decide +kernel
theorem dX12_weight_17 : decode cX12_weight 17 = .ok (.iconst 0, 1) := by decide +kernel
theorem dX12_weight_18 : decode cX12_weight 18 = .ok (.iconst 5, 1) := by decide +kernel
theorem dX12_weight_19 : decode cX12_weight 19 = .ok (.invokestatic 40, 3) := by decide +kernel
theorem dX12_weight_22 : decode cX12_weight 22 = .ok (.ifCond .eq 7, 3) := by decide +kernel
theorem dX12_weight_25 : decode cX12_weight 25 = .ok (.iconst 1, 1) := by decide +kernel
theorem dX12_weight_26 : decode cX12_weight 26 = .ok (.goto 4, 3) := by decide +kernel
theorem dX12_weight_29 : decode cX12_weight 29 = .ok (.iconst 0, 1) := by decide +kernel
theorem dX12_weight_30 : decode cX12_weight 30 = .ok (.istore 4, 2) := by decide +kernel
theorem dX12_weight_32 : decode cX12_weight 32 = .ok (.iload 4, 2) := by decide +kernel
theorem dX12_weight_34 : decode cX12_weight 34 = .ok (.ifCond .eq 16, 3) := by decide +kernel
theorem dX12_weight_37 : decode cX12_weight 37 = .ok (.aload_n 0, 1) := by decide +kernel
theorem dX12_weight_38 : decode cX12_weight 38 = .ok (.iload_n 1, 1) := by decide +kernel
theorem dX12_weight_39 : decode cX12_weight 39 = .ok (.invokestatic 169, 3) := by decide +kernel
theorem dX12_weight_42 : decode cX12_weight 42 = .ok (.iload_n 2, 1) := by decide +kernel
theorem dX12_weight_43 : decode cX12_weight 43 = .ok (.iload_n 3, 1) := by decide +kernel
theorem dX12_weight_44 : decode cX12_weight 44 = .ok (.invokevirtual 102, 3) := by decide +kernel
theorem dX12_weight_47 : decode cX12_weight 47 = .ok (.goto 5, 3) := by decide +kernel
theorem dX12_weight_50 : decode cX12_weight 50 = .ok (.ldc 197, 2) := by decide +kernel
theorem dX12_weight_52 : decode cX12_weight 52 = .ok (.ireturn, 1) := by decide +kernel
theorem dX12_arcs_0 : decode cX12_arcs 0 = .ok (.aload_n 0, 1) := by decide +kernel
theorem dX12_arcs_1 : decode cX12_arcs 1 = .ok (.iload_n 1, 1) := by decide +kernel
theorem dX12_arcs_2 : decode cX12_arcs 2 = .ok (.invokevirtual 172, 3) := by decide +kernel
theorem dX12_arcs_5 : decode cX12_arcs 5 = .ok (.ifCond .eq 36, 3) := by decide +kernel
theorem dX12_arcs_8 : decode cX12_arcs 8 = .ok (.aload_n 0, 1) := by decide +kernel
theorem dX12_arcs_9 : decode cX12_arcs 9 = .ok (.iload_n 2, 1) := by decide +kernel
theorem dX12_arcs_10 : decode cX12_arcs 10 = .ok (.invokevirtual 191, 3) := by decide +kernel
theorem dX12_arcs_13 : decode cX12_arcs 13 = .ok (.ifCond .eq 28, 3) := by decide +kernel
theorem dX12_arcs_16 : decode cX12_arcs 16 = .ok (.iload_n 3, 1) := by decide +kernel
theorem dX12_arcs_17 : decode cX12_arcs 17 = .ok (.invokestatic 194, 3) := by decide +kernel
theorem dX12_arcs_20 : decode cX12_arcs 20 = .ok (.ifCond .eq 21, 3) := by decide +kernel
theorem dX12_arcs_23 : decode cX12_arcs 23 = .ok (.iload 4, 2) := by decide +kernel
theorem dX12_arcs_25 : decode cX12_arcs 25 = .ok (.invokestatic 194, 3) := by decide +kernel
theorem dX12_arcs_28 : decode cX12_arcs 28 = .ok (.ifCond .eq 13, 3) := by decide +kernel
theorem dX12_arcs_31 : decode cX12_arcs 31 = .ok (.iload_n 3, 1) := by decide +kernel
theorem dX12_arcs_32 : decode cX12_arcs 32 = .ok (.iload 4, 2) := by decide +kernel
theorem dX12_arcs_34 : decode cX12_arcs 34 = .ok (.if_icmp .eq 7, 3) := by decide +kernel
end
section
theorem dX12_arcs_37 : decode cX12_arcs 37 = .ok (.iconst 1, 1) := by decide +kernel
theorem dX12_arcs_38 : decode cX12_arcs 38 = .ok (.goto 4, 3) := by decide +kernel
theorem dX12_arcs_41 : decode cX12_arcs 41 = .ok (.iconst 0, 1) := by decide +kernel
theorem dX12_arcs_42 : decode cX12_arcs 42 = .ok (.istore 5, 2) := by decide +kernel
theorem dX12_arcs_44 : decode cX12_arcs 44 = .ok (.iload 5, 2) := by decide +kernel
theorem dX12_arcs_46 : decode cX12_arcs 46 = .ok (.ifCond .eq 21, 3) := by decide +kernel
theorem dX12_arcs_49 : decode cX12_arcs 49 = .ok (.aload_n 0, 1) := by decide +kernel
theorem dX12_arcs_50 : decode cX12_arcs 50 = .ok (.iload_n 1, 1) := by decide +kernel
theorem dX12_arcs_51 : decode cX12_arcs 51 = .ok (.invokestatic 169, 3) := by decide +kernel
theorem dX12_arcs_54 : decode cX12_arcs 54 = .ok (.iconst 4, 1) := by decide +kernel
theorem dX12_arcs_55 : decode cX12_arcs 55 = .ok (.iload_n 2, 1) := by decide +kernel
theorem dX12_arcs_56 : decode cX12_arcs 56 = .ok (.imul, 1) := by decide +kernel
theorem dX12_arcs_57 : decode cX12_arcs 57 = .ok (.iload_n 3, 1) := by decide +kernel
theorem dX12_arcs_58 : decode cX12_arcs 58 = .ok (.iadd, 1) := by decide +kernel
theorem dX12_arcs_59 : decode cX12_arcs 59 = .ok (.iload 4, 2) := by decide +kernel
theorem dX12_arcs_61 : decode cX12_arcs 61 = .ok (.invokevirtual 83, 3) := by decide +kernel
theorem dX12_arcs_64 : decode cX12_arcs 64 = .ok (.goto 5, 3) := by decide +kernel
theorem dX12_arcs_67 : decode cX12_arcs 67 = .ok (.ldc 197, 2) := by decide +kernel
theorem dX12_arcs_69 : decode cX12_arcs 69 = .ok (.ireturn, 1) := by decide +kernel
theorem dX12_remember_0 : decode cX12_remember 0 = .ok (.aload_n 0, 1) := by decide +kernel
theorem dX12_remember_1 : decode cX12_remember 1 = .ok (.getfield 187, 3) := by decide +kernel
theorem dX12_remember_4 : decode cX12_remember 4 = .ok (.bipush 16, 2) := by decide +kernel
theorem dX12_remember_6 : decode cX12_remember 6 = .ok (.if_icmp .ne 43, 3) := by decide +kernel
theorem dX12_remember_9 : decode cX12_remember 9 = .ok (.iconst 1, 1) := by decide +kernel
theorem dX12_remember_10 : decode cX12_remember 10 = .ok (.istore_n 1, 1) := by decide +kernel
theorem dX12_remember_11 : decode cX12_remember 11 = .ok (.iload_n 1, 1) := by decide +kernel
theorem dX12_remember_12 : decode cX12_remember 12 = .ok (.bipush 16, 2) := by decide +kernel
theorem dX12_remember_14 : decode cX12_remember 14 = .ok (.if_icmp .ge 25, 3) := by decide +kernel
theorem dX12_remember_17 : decode cX12_remember 17 = .ok (.aload_n 0, 1) := by decide +kernel
theorem dX12_remember_18 : decode cX12_remember 18 = .ok (.sipush 152, 3) := by decide +kernel
theorem dX12_remember_21 : decode cX12_remember 21 = .ok (.iload_n 1, 1) := by decide +kernel
theorem dX12_remember_22 : decode cX12_remember 22 = .ok (.iconst 1, 1) := by decide +kernel
theorem dX12_remember_23 : decode cX12_remember 23 = .ok (.iadd, 1) := by decide +kernel
theorem dX12_remember_24 : decode cX12_remember 24 = .ok (.imul, 1) := by decide +kernel
theorem dX12_remember_25 : decode cX12_remember 25 = .ok (.sipush 152, 3) := by decide +kernel
theorem dX12_remember_28 : decode cX12_remember 28 = .ok (.iload_n 1, 1) := by decide +kernel
theorem dX12_remember_29 : decode cX12_remember 29 = .ok (.imul, 1) := by decide +kernel
theorem dX12_remember_30 : decode cX12_remember 30 = .ok (.invokevirtual 210, 3) := by decide +kernel
theorem dX12_remember_33 : decode cX12_remember 33 = .ok (.iinc 1 1, 3) := by decide +kernel
theorem dX12_remember_36 : decode cX12_remember 36 = .ok (.goto (-25), 3) := by decide +kernel
theorem dX12_remember_39 : decode cX12_remember 39 = .ok (.aload_n 0, 1) := by decide +kernel
theorem dX12_remember_40 : decode cX12_remember 40 = .ok (.dup, 1) := by decide +kernel
theorem dX12_remember_41 : decode cX12_remember 41 = .ok (.getfield 187, 3) := by decide +kernel
theorem dX12_remember_44 : decode cX12_remember 44 = .ok (.iconst 1, 1) := by decide +kernel
theorem dX12_remember_45 : decode cX12_remember 45 = .ok (.isub, 1) := by decide +kernel
theorem dX12_remember_46 : decode cX12_remember 46 = .ok (.putfield 187, 3) := by decide +kernel
theorem dX12_remember_49 : decode cX12_remember 49 = .ok (.aload_n 0, 1) := by decide +kernel
theorem dX12_remember_50 : decode cX12_remember 50 = .ok (.iconst 0, 1) := by decide +kernel
theorem dX12_remember_51 : decode cX12_remember 51 = .ok (.sipush 152, 3) := by decide +kernel
theorem dX12_remember_54 : decode cX12_remember 54 = .ok (.aload_n 0, 1) := by decide +kernel
theorem dX12_remember_55 : decode cX12_remember 55 = .ok (.getfield 187, 3) := by decide +kernel
theorem dX12_remember_58 : decode cX12_remember 58 = .ok (.iconst 1, 1) := by decide +kernel
theorem dX12_remember_59 : decode cX12_remember 59 = .ok (.iadd, 1) := by decide +kernel
theorem dX12_remember_60 : decode cX12_remember 60 = .ok (.imul, 1) := by decide +kernel
theorem dX12_remember_61 : decode cX12_remember 61 = .ok (.invokevirtual 210, 3) := by decide +kernel
theorem dX12_remember_64 : decode cX12_remember 64 = .ok (.aload_n 0, 1) := by decide +kernel
theorem dX12_remember_65 : decode cX12_remember 65 = .ok (.dup, 1) := by decide +kernel
theorem dX12_remember_66 : decode cX12_remember 66 = .ok (.getfield 187, 3) := by decide +kernel
theorem dX12_remember_69 : decode cX12_remember 69 = .ok (.iconst 1, 1) := by decide +kernel
theorem dX12_remember_70 : decode cX12_remember 70 = .ok (.iadd, 1) := by decide +kernel
theorem dX12_remember_71 : decode cX12_remember 71 = .ok (.putfield 187, 3) := by decide +kernel
theorem dX12_remember_74 : decode cX12_remember 74 = .ok (.return_, 1) := by decide +kernel
theorem dX12_bodies_0 : decode cX12_bodies 0 = .ok (.iload_n 1, 1) := by decide +kernel
theorem dX12_bodies_1 : decode cX12_bodies 1 = .ok (.iconst 1, 1) := by decide +kernel
theorem dX12_bodies_2 : decode cX12_bodies 2 = .ok (.iconst 3, 1) := by decide +kernel
theorem dX12_bodies_3 : decode cX12_bodies 3 = .ok (.invokestatic 40, 3) := by decide +kernel
theorem dX12_bodies_6 : decode cX12_bodies 6 = .ok (.ifCond .ne 6, 3) := by decide +kernel
theorem dX12_bodies_9 : decode cX12_bodies 9 = .ok (.ldc 190, 2) := by decide +kernel
theorem dX12_bodies_11 : decode cX12_bodies 11 = .ok (.ireturn, 1) := by decide +kernel
theorem dX12_bodies_12 : decode cX12_bodies 12 = .ok (.aload_n 0, 1) := by decide +kernel
theorem dX12_bodies_13 : decode cX12_bodies 13 = .ok (.invokevirtual 213, 3) := by decide +kernel
theorem dX12_bodies_16 : decode cX12_bodies 16 = .ok (.aload_n 0, 1) := by decide +kernel
theorem dX12_bodies_17 : decode cX12_bodies 17 = .ok (.getfield 7, 3) := by decide +kernel
theorem dX12_bodies_20 : decode cX12_bodies 20 = .ok (.iconst 0, 1) := by decide +kernel
theorem dX12_bodies_21 : decode cX12_bodies 21 = .ok (.iaload, 1) := by decide +kernel
theorem dX12_bodies_22 : decode cX12_bodies 22 = .ok (.istore_n 2, 1) := by decide +kernel
theorem dX12_bodies_23 : decode cX12_bodies 23 = .ok (.aload_n 0, 1) := by decide +kernel
theorem dX12_bodies_24 : decode cX12_bodies 24 = .ok (.getfield 7, 3) := by decide +kernel
theorem dX12_bodies_27 : decode cX12_bodies 27 = .ok (.iconst 0, 1) := by decide +kernel
theorem dX12_bodies_28 : decode cX12_bodies 28 = .ok (.iload_n 1, 1) := by decide +kernel
theorem dX12_bodies_29 : decode cX12_bodies 29 = .ok (.iastore, 1) := by decide +kernel
theorem dX12_bodies_30 : decode cX12_bodies 30 = .ok (.aload_n 0, 1) := by decide +kernel
theorem dX12_bodies_31 : decode cX12_bodies 31 = .ok (.getfield 7, 3) := by decide +kernel
theorem dX12_bodies_34 : decode cX12_bodies 34 = .ok (.iconst 1, 1) := by decide +kernel
theorem dX12_bodies_35 : decode cX12_bodies 35 = .ok (.iconst 0, 1) := by decide +kernel
theorem dX12_bodies_36 : decode cX12_bodies 36 = .ok (.iastore, 1) := by decide +kernel
theorem dX12_bodies_37 : decode cX12_bodies 37 = .ok (.aload_n 0, 1) := by decide +kernel
theorem dX12_bodies_38 : decode cX12_bodies 38 = .ok (.invokevirtual 37, 3) := by decide +kernel
theorem dX12_bodies_41 : decode cX12_bodies 41 = .ok (.iload_n 2, 1) := by decide +kernel
theorem dX12_bodies_42 : decode cX12_bodies 42 = .ok (.ireturn, 1) := by decide +kernel
theorem dX12_mayGlue_0 : decode cX12_mayGlue 0 = .ok (.iload_n 1, 1) := by decide +kernel
theorem dX12_mayGlue_1 : decode cX12_mayGlue 1 = .ok (.iload_n 2, 1) := by decide +kernel
theorem dX12_mayGlue_2 : decode cX12_mayGlue 2 = .ok (.if_icmp .eq 23, 3) := by decide +kernel
theorem dX12_mayGlue_5 : decode cX12_mayGlue 5 = .ok (.aload_n 0, 1) := by decide +kernel
theorem dX12_mayGlue_6 : decode cX12_mayGlue 6 = .ok (.iload_n 1, 1) := by decide +kernel
theorem dX12_mayGlue_7 : decode cX12_mayGlue 7 = .ok (.invokevirtual 52, 3) := by decide +kernel
theorem dX12_mayGlue_10 : decode cX12_mayGlue 10 = .ok (.ifCond .eq 15, 3) := by decide +kernel
theorem dX12_mayGlue_13 : decode cX12_mayGlue 13 = .ok (.aload_n 0, 1) := by decide +kernel
theorem dX12_mayGlue_14 : decode cX12_mayGlue 14 = .ok (.iload_n 2, 1) := by decide +kernel
theorem dX12_mayGlue_15 : decode cX12_mayGlue 15 = .ok (.invokevirtual 52, 3) := by decide +kernel
theorem dX12_mayGlue_18 : decode cX12_mayGlue 18 = .ok (.ifCond .eq 7, 3) := by decide +kernel
theorem dX12_mayGlue_21 : decode cX12_mayGlue 21 = .ok (.iconst 1, 1) := by decide +kernel
theorem dX12_mayGlue_22 : decode cX12_mayGlue 22 = .ok (.goto 4, 3) := by decide +kernel
theorem dX12_mayGlue_25 : decode cX12_mayGlue 25 = .ok (.iconst 0, 1) := by decide +kernel
theorem dX12_mayGlue_26 : decode cX12_mayGlue 26 = .ok (.ireturn, 1) := by decide +kernel
theorem dX12_glueTo_0 : decode cX12_glueTo 0 = .ok (.aload_n 0, 1) := by decide +kernel
theorem dX12_glueTo_1 : decode cX12_glueTo 1 = .ok (.getfield 7, 3) := by decide +kernel
theorem dX12_glueTo_4 : decode cX12_glueTo 4 = .ok (.iconst 2, 1) := by decide +kernel
theorem dX12_glueTo_5 : decode cX12_glueTo 5 = .ok (.iload_n 1, 1) := by decide +kernel
theorem dX12_glueTo_6 : decode cX12_glueTo 6 = .ok (.iadd, 1) := by decide +kernel
theorem dX12_glueTo_7 : decode cX12_glueTo 7 = .ok (.iload_n 2, 1) := by decide +kernel
theorem dX12_glueTo_8 : decode cX12_glueTo 8 = .ok (.iastore, 1) := by decide +kernel
theorem dX12_glueTo_9 : decode cX12_glueTo 9 = .ok (.aload_n 0, 1) := by decide +kernel
theorem dX12_glueTo_10 : decode cX12_glueTo 10 = .ok (.getfield 7, 3) := by decide +kernel
theorem dX12_glueTo_13 : decode cX12_glueTo 13 = .ok (.bipush 14, 2) := by decide +kernel
theorem dX12_glueTo_15 : decode cX12_glueTo 15 = .ok (.iload_n 1, 1) := by decide +kernel
theorem dX12_glueTo_16 : decode cX12_glueTo 16 = .ok (.iadd, 1) := by decide +kernel
theorem dX12_glueTo_17 : decode cX12_glueTo 17 = .ok (.iload_n 3, 1) := by decide +kernel
theorem dX12_glueTo_18 : decode cX12_glueTo 18 = .ok (.iastore, 1) := by decide +kernel
theorem dX12_glueTo_19 : decode cX12_glueTo 19 = .ok (.aload_n 0, 1) := by decide +kernel
theorem dX12_glueTo_20 : decode cX12_glueTo 20 = .ok (.getfield 7, 3) := by decide +kernel
theorem dX12_glueTo_23 : decode cX12_glueTo 23 = .ok (.iconst 2, 1) := by decide +kernel
theorem dX12_glueTo_24 : decode cX12_glueTo 24 = .ok (.iload_n 2, 1) := by decide +kernel
theorem dX12_glueTo_25 : decode cX12_glueTo 25 = .ok (.iadd, 1) := by decide +kernel
theorem dX12_glueTo_26 : decode cX12_glueTo 26 = .ok (.iload_n 1, 1) := by decide +kernel
theorem dX12_glueTo_27 : decode cX12_glueTo 27 = .ok (.iastore, 1) := by decide +kernel
theorem dX12_glueTo_28 : decode cX12_glueTo 28 = .ok (.aload_n 0, 1) := by decide +kernel
theorem dX12_glueTo_29 : decode cX12_glueTo 29 = .ok (.getfield 7, 3) := by decide +kernel
theorem dX12_glueTo_32 : decode cX12_glueTo 32 = .ok (.bipush 14, 2) := by decide +kernel
theorem dX12_glueTo_34 : decode cX12_glueTo 34 = .ok (.iload_n 2, 1) := by decide +kernel
theorem dX12_glueTo_35 : decode cX12_glueTo 35 = .ok (.iadd, 1) := by decide +kernel
theorem dX12_glueTo_36 : decode cX12_glueTo 36 = .ok (.iload_n 3, 1) := by decide +kernel
theorem dX12_glueTo_37 : decode cX12_glueTo 37 = .ok (.invokestatic 216, 3) := by decide +kernel
theorem dX12_glueTo_40 : decode cX12_glueTo 40 = .ok (.iastore, 1) := by decide +kernel
theorem dX12_glueTo_41 : decode cX12_glueTo 41 = .ok (.aload_n 0, 1) := by decide +kernel
theorem dX12_glueTo_42 : decode cX12_glueTo 42 = .ok (.getfield 7, 3) := by decide +kernel
theorem dX12_glueTo_45 : decode cX12_glueTo 45 = .ok (.iconst 1, 1) := by decide +kernel
theorem dX12_glueTo_46 : decode cX12_glueTo 46 = .ok (.iconst 0, 1) := by decide +kernel
theorem dX12_glueTo_47 : decode cX12_glueTo 47 = .ok (.iastore, 1) := by decide +kernel
theorem dX12_glueTo_48 : decode cX12_glueTo 48 = .ok (.return_, 1) := by decide +kernel
theorem dX12_glue_0 : decode cX12_glue 0 = .ok (.aload_n 0, 1) := by decide +kernel
theorem dX12_glue_1 : decode cX12_glue 1 = .ok (.iload_n 1, 1) := by decide +kernel
theorem dX12_glue_2 : decode cX12_glue 2 = .ok (.invokevirtual 191, 3) := by decide +kernel
theorem dX12_glue_5 : decode cX12_glue 5 = .ok (.ifCond .eq 26, 3) := by decide +kernel
theorem dX12_glue_8 : decode cX12_glue 8 = .ok (.iload_n 2, 1) := by decide +kernel
theorem dX12_glue_9 : decode cX12_glue 9 = .ok (.invokestatic 194, 3) := by decide +kernel
theorem dX12_glue_12 : decode cX12_glue 12 = .ok (.ifCond .eq 19, 3) := by decide +kernel
theorem dX12_glue_15 : decode cX12_glue 15 = .ok (.aload_n 0, 1) := by decide +kernel
theorem dX12_glue_16 : decode cX12_glue 16 = .ok (.iload_n 3, 1) := by decide +kernel
theorem dX12_glue_17 : decode cX12_glue 17 = .ok (.invokevirtual 191, 3) := by decide +kernel
theorem dX12_glue_20 : decode cX12_glue 20 = .ok (.ifCond .eq 11, 3) := by decide +kernel
theorem dX12_glue_23 : decode cX12_glue 23 = .ok (.iload 4, 2) := by decide +kernel
theorem dX12_glue_25 : decode cX12_glue 25 = .ok (.invokestatic 194, 3) := by decide +kernel
theorem dX12_glue_28 : decode cX12_glue 28 = .ok (.ifCond .ne 6, 3) := by decide +kernel
theorem dX12_glue_31 : decode cX12_glue 31 = .ok (.ldc 197, 2) := by decide +kernel
theorem dX12_glue_33 : decode cX12_glue 33 = .ok (.ireturn, 1) := by decide +kernel
theorem dX12_glue_34 : decode cX12_glue 34 = .ok (.iload 5, 2) := by decide +kernel
theorem dX12_glue_36 : decode cX12_glue 36 = .ok (.iconst 0, 1) := by decide +kernel
theorem dX12_glue_37 : decode cX12_glue 37 = .ok (.iconst 5, 1) := by decide +kernel
theorem dX12_glue_38 : decode cX12_glue 38 = .ok (.invokestatic 40, 3) := by decide +kernel
theorem dX12_glue_41 : decode cX12_glue 41 = .ok (.ifCond .ne 6, 3) := by decide +kernel
theorem dX12_glue_44 : decode cX12_glue 44 = .ok (.ldc 190, 2) := by decide +kernel
theorem dX12_glue_46 : decode cX12_glue 46 = .ok (.ireturn, 1) := by decide +kernel
theorem dX12_glue_47 : decode cX12_glue 47 = .ok (.aload_n 0, 1) := by decide +kernel
theorem dX12_glue_48 : decode cX12_glue 48 = .ok (.iconst 4, 1) := by decide +kernel
theorem dX12_glue_49 : decode cX12_glue 49 = .ok (.iload_n 1, 1) := by decide +kernel
theorem dX12_glue_50 : decode cX12_glue 50 = .ok (.imul, 1) := by decide +kernel
theorem dX12_glue_51 : decode cX12_glue 51 = .ok (.iload_n 2, 1) := by decide +kernel
theorem dX12_glue_52 : decode cX12_glue 52 = .ok (.iadd, 1) := by decide +kernel
theorem dX12_glue_53 : decode cX12_glue 53 = .ok (.iconst 4, 1) := by decide +kernel
theorem dX12_glue_54 : decode cX12_glue 54 = .ok (.iload_n 3, 1) := by decide +kernel
theorem dX12_glue_55 : decode cX12_glue 55 = .ok (.imul, 1) := by decide +kernel
theorem dX12_glue_56 : decode cX12_glue 56 = .ok (.iload 4, 2) := by decide +kernel
theorem dX12_glue_58 : decode cX12_glue 58 = .ok (.iadd, 1) := by decide +kernel
theorem dX12_glue_59 : decode cX12_glue 59 = .ok (.invokevirtual 219, 3) := by decide +kernel
theorem dX12_glue_62 : decode cX12_glue 62 = .ok (.ifCond .ne 6, 3) := by decide +kernel
theorem dX12_glue_65 : decode cX12_glue 65 = .ok (.ldc 222, 2) := by decide +kernel
theorem dX12_glue_67 : decode cX12_glue 67 = .ok (.ireturn, 1) := by decide +kernel
theorem dX12_glue_68 : decode cX12_glue 68 = .ok (.aload_n 0, 1) := by decide +kernel
theorem dX12_glue_69 : decode cX12_glue 69 = .ok (.invokevirtual 213, 3) := by decide +kernel
theorem dX12_glue_72 : decode cX12_glue 72 = .ok (.aload_n 0, 1) := by decide +kernel
theorem dX12_glue_73 : decode cX12_glue 73 = .ok (.iconst 4, 1) := by decide +kernel
theorem dX12_glue_74 : decode cX12_glue 74 = .ok (.iload_n 1, 1) := by decide +kernel
theorem dX12_glue_75 : decode cX12_glue 75 = .ok (.imul, 1) := by decide +kernel
theorem dX12_glue_76 : decode cX12_glue 76 = .ok (.iload_n 2, 1) := by decide +kernel
theorem dX12_glue_77 : decode cX12_glue 77 = .ok (.iadd, 1) := by decide +kernel
theorem dX12_glue_78 : decode cX12_glue 78 = .ok (.iconst 4, 1) := by decide +kernel
theorem dX12_glue_79 : decode cX12_glue 79 = .ok (.iload_n 3, 1) := by decide +kernel
theorem dX12_glue_80 : decode cX12_glue 80 = .ok (.imul, 1) := by decide +kernel
theorem dX12_glue_81 : decode cX12_glue 81 = .ok (.iload 4, 2) := by decide +kernel
theorem dX12_glue_83 : decode cX12_glue 83 = .ok (.iadd, 1) := by decide +kernel
theorem dX12_glue_84 : decode cX12_glue 84 = .ok (.iload 5, 2) := by decide +kernel
theorem dX12_glue_86 : decode cX12_glue 86 = .ok (.invokevirtual 223, 3) := by decide +kernel
theorem dX12_glue_89 : decode cX12_glue 89 = .ok (.aload_n 0, 1) := by decide +kernel
theorem dX12_glue_90 : decode cX12_glue 90 = .ok (.invokevirtual 156, 3) := by decide +kernel
theorem dX12_glue_93 : decode cX12_glue 93 = .ok (.ireturn, 1) := by decide +kernel
theorem dX12_free_0 : decode cX12_free 0 = .ok (.aload_n 0, 1) := by decide +kernel
theorem dX12_free_1 : decode cX12_free 1 = .ok (.iload_n 1, 1) := by decide +kernel
theorem dX12_free_2 : decode cX12_free 2 = .ok (.invokevirtual 191, 3) := by decide +kernel
theorem dX12_free_5 : decode cX12_free 5 = .ok (.ifCond .eq 10, 3) := by decide +kernel
theorem dX12_free_8 : decode cX12_free 8 = .ok (.iload_n 2, 1) := by decide +kernel
theorem dX12_free_9 : decode cX12_free 9 = .ok (.invokestatic 194, 3) := by decide +kernel
theorem dX12_free_12 : decode cX12_free 12 = .ok (.ifCond .ne 6, 3) := by decide +kernel
theorem dX12_free_15 : decode cX12_free 15 = .ok (.ldc 197, 2) := by decide +kernel
theorem dX12_free_17 : decode cX12_free 17 = .ok (.ireturn, 1) := by decide +kernel
theorem dX12_free_18 : decode cX12_free 18 = .ok (.iconst 4, 1) := by decide +kernel
theorem dX12_free_19 : decode cX12_free 19 = .ok (.iload_n 1, 1) := by decide +kernel
theorem dX12_free_20 : decode cX12_free 20 = .ok (.imul, 1) := by decide +kernel
theorem dX12_free_21 : decode cX12_free 21 = .ok (.iload_n 2, 1) := by decide +kernel
theorem dX12_free_22 : decode cX12_free 22 = .ok (.iadd, 1) := by decide +kernel
theorem dX12_free_23 : decode cX12_free 23 = .ok (.istore_n 3, 1) := by decide +kernel
theorem dX12_free_24 : decode cX12_free 24 = .ok (.aload_n 0, 1) := by decide +kernel
theorem dX12_free_25 : decode cX12_free 25 = .ok (.iload_n 3, 1) := by decide +kernel
theorem dX12_free_26 : decode cX12_free 26 = .ok (.invokevirtual 52, 3) := by decide +kernel
theorem dX12_free_29 : decode cX12_free 29 = .ok (.ifCond .eq 6, 3) := by decide +kernel
theorem dX12_free_32 : decode cX12_free 32 = .ok (.ldc 222, 2) := by decide +kernel
theorem dX12_free_34 : decode cX12_free 34 = .ok (.ireturn, 1) := by decide +kernel
theorem dX12_free_35 : decode cX12_free 35 = .ok (.aload_n 0, 1) := by decide +kernel
theorem dX12_free_36 : decode cX12_free 36 = .ok (.invokevirtual 213, 3) := by decide +kernel
theorem dX12_free_39 : decode cX12_free 39 = .ok (.aload_n 0, 1) := by decide +kernel
theorem dX12_free_40 : decode cX12_free 40 = .ok (.getfield 7, 3) := by decide +kernel
theorem dX12_free_43 : decode cX12_free 43 = .ok (.iconst 2, 1) := by decide +kernel
theorem dX12_free_44 : decode cX12_free 44 = .ok (.iload_n 3, 1) := by decide +kernel
theorem dX12_free_45 : decode cX12_free 45 = .ok (.iadd, 1) := by decide +kernel
theorem dX12_free_46 : decode cX12_free 46 = .ok (.iaload, 1) := by decide +kernel
theorem dX12_free_47 : decode cX12_free 47 = .ok (.istore 4, 2) := by decide +kernel
theorem dX12_free_49 : decode cX12_free 49 = .ok (.aload_n 0, 1) := by decide +kernel
theorem dX12_free_50 : decode cX12_free 50 = .ok (.getfield 7, 3) := by decide +kernel
theorem dX12_free_53 : decode cX12_free 53 = .ok (.iconst 2, 1) := by decide +kernel
theorem dX12_free_54 : decode cX12_free 54 = .ok (.iload_n 3, 1) := by decide +kernel
theorem dX12_free_55 : decode cX12_free 55 = .ok (.iadd, 1) := by decide +kernel
theorem dX12_free_56 : decode cX12_free 56 = .ok (.iconst (-1), 1) := by decide +kernel
theorem dX12_free_57 : decode cX12_free 57 = .ok (.iastore, 1) := by decide +kernel
theorem dX12_free_58 : decode cX12_free 58 = .ok (.aload_n 0, 1) := by decide +kernel
theorem dX12_free_59 : decode cX12_free 59 = .ok (.getfield 7, 3) := by decide +kernel
theorem dX12_free_62 : decode cX12_free 62 = .ok (.bipush 14, 2) := by decide +kernel
theorem dX12_free_64 : decode cX12_free 64 = .ok (.iload_n 3, 1) := by decide +kernel
theorem dX12_free_65 : decode cX12_free 65 = .ok (.iadd, 1) := by decide +kernel
theorem dX12_free_66 : decode cX12_free 66 = .ok (.iconst (-1), 1) := by decide +kernel
theorem dX12_free_67 : decode cX12_free 67 = .ok (.iastore, 1) := by decide +kernel
theorem dX12_free_68 : decode cX12_free 68 = .ok (.aload_n 0, 1) := by decide +kernel
theorem dX12_free_69 : decode cX12_free 69 = .ok (.getfield 7, 3) := by decide +kernel
theorem dX12_free_72 : decode cX12_free 72 = .ok (.iconst 2, 1) := by decide +kernel
theorem dX12_free_73 : decode cX12_free 73 = .ok (.iload 4, 2) := by decide +kernel
theorem dX12_free_75 : decode cX12_free 75 = .ok (.iadd, 1) := by decide +kernel
theorem dX12_free_76 : decode cX12_free 76 = .ok (.iconst (-1), 1) := by decide +kernel
theorem dX12_free_77 : decode cX12_free 77 = .ok (.iastore, 1) := by decide +kernel
theorem dX12_free_78 : decode cX12_free 78 = .ok (.aload_n 0, 1) := by decide +kernel
theorem dX12_free_79 : decode cX12_free 79 = .ok (.getfield 7, 3) := by decide +kernel
theorem dX12_free_82 : decode cX12_free 82 = .ok (.bipush 14, 2) := by decide +kernel
theorem dX12_free_84 : decode cX12_free 84 = .ok (.iload 4, 2) := by decide +kernel
theorem dX12_free_86 : decode cX12_free 86 = .ok (.iadd, 1) := by decide +kernel
theorem dX12_free_87 : decode cX12_free 87 = .ok (.iconst (-1), 1) := by decide +kernel
theorem dX12_free_88 : decode cX12_free 88 = .ok (.iastore, 1) := by decide +kernel
theorem dX12_free_89 : decode cX12_free 89 = .ok (.aload_n 0, 1) := by decide +kernel
theorem dX12_free_90 : decode cX12_free 90 = .ok (.getfield 7, 3) := by decide +kernel
theorem dX12_free_93 : decode cX12_free 93 = .ok (.iconst 1, 1) := by decide +kernel
theorem dX12_free_94 : decode cX12_free 94 = .ok (.iconst 0, 1) := by decide +kernel
theorem dX12_free_95 : decode cX12_free 95 = .ok (.iastore, 1) := by decide +kernel
theorem dX12_free_96 : decode cX12_free 96 = .ok (.aload_n 0, 1) := by decide +kernel
theorem dX12_free_97 : decode cX12_free 97 = .ok (.invokevirtual 156, 3) := by decide +kernel
theorem dX12_free_100 : decode cX12_free 100 = .ok (.ireturn, 1) := by decide +kernel
theorem dX12_newSurface_0 : decode cX12_newSurface 0 = .ok (.aload_n 0, 1) := by decide +kernel
theorem dX12_newSurface_1 : decode cX12_newSurface 1 = .ok (.getfield 7, 3) := by decide +kernel
theorem dX12_newSurface_4 : decode cX12_newSurface 4 = .ok (.iconst 1, 1) := by decide +kernel
theorem dX12_newSurface_5 : decode cX12_newSurface 5 = .ok (.iaload, 1) := by decide +kernel
theorem dX12_newSurface_6 : decode cX12_newSurface 6 = .ok (.invokestatic 169, 3) := by decide +kernel
theorem dX12_newSurface_9 : decode cX12_newSurface 9 = .ok (.istore_n 1, 1) := by decide +kernel
theorem dX12_newSurface_10 : decode cX12_newSurface 10 = .ok (.iconst 0, 1) := by decide +kernel
theorem dX12_newSurface_11 : decode cX12_newSurface 11 = .ok (.istore_n 2, 1) := by decide +kernel
theorem dX12_newSurface_12 : decode cX12_newSurface 12 = .ok (.iload_n 2, 1) := by decide +kernel
theorem dX12_newSurface_13 : decode cX12_newSurface 13 = .ok (.bipush 21, 2) := by decide +kernel
theorem dX12_newSurface_15 : decode cX12_newSurface 15 = .ok (.if_icmp .ge 18, 3) := by decide +kernel
theorem dX12_newSurface_18 : decode cX12_newSurface 18 = .ok (.aload_n 0, 1) := by decide +kernel
theorem dX12_newSurface_19 : decode cX12_newSurface 19 = .ok (.getfield 7, 3) := by decide +kernel
theorem dX12_newSurface_22 : decode cX12_newSurface 22 = .ok (.iload_n 1, 1) := by decide +kernel
theorem dX12_newSurface_23 : decode cX12_newSurface 23 = .ok (.iload_n 2, 1) := by decide +kernel
theorem dX12_newSurface_24 : decode cX12_newSurface 24 = .ok (.iadd, 1) := by decide +kernel
theorem dX12_newSurface_25 : decode cX12_newSurface 25 = .ok (.iconst 0, 1) := by decide +kernel
theorem dX12_newSurface_26 : decode cX12_newSurface 26 = .ok (.iastore, 1) := by decide +kernel
theorem dX12_newSurface_27 : decode cX12_newSurface 27 = .ok (.iinc 2 1, 3) := by decide +kernel
theorem dX12_newSurface_30 : decode cX12_newSurface 30 = .ok (.goto (-18), 3) := by decide +kernel
theorem dX12_newSurface_33 : decode cX12_newSurface 33 = .ok (.aload_n 0, 1) := by decide +kernel
theorem dX12_newSurface_34 : decode cX12_newSurface 34 = .ok (.getfield 7, 3) := by decide +kernel
theorem dX12_newSurface_37 : decode cX12_newSurface 37 = .ok (.iconst 1, 1) := by decide +kernel
theorem dX12_newSurface_38 : decode cX12_newSurface 38 = .ok (.dup2, 1) := by decide +kernel
theorem dX12_newSurface_39 : decode cX12_newSurface 39 = .ok (.iaload, 1) := by decide +kernel
theorem dX12_newSurface_40 : decode cX12_newSurface 40 = .ok (.iconst 1, 1) := by decide +kernel
theorem dX12_newSurface_41 : decode cX12_newSurface 41 = .ok (.iadd, 1) := by decide +kernel
theorem dX12_newSurface_42 : decode cX12_newSurface 42 = .ok (.iastore, 1) := by decide +kernel
theorem dX12_newSurface_43 : decode cX12_newSurface 43 = .ok (.iload_n 1, 1) := by decide +kernel
theorem dX12_newSurface_44 : decode cX12_newSurface 44 = .ok (.ireturn, 1) := by decide +kernel
theorem dX12_put_0 : decode cX12_put 0 = .ok (.aload_n 0, 1) := by decide +kernel
theorem dX12_put_1 : decode cX12_put 1 = .ok (.getfield 7, 3) := by decide +kernel
theorem dX12_put_4 : decode cX12_put 4 = .ok (.iconst 1, 1) := by decide +kernel
theorem dX12_put_5 : decode cX12_put 5 = .ok (.iaload, 1) := by decide +kernel
theorem dX12_put_6 : decode cX12_put 6 = .ok (.bipush 6, 2) := by decide +kernel
theorem dX12_put_8 : decode cX12_put 8 = .ok (.if_icmp .ne 6, 3) := by decide +kernel
theorem dX12_put_11 : decode cX12_put 11 = .ok (.ldc 226, 2) := by decide +kernel
theorem dX12_put_13 : decode cX12_put 13 = .ok (.ireturn, 1) := by decide +kernel
theorem dX12_put_14 : decode cX12_put 14 = .ok (.aload_n 0, 1) := by decide +kernel
theorem dX12_put_15 : decode cX12_put 15 = .ok (.invokevirtual 213, 3) := by decide +kernel
theorem dX12_put_18 : decode cX12_put 18 = .ok (.aload_n 0, 1) := by decide +kernel
theorem dX12_put_19 : decode cX12_put 19 = .ok (.invokevirtual 227, 3) := by decide +kernel
theorem dX12_put_22 : decode cX12_put 22 = .ok (.istore_n 1, 1) := by decide +kernel
theorem dX12_put_23 : decode cX12_put 23 = .ok (.iload_n 1, 1) := by decide +kernel
theorem dX12_put_24 : decode cX12_put 24 = .ok (.bipush 26, 2) := by decide +kernel
theorem dX12_put_26 : decode cX12_put 26 = .ok (.isub, 1) := by decide +kernel
theorem dX12_put_27 : decode cX12_put 27 = .ok (.bipush 21, 2) := by decide +kernel
theorem dX12_put_29 : decode cX12_put 29 = .ok (.idiv, 1) := by decide +kernel
theorem dX12_put_30 : decode cX12_put 30 = .ok (.ireturn, 1) := by decide +kernel
theorem dX12_piece_0 : decode cX12_piece 0 = .ok (.aload_n 0, 1) := by decide +kernel
theorem dX12_piece_1 : decode cX12_piece 1 = .ok (.iload_n 1, 1) := by decide +kernel
theorem dX12_piece_2 : decode cX12_piece 2 = .ok (.invokevirtual 172, 3) := by decide +kernel
theorem dX12_piece_5 : decode cX12_piece 5 = .ok (.ifCond .eq 11, 3) := by decide +kernel
theorem dX12_piece_8 : decode cX12_piece 8 = .ok (.aload_n 0, 1) := by decide +kernel
theorem dX12_piece_9 : decode cX12_piece 9 = .ok (.iload_n 2, 1) := by decide +kernel
theorem dX12_piece_10 : decode cX12_piece 10 = .ok (.invokevirtual 191, 3) := by decide +kernel
theorem dX12_piece_13 : decode cX12_piece 13 = .ok (.ifCond .ne 6, 3) := by decide +kernel
theorem dX12_piece_16 : decode cX12_piece 16 = .ok (.ldc 197, 2) := by decide +kernel
theorem dX12_piece_18 : decode cX12_piece 18 = .ok (.ireturn, 1) := by decide +kernel
theorem dX12_piece_19 : decode cX12_piece 19 = .ok (.iload_n 3, 1) := by decide +kernel
theorem dX12_piece_20 : decode cX12_piece 20 = .ok (.iconst 0, 1) := by decide +kernel
theorem dX12_piece_21 : decode cX12_piece 21 = .ok (.bipush 6, 2) := by decide +kernel
theorem dX12_piece_23 : decode cX12_piece 23 = .ok (.invokestatic 40, 3) := by decide +kernel
theorem dX12_piece_26 : decode cX12_piece 26 = .ok (.ifCond .eq 14, 3) := by decide +kernel
theorem dX12_piece_29 : decode cX12_piece 29 = .ok (.iload 4, 2) := by decide +kernel
theorem dX12_piece_31 : decode cX12_piece 31 = .ok (.iconst 0, 1) := by decide +kernel
theorem dX12_piece_32 : decode cX12_piece 32 = .ok (.bipush 20, 2) := by decide +kernel
theorem dX12_piece_34 : decode cX12_piece 34 = .ok (.invokestatic 40, 3) := by decide +kernel
theorem dX12_piece_37 : decode cX12_piece 37 = .ok (.ifCond .ne 6, 3) := by decide +kernel
theorem dX12_piece_40 : decode cX12_piece 40 = .ok (.ldc 190, 2) := by decide +kernel
theorem dX12_piece_42 : decode cX12_piece 42 = .ok (.ireturn, 1) := by decide +kernel
theorem dX12_piece_43 : decode cX12_piece 43 = .ok (.aload_n 0, 1) := by decide +kernel
theorem dX12_piece_44 : decode cX12_piece 44 = .ok (.invokevirtual 213, 3) := by decide +kernel
theorem dX12_piece_47 : decode cX12_piece 47 = .ok (.iload_n 1, 1) := by decide +kernel
theorem dX12_piece_48 : decode cX12_piece 48 = .ok (.invokestatic 169, 3) := by decide +kernel
theorem dX12_piece_51 : decode cX12_piece 51 = .ok (.bipush 7, 2) := by decide +kernel
theorem dX12_piece_53 : decode cX12_piece 53 = .ok (.iload_n 2, 1) := by decide +kernel
theorem dX12_piece_54 : decode cX12_piece 54 = .ok (.imul, 1) := by decide +kernel
theorem dX12_piece_55 : decode cX12_piece 55 = .ok (.iadd, 1) := by decide +kernel
theorem dX12_piece_56 : decode cX12_piece 56 = .ok (.iload_n 3, 1) := by decide +kernel
theorem dX12_piece_57 : decode cX12_piece 57 = .ok (.iadd, 1) := by decide +kernel
theorem dX12_piece_58 : decode cX12_piece 58 = .ok (.istore 5, 2) := by decide +kernel
theorem dX12_piece_60 : decode cX12_piece 60 = .ok (.aload_n 0, 1) := by decide +kernel
theorem dX12_piece_61 : decode cX12_piece 61 = .ok (.getfield 7, 3) := by decide +kernel
theorem dX12_piece_64 : decode cX12_piece 64 = .ok (.iload 5, 2) := by decide +kernel
theorem dX12_piece_66 : decode cX12_piece 66 = .ok (.iaload, 1) := by decide +kernel
theorem dX12_piece_67 : decode cX12_piece 67 = .ok (.istore 6, 2) := by decide +kernel
theorem dX12_piece_69 : decode cX12_piece 69 = .ok (.aload_n 0, 1) := by decide +kernel
theorem dX12_piece_70 : decode cX12_piece 70 = .ok (.getfield 7, 3) := by decide +kernel
theorem dX12_piece_73 : decode cX12_piece 73 = .ok (.iload 5, 2) := by decide +kernel
theorem dX12_piece_75 : decode cX12_piece 75 = .ok (.iload 4, 2) := by decide +kernel
theorem dX12_piece_77 : decode cX12_piece 77 = .ok (.iastore, 1) := by decide +kernel
theorem dX12_piece_78 : decode cX12_piece 78 = .ok (.iload 6, 2) := by decide +kernel
theorem dX12_piece_80 : decode cX12_piece 80 = .ok (.ireturn, 1) := by decide +kernel
theorem dX12_about_0 : decode cX12_about 0 = .ok (.iload_n 1, 1) := by decide +kernel
theorem dX12_about_1 : decode cX12_about 1 = .ok (.iconst 0, 1) := by decide +kernel
theorem dX12_about_2 : decode cX12_about 2 = .ok (.aload_n 0, 1) := by decide +kernel
theorem dX12_about_3 : decode cX12_about 3 = .ok (.invokevirtual 159, 3) := by decide +kernel
theorem dX12_about_6 : decode cX12_about 6 = .ok (.iconst 1, 1) := by decide +kernel
theorem dX12_about_7 : decode cX12_about 7 = .ok (.isub, 1) := by decide +kernel
theorem dX12_about_8 : decode cX12_about 8 = .ok (.invokestatic 40, 3) := by decide +kernel
theorem dX12_about_11 : decode cX12_about 11 = .ok (.ifCond .ne 6, 3) := by decide +kernel
theorem dX12_about_14 : decode cX12_about 14 = .ok (.ldc 197, 2) := by decide +kernel
theorem dX12_about_16 : decode cX12_about 16 = .ok (.ireturn, 1) := by decide +kernel
theorem dX12_about_17 : decode cX12_about 17 = .ok (.aload_n 0, 1) := by decide +kernel
theorem dX12_about_18 : decode cX12_about 18 = .ok (.getfield 7, 3) := by decide +kernel
theorem dX12_about_21 : decode cX12_about 21 = .ok (.iconst 1, 1) := by decide +kernel
theorem dX12_about_22 : decode cX12_about 22 = .ok (.iaload, 1) := by decide +kernel
theorem dX12_about_23 : decode cX12_about 23 = .ok (.bipush 6, 2) := by decide +kernel
theorem dX12_about_25 : decode cX12_about 25 = .ok (.if_icmp .ne 6, 3) := by decide +kernel
theorem dX12_about_28 : decode cX12_about 28 = .ok (.ldc 226, 2) := by decide +kernel
theorem dX12_about_30 : decode cX12_about 30 = .ok (.ireturn, 1) := by decide +kernel
theorem dX12_about_31 : decode cX12_about 31 = .ok (.aload_n 0, 1) := by decide +kernel
theorem dX12_about_32 : decode cX12_about 32 = .ok (.invokevirtual 213, 3) := by decide +kernel
theorem dX12_about_35 : decode cX12_about 35 = .ok (.aload_n 0, 1) := by decide +kernel
theorem dX12_about_36 : decode cX12_about 36 = .ok (.invokevirtual 227, 3) := by decide +kernel
theorem dX12_about_39 : decode cX12_about 39 = .ok (.istore_n 2, 1) := by decide +kernel
theorem dX12_about_40 : decode cX12_about 40 = .ok (.aload_n 0, 1) := by decide +kernel
theorem dX12_about_41 : decode cX12_about 41 = .ok (.invokevirtual 96, 3) := by decide +kernel
theorem dX12_about_44 : decode cX12_about 44 = .ok (.iconst 0, 1) := by decide +kernel
theorem dX12_about_45 : decode cX12_about 45 = .ok (.istore_n 3, 1) := by decide +kernel
theorem dX12_about_46 : decode cX12_about 46 = .ok (.iload_n 3, 1) := by decide +kernel
theorem dX12_about_47 : decode cX12_about 47 = .ok (.aload_n 0, 1) := by decide +kernel
theorem dX12_about_48 : decode cX12_about 48 = .ok (.invokevirtual 48, 3) := by decide +kernel
theorem dX12_about_51 : decode cX12_about 51 = .ok (.if_icmp .ge 37, 3) := by decide +kernel
theorem dX12_about_54 : decode cX12_about 54 = .ok (.aload_n 0, 1) := by decide +kernel
theorem dX12_about_55 : decode cX12_about 55 = .ok (.getfield 22, 3) := by decide +kernel
theorem dX12_about_58 : decode cX12_about 58 = .ok (.iload_n 3, 1) := by decide +kernel
theorem dX12_about_59 : decode cX12_about 59 = .ok (.iaload, 1) := by decide +kernel
theorem dX12_about_60 : decode cX12_about 60 = .ok (.iload_n 3, 1) := by decide +kernel
theorem dX12_about_61 : decode cX12_about 61 = .ok (.if_icmp .ne 21, 3) := by decide +kernel
theorem dX12_about_64 : decode cX12_about 64 = .ok (.aload_n 0, 1) := by decide +kernel
theorem dX12_about_65 : decode cX12_about 65 = .ok (.getfield 22, 3) := by decide +kernel
theorem dX12_about_68 : decode cX12_about 68 = .ok (.iload_n 3, 1) := by decide +kernel
theorem dX12_about_69 : decode cX12_about 69 = .ok (.invokestatic 149, 3) := by decide +kernel
theorem dX12_about_72 : decode cX12_about 72 = .ok (.iload_n 1, 1) := by decide +kernel
theorem dX12_about_73 : decode cX12_about 73 = .ok (.if_icmp .ne 9, 3) := by decide +kernel
theorem dX12_about_76 : decode cX12_about 76 = .ok (.aload_n 0, 1) := by decide +kernel
theorem dX12_about_77 : decode cX12_about 77 = .ok (.iload_n 3, 1) := by decide +kernel
theorem dX12_about_78 : decode cX12_about 78 = .ok (.iload_n 2, 1) := by decide +kernel
theorem dX12_about_79 : decode cX12_about 79 = .ok (.invokevirtual 142, 3) := by decide +kernel
theorem dX12_about_82 : decode cX12_about 82 = .ok (.iinc 3 1, 3) := by decide +kernel
theorem dX12_about_85 : decode cX12_about 85 = .ok (.goto (-39), 3) := by decide +kernel
theorem dX12_about_88 : decode cX12_about 88 = .ok (.aload_n 0, 1) := by decide +kernel
theorem dX12_about_89 : decode cX12_about 89 = .ok (.getfield 7, 3) := by decide +kernel
theorem dX12_about_92 : decode cX12_about 92 = .ok (.iconst 1, 1) := by decide +kernel
theorem dX12_about_93 : decode cX12_about 93 = .ok (.iaload, 1) := by decide +kernel
theorem dX12_about_94 : decode cX12_about 94 = .ok (.iconst 1, 1) := by decide +kernel
theorem dX12_about_95 : decode cX12_about 95 = .ok (.isub, 1) := by decide +kernel
theorem dX12_about_96 : decode cX12_about 96 = .ok (.ireturn, 1) := by decide +kernel
theorem dX12_add_0 : decode cX12_add 0 = .ok (.aload_n 0, 1) := by decide +kernel
theorem dX12_add_1 : decode cX12_add 1 = .ok (.iload_n 1, 1) := by decide +kernel
theorem dX12_add_2 : decode cX12_add 2 = .ok (.invokevirtual 172, 3) := by decide +kernel
theorem dX12_add_5 : decode cX12_add 5 = .ok (.ifCond .eq 11, 3) := by decide +kernel
theorem dX12_add_8 : decode cX12_add 8 = .ok (.aload_n 0, 1) := by decide +kernel
theorem dX12_add_9 : decode cX12_add 9 = .ok (.iload_n 2, 1) := by decide +kernel
theorem dX12_add_10 : decode cX12_add 10 = .ok (.invokevirtual 172, 3) := by decide +kernel
theorem dX12_add_13 : decode cX12_add 13 = .ok (.ifCond .ne 6, 3) := by decide +kernel
theorem dX12_add_16 : decode cX12_add 16 = .ok (.ldc 197, 2) := by decide +kernel
theorem dX12_add_18 : decode cX12_add 18 = .ok (.ireturn, 1) := by decide +kernel
theorem dX12_add_19 : decode cX12_add 19 = .ok (.aload_n 0, 1) := by decide +kernel
theorem dX12_add_20 : decode cX12_add 20 = .ok (.getfield 7, 3) := by decide +kernel
theorem dX12_add_23 : decode cX12_add 23 = .ok (.iconst 1, 1) := by decide +kernel
theorem dX12_add_24 : decode cX12_add 24 = .ok (.iaload, 1) := by decide +kernel
theorem dX12_add_25 : decode cX12_add 25 = .ok (.bipush 6, 2) := by decide +kernel
theorem dX12_add_27 : decode cX12_add 27 = .ok (.if_icmp .ne 6, 3) := by decide +kernel
theorem dX12_add_30 : decode cX12_add 30 = .ok (.ldc 226, 2) := by decide +kernel
theorem dX12_add_32 : decode cX12_add 32 = .ok (.ireturn, 1) := by decide +kernel
theorem dX12_add_33 : decode cX12_add 33 = .ok (.iconst 1, 1) := by decide +kernel
theorem dX12_add_34 : decode cX12_add 34 = .ok (.istore_n 3, 1) := by decide +kernel
theorem dX12_add_35 : decode cX12_add 35 = .ok (.iconst 0, 1) := by decide +kernel
theorem dX12_add_36 : decode cX12_add 36 = .ok (.istore 4, 2) := by decide +kernel
theorem dX12_add_38 : decode cX12_add 38 = .ok (.iload 4, 2) := by decide +kernel
theorem dX12_add_40 : decode cX12_add 40 = .ok (.bipush 21, 2) := by decide +kernel
theorem dX12_add_42 : decode cX12_add 42 = .ok (.if_icmp .ge 84, 3) := by decide +kernel
theorem dX12_add_45 : decode cX12_add 45 = .ok (.iload 4, 2) := by decide +kernel
theorem dX12_add_47 : decode cX12_add 47 = .ok (.bipush 7, 2) := by decide +kernel
theorem dX12_add_49 : decode cX12_add 49 = .ok (.aload_n 0, 1) := by decide +kernel
theorem dX12_add_50 : decode cX12_add 50 = .ok (.getfield 7, 3) := by decide +kernel
theorem dX12_add_53 : decode cX12_add 53 = .ok (.iconst 0, 1) := by decide +kernel
theorem dX12_add_54 : decode cX12_add 54 = .ok (.iaload, 1) := by decide +kernel
theorem dX12_add_55 : decode cX12_add 55 = .ok (.imul, 1) := by decide +kernel
theorem dX12_add_56 : decode cX12_add 56 = .ok (.if_icmp .ge 31, 3) := by decide +kernel
theorem dX12_add_59 : decode cX12_add 59 = .ok (.aload_n 0, 1) := by decide +kernel
theorem dX12_add_60 : decode cX12_add 60 = .ok (.getfield 7, 3) := by decide +kernel
theorem dX12_add_63 : decode cX12_add 63 = .ok (.iload_n 1, 1) := by decide +kernel
theorem dX12_add_64 : decode cX12_add 64 = .ok (.invokestatic 169, 3) := by decide +kernel
theorem dX12_add_67 : decode cX12_add 67 = .ok (.iload 4, 2) := by decide +kernel
theorem dX12_add_69 : decode cX12_add 69 = .ok (.iadd, 1) := by decide +kernel
theorem dX12_add_70 : decode cX12_add 70 = .ok (.iaload, 1) := by decide +kernel
theorem dX12_add_71 : decode cX12_add 71 = .ok (.aload_n 0, 1) := by decide +kernel
theorem dX12_add_72 : decode cX12_add 72 = .ok (.getfield 7, 3) := by decide +kernel
theorem dX12_add_75 : decode cX12_add 75 = .ok (.iload_n 2, 1) := by decide +kernel
theorem dX12_add_76 : decode cX12_add 76 = .ok (.invokestatic 169, 3) := by decide +kernel
theorem dX12_add_79 : decode cX12_add 79 = .ok (.iload 4, 2) := by decide +kernel
theorem dX12_add_81 : decode cX12_add 81 = .ok (.iadd, 1) := by decide +kernel
theorem dX12_add_82 : decode cX12_add 82 = .ok (.iaload, 1) := by decide +kernel
theorem dX12_add_83 : decode cX12_add 83 = .ok (.iadd, 1) := by decide +kernel
theorem dX12_add_84 : decode cX12_add 84 = .ok (.goto 4, 3) := by decide +kernel
theorem dX12_add_87 : decode cX12_add 87 = .ok (.iconst 0, 1) := by decide +kernel
theorem dX12_add_88 : decode cX12_add 88 = .ok (.istore 5, 2) := by decide +kernel
theorem dX12_add_90 : decode cX12_add 90 = .ok (.aload_n 0, 1) := by decide +kernel
theorem dX12_add_91 : decode cX12_add 91 = .ok (.getfield 7, 3) := by decide +kernel
theorem dX12_add_94 : decode cX12_add 94 = .ok (.sipush 2888, 3) := by decide +kernel
theorem dX12_add_97 : decode cX12_add 97 = .ok (.iload 4, 2) := by decide +kernel
theorem dX12_add_99 : decode cX12_add 99 = .ok (.iadd, 1) := by decide +kernel
theorem dX12_add_100 : decode cX12_add 100 = .ok (.iload 5, 2) := by decide +kernel
theorem dX12_add_102 : decode cX12_add 102 = .ok (.iastore, 1) := by decide +kernel
theorem dX12_add_103 : decode cX12_add 103 = .ok (.iload_n 3, 1) := by decide +kernel
theorem dX12_add_104 : decode cX12_add 104 = .ok (.ifCond .eq 14, 3) := by decide +kernel
theorem dX12_add_107 : decode cX12_add 107 = .ok (.iload 5, 2) := by decide +kernel
theorem dX12_add_109 : decode cX12_add 109 = .ok (.bipush 20, 2) := by decide +kernel
theorem dX12_add_111 : decode cX12_add 111 = .ok (.if_icmp .gt 7, 3) := by decide +kernel
theorem dX12_add_114 : decode cX12_add 114 = .ok (.iconst 1, 1) := by decide +kernel
theorem dX12_add_115 : decode cX12_add 115 = .ok (.goto 4, 3) := by decide +kernel
theorem dX12_add_118 : decode cX12_add 118 = .ok (.iconst 0, 1) := by decide +kernel
theorem dX12_add_119 : decode cX12_add 119 = .ok (.istore_n 3, 1) := by decide +kernel
theorem dX12_add_120 : decode cX12_add 120 = .ok (.iinc 4 1, 3) := by decide +kernel
theorem dX12_add_123 : decode cX12_add 123 = .ok (.goto (-85), 3) := by decide +kernel
theorem dX12_add_126 : decode cX12_add 126 = .ok (.iload_n 3, 1) := by decide +kernel
theorem dX12_add_127 : decode cX12_add 127 = .ok (.ifCond .eq 13, 3) := by decide +kernel
theorem dX12_add_130 : decode cX12_add 130 = .ok (.aload_n 0, 1) := by decide +kernel
theorem dX12_add_131 : decode cX12_add 131 = .ok (.sipush 2888, 3) := by decide +kernel
theorem dX12_add_134 : decode cX12_add 134 = .ok (.invokevirtual 90, 3) := by decide +kernel
theorem dX12_add_137 : decode cX12_add 137 = .ok (.ifCond .eq 6, 3) := by decide +kernel
theorem dX12_add_140 : decode cX12_add 140 = .ok (.ldc 222, 2) := by decide +kernel
theorem dX12_add_142 : decode cX12_add 142 = .ok (.ireturn, 1) := by decide +kernel
theorem dX12_add_143 : decode cX12_add 143 = .ok (.aload_n 0, 1) := by decide +kernel
theorem dX12_add_144 : decode cX12_add 144 = .ok (.invokevirtual 213, 3) := by decide +kernel
theorem dX12_add_147 : decode cX12_add 147 = .ok (.aload_n 0, 1) := by decide +kernel
theorem dX12_add_148 : decode cX12_add 148 = .ok (.invokevirtual 227, 3) := by decide +kernel
theorem dX12_add_151 : decode cX12_add 151 = .ok (.istore 4, 2) := by decide +kernel
theorem dX12_add_153 : decode cX12_add 153 = .ok (.iconst 0, 1) := by decide +kernel
theorem dX12_add_154 : decode cX12_add 154 = .ok (.istore 5, 2) := by decide +kernel
theorem dX12_add_156 : decode cX12_add 156 = .ok (.iload 5, 2) := by decide +kernel
theorem dX12_add_158 : decode cX12_add 158 = .ok (.bipush 21, 2) := by decide +kernel
theorem dX12_add_160 : decode cX12_add 160 = .ok (.if_icmp .ge 30, 3) := by decide +kernel
theorem dX12_add_163 : decode cX12_add 163 = .ok (.aload_n 0, 1) := by decide +kernel
theorem dX12_add_164 : decode cX12_add 164 = .ok (.getfield 7, 3) := by decide +kernel
theorem dX12_add_167 : decode cX12_add 167 = .ok (.iload 4, 2) := by decide +kernel
theorem dX12_add_169 : decode cX12_add 169 = .ok (.iload 5, 2) := by decide +kernel
theorem dX12_add_171 : decode cX12_add 171 = .ok (.iadd, 1) := by decide +kernel
theorem dX12_add_172 : decode cX12_add 172 = .ok (.aload_n 0, 1) := by decide +kernel
theorem dX12_add_173 : decode cX12_add 173 = .ok (.getfield 7, 3) := by decide +kernel
theorem dX12_add_176 : decode cX12_add 176 = .ok (.sipush 2888, 3) := by decide +kernel
theorem dX12_add_179 : decode cX12_add 179 = .ok (.iload 5, 2) := by decide +kernel
theorem dX12_add_181 : decode cX12_add 181 = .ok (.iadd, 1) := by decide +kernel
theorem dX12_add_182 : decode cX12_add 182 = .ok (.iaload, 1) := by decide +kernel
theorem dX12_add_183 : decode cX12_add 183 = .ok (.iastore, 1) := by decide +kernel
theorem dX12_add_184 : decode cX12_add 184 = .ok (.iinc 5 1, 3) := by decide +kernel
theorem dX12_add_187 : decode cX12_add 187 = .ok (.goto (-31), 3) := by decide +kernel
theorem dX12_add_190 : decode cX12_add 190 = .ok (.aload_n 0, 1) := by decide +kernel
theorem dX12_add_191 : decode cX12_add 191 = .ok (.getfield 7, 3) := by decide +kernel
theorem dX12_add_194 : decode cX12_add 194 = .ok (.iconst 1, 1) := by decide +kernel
theorem dX12_add_195 : decode cX12_add 195 = .ok (.iaload, 1) := by decide +kernel
theorem dX12_add_196 : decode cX12_add 196 = .ok (.iconst 1, 1) := by decide +kernel
theorem dX12_add_197 : decode cX12_add 197 = .ok (.isub, 1) := by decide +kernel
theorem dX12_add_198 : decode cX12_add 198 = .ok (.ireturn, 1) := by decide +kernel
theorem dX12_take_0 : decode cX12_take 0 = .ok (.aload_n 0, 1) := by decide +kernel
theorem dX12_take_1 : decode cX12_take 1 = .ok (.iload_n 1, 1) := by decide +kernel
theorem dX12_take_2 : decode cX12_take 2 = .ok (.invokevirtual 172, 3) := by decide +kernel
theorem dX12_take_5 : decode cX12_take 5 = .ok (.ifCond .ne 6, 3) := by decide +kernel
theorem dX12_take_8 : decode cX12_take 8 = .ok (.ldc 197, 2) := by decide +kernel
theorem dX12_take_10 : decode cX12_take 10 = .ok (.ireturn, 1) := by decide +kernel
theorem dX12_take_11 : decode cX12_take 11 = .ok (.aload_n 0, 1) := by decide +kernel
theorem dX12_take_12 : decode cX12_take 12 = .ok (.invokevirtual 213, 3) := by decide +kernel
theorem dX12_take_15 : decode cX12_take 15 = .ok (.aload_n 0, 1) := by decide +kernel
theorem dX12_take_16 : decode cX12_take 16 = .ok (.getfield 7, 3) := by decide +kernel
theorem dX12_take_19 : decode cX12_take 19 = .ok (.iconst 1, 1) := by decide +kernel
theorem dX12_take_20 : decode cX12_take 20 = .ok (.dup2, 1) := by decide +kernel
theorem dX12_take_21 : decode cX12_take 21 = .ok (.iaload, 1) := by decide +kernel
theorem dX12_take_22 : decode cX12_take 22 = .ok (.iconst 1, 1) := by decide +kernel
theorem dX12_take_23 : decode cX12_take 23 = .ok (.isub, 1) := by decide +kernel
theorem dX12_take_24 : decode cX12_take 24 = .ok (.iastore, 1) := by decide +kernel
theorem dX12_take_25 : decode cX12_take 25 = .ok (.iload_n 1, 1) := by decide +kernel
theorem dX12_take_26 : decode cX12_take 26 = .ok (.invokestatic 169, 3) := by decide +kernel
theorem dX12_take_29 : decode cX12_take 29 = .ok (.istore_n 2, 1) := by decide +kernel
theorem dX12_take_30 : decode cX12_take 30 = .ok (.iload_n 2, 1) := by decide +kernel
theorem dX12_take_31 : decode cX12_take 31 = .ok (.aload_n 0, 1) := by decide +kernel
theorem dX12_take_32 : decode cX12_take 32 = .ok (.getfield 7, 3) := by decide +kernel
theorem dX12_take_35 : decode cX12_take 35 = .ok (.iconst 1, 1) := by decide +kernel
theorem dX12_take_36 : decode cX12_take 36 = .ok (.iaload, 1) := by decide +kernel
theorem dX12_take_37 : decode cX12_take 37 = .ok (.invokestatic 169, 3) := by decide +kernel
theorem dX12_take_40 : decode cX12_take 40 = .ok (.if_icmp .ge 24, 3) := by decide +kernel
theorem dX12_take_43 : decode cX12_take 43 = .ok (.aload_n 0, 1) := by decide +kernel
theorem dX12_take_44 : decode cX12_take 44 = .ok (.getfield 7, 3) := by decide +kernel
theorem dX12_take_47 : decode cX12_take 47 = .ok (.iload_n 2, 1) := by decide +kernel
theorem dX12_take_48 : decode cX12_take 48 = .ok (.aload_n 0, 1) := by decide +kernel
theorem dX12_take_49 : decode cX12_take 49 = .ok (.getfield 7, 3) := by decide +kernel
theorem dX12_take_52 : decode cX12_take 52 = .ok (.iload_n 2, 1) := by decide +kernel
theorem dX12_take_53 : decode cX12_take 53 = .ok (.bipush 21, 2) := by decide +kernel
theorem dX12_take_55 : decode cX12_take 55 = .ok (.iadd, 1) := by decide +kernel
theorem dX12_take_56 : decode cX12_take 56 = .ok (.iaload, 1) := by decide +kernel
theorem dX12_take_57 : decode cX12_take 57 = .ok (.iastore, 1) := by decide +kernel
theorem dX12_take_58 : decode cX12_take 58 = .ok (.iinc 2 1, 3) := by decide +kernel
theorem dX12_take_61 : decode cX12_take 61 = .ok (.goto (-31), 3) := by decide +kernel
theorem dX12_take_64 : decode cX12_take 64 = .ok (.aload_n 0, 1) := by decide +kernel
theorem dX12_take_65 : decode cX12_take 65 = .ok (.getfield 7, 3) := by decide +kernel
theorem dX12_take_68 : decode cX12_take 68 = .ok (.iconst 1, 1) := by decide +kernel
theorem dX12_take_69 : decode cX12_take 69 = .ok (.iaload, 1) := by decide +kernel
theorem dX12_take_70 : decode cX12_take 70 = .ok (.ireturn, 1) := by decide +kernel
theorem dX12_draw_0 : decode cX12_draw 0 = .ok (.aload_n 0, 1) := by decide +kernel
theorem dX12_draw_1 : decode cX12_draw 1 = .ok (.getfield 230, 3) := by decide +kernel
theorem dX12_draw_4 : decode cX12_draw 4 = .ok (.i2l, 1) := by decide +kernel
theorem dX12_draw_5 : decode cX12_draw 5 = .ok (.ldc2_w 233, 3) := by decide +kernel
theorem dX12_draw_8 : decode cX12_draw 8 = .ok (.lmul, 1) := by decide +kernel
theorem dX12_draw_9 : decode cX12_draw 9 = .ok (.ldc2_w 235, 3) := by decide +kernel
theorem dX12_draw_12 : decode cX12_draw 12 = .ok (.ladd, 1) := by decide +kernel
theorem dX12_draw_13 : decode cX12_draw 13 = .ok (.ldc2_w 237, 3) := by decide +kernel
theorem dX12_draw_16 : decode cX12_draw 16 = .ok (.lrem, 1) := by decide +kernel
theorem dX12_draw_17 : decode cX12_draw 17 = .ok (.lstore_n 2, 1) := by decide +kernel
theorem dX12_draw_18 : decode cX12_draw 18 = .ok (.aload_n 0, 1) := by decide +kernel
theorem dX12_draw_19 : decode cX12_draw 19 = .ok (.lload_n 2, 1) := by decide +kernel
theorem dX12_draw_20 : decode cX12_draw 20 = .ok (.l2i, 1) := by decide +kernel
theorem dX12_draw_21 : decode cX12_draw 21 = .ok (.putfield 230, 3) := by decide +kernel
theorem dX12_draw_24 : decode cX12_draw 24 = .ok (.aload_n 0, 1) := by decide +kernel
theorem dX12_draw_25 : decode cX12_draw 25 = .ok (.getfield 230, 3) := by decide +kernel
theorem dX12_draw_28 : decode cX12_draw 28 = .ok (.ldc 239, 2) := by decide +kernel
theorem dX12_draw_30 : decode cX12_draw 30 = .ok (.idiv, 1) := by decide +kernel
theorem dX12_draw_31 : decode cX12_draw 31 = .ok (.iload_n 1, 1) := by decide +kernel
theorem dX12_draw_32 : decode cX12_draw 32 = .ok (.irem, 1) := by decide +kernel
theorem dX12_draw_33 : decode cX12_draw 33 = .ok (.ireturn, 1) := by decide +kernel
theorem dX12_chance_0 : decode cX12_chance 0 = .ok (.aload_n 0, 1) := by decide +kernel
theorem dX12_chance_1 : decode cX12_chance 1 = .ok (.aload_n 0, 1) := by decide +kernel
theorem dX12_chance_2 : decode cX12_chance 2 = .ok (.getfield 7, 3) := by decide +kernel
theorem dX12_chance_5 : decode cX12_chance 5 = .ok (.iconst 0, 1) := by decide +kernel
theorem dX12_chance_6 : decode cX12_chance 6 = .ok (.iaload, 1) := by decide +kernel
theorem dX12_chance_7 : decode cX12_chance 7 = .ok (.invokevirtual 240, 3) := by decide +kernel
theorem dX12_chance_10 : decode cX12_chance 10 = .ok (.istore_n 1, 1) := by decide +kernel
theorem dX12_chance_11 : decode cX12_chance 11 = .ok (.aload_n 0, 1) := by decide +kernel
theorem dX12_chance_12 : decode cX12_chance 12 = .ok (.iconst 4, 1) := by decide +kernel
theorem dX12_chance_13 : decode cX12_chance 13 = .ok (.invokevirtual 240, 3) := by decide +kernel
theorem dX12_chance_16 : decode cX12_chance 16 = .ok (.istore_n 2, 1) := by decide +kernel
theorem dX12_chance_17 : decode cX12_chance 17 = .ok (.aload_n 0, 1) := by decide +kernel
theorem dX12_chance_18 : decode cX12_chance 18 = .ok (.aload_n 0, 1) := by decide +kernel
theorem dX12_chance_19 : decode cX12_chance 19 = .ok (.getfield 7, 3) := by decide +kernel
theorem dX12_chance_22 : decode cX12_chance 22 = .ok (.iconst 0, 1) := by decide +kernel
theorem dX12_chance_23 : decode cX12_chance 23 = .ok (.iaload, 1) := by decide +kernel
theorem dX12_chance_24 : decode cX12_chance 24 = .ok (.invokevirtual 240, 3) := by decide +kernel
theorem dX12_chance_27 : decode cX12_chance 27 = .ok (.istore_n 3, 1) := by decide +kernel
theorem dX12_chance_28 : decode cX12_chance 28 = .ok (.aload_n 0, 1) := by decide +kernel
theorem dX12_chance_29 : decode cX12_chance 29 = .ok (.iconst 4, 1) := by decide +kernel
theorem dX12_chance_30 : decode cX12_chance 30 = .ok (.invokevirtual 240, 3) := by decide +kernel
theorem dX12_chance_33 : decode cX12_chance 33 = .ok (.istore 4, 2) := by decide +kernel
theorem dX12_chance_35 : decode cX12_chance 35 = .ok (.aload_n 0, 1) := by decide +kernel
theorem dX12_chance_36 : decode cX12_chance 36 = .ok (.bipush 6, 2) := by decide +kernel
theorem dX12_chance_38 : decode cX12_chance 38 = .ok (.invokevirtual 240, 3) := by decide +kernel
theorem dX12_chance_41 : decode cX12_chance 41 = .ok (.istore 5, 2) := by decide +kernel
theorem dX12_chance_43 : decode cX12_chance 43 = .ok (.aload_n 0, 1) := by decide +kernel
theorem dX12_chance_44 : decode cX12_chance 44 = .ok (.invokevirtual 213, 3) := by decide +kernel
theorem dX12_chance_47 : decode cX12_chance 47 = .ok (.aload_n 0, 1) := by decide +kernel
theorem dX12_chance_48 : decode cX12_chance 48 = .ok (.iconst 4, 1) := by decide +kernel
theorem dX12_chance_49 : decode cX12_chance 49 = .ok (.iload_n 1, 1) := by decide +kernel
theorem dX12_chance_50 : decode cX12_chance 50 = .ok (.imul, 1) := by decide +kernel
theorem dX12_chance_51 : decode cX12_chance 51 = .ok (.iload_n 2, 1) := by decide +kernel
theorem dX12_chance_52 : decode cX12_chance 52 = .ok (.iadd, 1) := by decide +kernel
theorem dX12_chance_53 : decode cX12_chance 53 = .ok (.iconst 4, 1) := by decide +kernel
theorem dX12_chance_54 : decode cX12_chance 54 = .ok (.iload_n 3, 1) := by decide +kernel
theorem dX12_chance_55 : decode cX12_chance 55 = .ok (.imul, 1) := by decide +kernel
theorem dX12_chance_56 : decode cX12_chance 56 = .ok (.iload 4, 2) := by decide +kernel
theorem dX12_chance_58 : decode cX12_chance 58 = .ok (.iadd, 1) := by decide +kernel
theorem dX12_chance_59 : decode cX12_chance 59 = .ok (.invokevirtual 219, 3) := by decide +kernel
theorem dX12_chance_62 : decode cX12_chance 62 = .ok (.ifCond .eq 20, 3) := by decide +kernel
theorem dX12_chance_65 : decode cX12_chance 65 = .ok (.aload_n 0, 1) := by decide +kernel
theorem dX12_chance_66 : decode cX12_chance 66 = .ok (.iconst 4, 1) := by decide +kernel
theorem dX12_chance_67 : decode cX12_chance 67 = .ok (.iload_n 1, 1) := by decide +kernel
theorem dX12_chance_68 : decode cX12_chance 68 = .ok (.imul, 1) := by decide +kernel
theorem dX12_chance_69 : decode cX12_chance 69 = .ok (.iload_n 2, 1) := by decide +kernel
theorem dX12_chance_70 : decode cX12_chance 70 = .ok (.iadd, 1) := by decide +kernel
theorem dX12_chance_71 : decode cX12_chance 71 = .ok (.iconst 4, 1) := by decide +kernel
theorem dX12_chance_72 : decode cX12_chance 72 = .ok (.iload_n 3, 1) := by decide +kernel
theorem dX12_chance_73 : decode cX12_chance 73 = .ok (.imul, 1) := by decide +kernel
theorem dX12_chance_74 : decode cX12_chance 74 = .ok (.iload 4, 2) := by decide +kernel
theorem dX12_chance_76 : decode cX12_chance 76 = .ok (.iadd, 1) := by decide +kernel
theorem dX12_chance_77 : decode cX12_chance 77 = .ok (.iload 5, 2) := by decide +kernel
theorem dX12_chance_79 : decode cX12_chance 79 = .ok (.invokevirtual 223, 3) := by decide +kernel
theorem dX12_chance_82 : decode cX12_chance 82 = .ok (.return_, 1) := by decide +kernel
theorem dX12_drift_0 : decode cX12_drift 0 = .ok (.iload_n 1, 1) := by decide +kernel
theorem dX12_drift_1 : decode cX12_drift 1 = .ok (.iconst 1, 1) := by decide +kernel
theorem dX12_drift_2 : decode cX12_drift 2 = .ok (.bipush 12, 2) := by decide +kernel
theorem dX12_drift_4 : decode cX12_drift 4 = .ok (.invokestatic 40, 3) := by decide +kernel
theorem dX12_drift_7 : decode cX12_drift 7 = .ok (.ifCond .ne 6, 3) := by decide +kernel
theorem dX12_drift_10 : decode cX12_drift 10 = .ok (.ldc 190, 2) := by decide +kernel
theorem dX12_drift_12 : decode cX12_drift 12 = .ok (.ireturn, 1) := by decide +kernel
theorem dX12_drift_13 : decode cX12_drift 13 = .ok (.iconst 0, 1) := by decide +kernel
theorem dX12_drift_14 : decode cX12_drift 14 = .ok (.istore_n 2, 1) := by decide +kernel
theorem dX12_drift_15 : decode cX12_drift 15 = .ok (.iload_n 2, 1) := by decide +kernel
theorem dX12_drift_16 : decode cX12_drift 16 = .ok (.iload_n 1, 1) := by decide +kernel
theorem dX12_drift_17 : decode cX12_drift 17 = .ok (.if_icmp .ge 13, 3) := by decide +kernel
theorem dX12_drift_20 : decode cX12_drift 20 = .ok (.aload_n 0, 1) := by decide +kernel
theorem dX12_drift_21 : decode cX12_drift 21 = .ok (.invokevirtual 243, 3) := by decide +kernel
theorem dX12_drift_24 : decode cX12_drift 24 = .ok (.iinc 2 1, 3) := by decide +kernel
theorem dX12_drift_27 : decode cX12_drift 27 = .ok (.goto (-12), 3) := by decide +kernel
theorem dX12_drift_30 : decode cX12_drift 30 = .ok (.aload_n 0, 1) := by decide +kernel
theorem dX12_drift_31 : decode cX12_drift 31 = .ok (.invokevirtual 156, 3) := by decide +kernel
theorem dX12_drift_34 : decode cX12_drift 34 = .ok (.ireturn, 1) := by decide +kernel
theorem dX12_undo_0 : decode cX12_undo 0 = .ok (.iload_n 1, 1) := by decide +kernel
theorem dX12_undo_1 : decode cX12_undo 1 = .ok (.iconst 1, 1) := by decide +kernel
theorem dX12_undo_2 : decode cX12_undo 2 = .ok (.bipush 16, 2) := by decide +kernel
theorem dX12_undo_4 : decode cX12_undo 4 = .ok (.invokestatic 40, 3) := by decide +kernel
theorem dX12_undo_7 : decode cX12_undo 7 = .ok (.ifCond .ne 6, 3) := by decide +kernel
theorem dX12_undo_10 : decode cX12_undo 10 = .ok (.ldc 190, 2) := by decide +kernel
theorem dX12_undo_12 : decode cX12_undo 12 = .ok (.ireturn, 1) := by decide +kernel
theorem dX12_undo_13 : decode cX12_undo 13 = .ok (.iload_n 1, 1) := by decide +kernel
theorem dX12_undo_14 : decode cX12_undo 14 = .ok (.aload_n 0, 1) := by decide +kernel
theorem dX12_undo_15 : decode cX12_undo 15 = .ok (.getfield 187, 3) := by decide +kernel
theorem dX12_undo_18 : decode cX12_undo 18 = .ok (.if_icmp .le 6, 3) := by decide +kernel
theorem dX12_undo_21 : decode cX12_undo 21 = .ok (.ldc 222, 2) := by decide +kernel
theorem dX12_undo_23 : decode cX12_undo 23 = .ok (.ireturn, 1) := by decide +kernel
theorem dX12_undo_24 : decode cX12_undo 24 = .ok (.aload_n 0, 1) := by decide +kernel
theorem dX12_undo_25 : decode cX12_undo 25 = .ok (.dup, 1) := by decide +kernel
theorem dX12_undo_26 : decode cX12_undo 26 = .ok (.getfield 187, 3) := by decide +kernel
theorem dX12_undo_29 : decode cX12_undo 29 = .ok (.iload_n 1, 1) := by decide +kernel
theorem dX12_undo_30 : decode cX12_undo 30 = .ok (.isub, 1) := by decide +kernel
theorem dX12_undo_31 : decode cX12_undo 31 = .ok (.putfield 187, 3) := by decide +kernel
theorem dX12_undo_34 : decode cX12_undo 34 = .ok (.aload_n 0, 1) := by decide +kernel
theorem dX12_undo_35 : decode cX12_undo 35 = .ok (.sipush 152, 3) := by decide +kernel
theorem dX12_undo_38 : decode cX12_undo 38 = .ok (.aload_n 0, 1) := by decide +kernel
theorem dX12_undo_39 : decode cX12_undo 39 = .ok (.getfield 187, 3) := by decide +kernel
theorem dX12_undo_42 : decode cX12_undo 42 = .ok (.iconst 1, 1) := by decide +kernel
theorem dX12_undo_43 : decode cX12_undo 43 = .ok (.iadd, 1) := by decide +kernel
theorem dX12_undo_44 : decode cX12_undo 44 = .ok (.imul, 1) := by decide +kernel
theorem dX12_undo_45 : decode cX12_undo 45 = .ok (.iconst 0, 1) := by decide +kernel
theorem dX12_undo_46 : decode cX12_undo 46 = .ok (.invokevirtual 210, 3) := by decide +kernel
theorem dX12_undo_49 : decode cX12_undo 49 = .ok (.aload_n 0, 1) := by decide +kernel
theorem dX12_undo_50 : decode cX12_undo 50 = .ok (.getfield 7, 3) := by decide +kernel
theorem dX12_undo_53 : decode cX12_undo 53 = .ok (.iconst 1, 1) := by decide +kernel
theorem dX12_undo_54 : decode cX12_undo 54 = .ok (.iaload, 1) := by decide +kernel
theorem dX12_undo_55 : decode cX12_undo 55 = .ok (.ireturn, 1) := by decide +kernel
theorem dX12_write_0 : decode cX12_write 0 = .ok (.aload_n 0, 1) := by decide +kernel
theorem dX12_write_1 : decode cX12_write 1 = .ok (.iload_n 1, 1) := by decide +kernel
theorem dX12_write_2 : decode cX12_write 2 = .ok (.invokevirtual 172, 3) := by decide +kernel
theorem dX12_write_5 : decode cX12_write 5 = .ok (.ifCond .ne 6, 3) := by decide +kernel
theorem dX12_write_8 : decode cX12_write 8 = .ok (.ldc 197, 2) := by decide +kernel
theorem dX12_write_10 : decode cX12_write 10 = .ok (.ireturn, 1) := by decide +kernel
theorem dX12_write_11 : decode cX12_write 11 = .ok (.aload_n 0, 1) := by decide +kernel
theorem dX12_write_12 : decode cX12_write 12 = .ok (.getfield 165, 3) := by decide +kernel
theorem dX12_write_15 : decode cX12_write 15 = .ok (.bipush 20, 2) := by decide +kernel
theorem dX12_write_17 : decode cX12_write 17 = .ok (.if_icmp .ne 6, 3) := by decide +kernel
theorem dX12_write_20 : decode cX12_write 20 = .ok (.ldc 226, 2) := by decide +kernel
theorem dX12_write_22 : decode cX12_write 22 = .ok (.ireturn, 1) := by decide +kernel
theorem dX12_write_23 : decode cX12_write 23 = .ok (.aload_n 0, 1) := by decide +kernel
theorem dX12_write_24 : decode cX12_write 24 = .ok (.getfield 16, 3) := by decide +kernel
theorem dX12_write_27 : decode cX12_write 27 = .ok (.aload_n 0, 1) := by decide +kernel
theorem dX12_write_28 : decode cX12_write 28 = .ok (.getfield 165, 3) := by decide +kernel
theorem dX12_write_31 : decode cX12_write 31 = .ok (.iload_n 1, 1) := by decide +kernel
theorem dX12_write_32 : decode cX12_write 32 = .ok (.iastore, 1) := by decide +kernel
theorem dX12_write_33 : decode cX12_write 33 = .ok (.aload_n 0, 1) := by decide +kernel
theorem dX12_write_34 : decode cX12_write 34 = .ok (.getfield 19, 3) := by decide +kernel
theorem dX12_write_37 : decode cX12_write 37 = .ok (.aload_n 0, 1) := by decide +kernel
theorem dX12_write_38 : decode cX12_write 38 = .ok (.getfield 165, 3) := by decide +kernel
theorem dX12_write_41 : decode cX12_write 41 = .ok (.iload_n 2, 1) := by decide +kernel
theorem dX12_write_42 : decode cX12_write 42 = .ok (.iastore, 1) := by decide +kernel
theorem dX12_write_43 : decode cX12_write 43 = .ok (.aload_n 0, 1) := by decide +kernel
theorem dX12_write_44 : decode cX12_write 44 = .ok (.dup, 1) := by decide +kernel
theorem dX12_write_45 : decode cX12_write 45 = .ok (.getfield 165, 3) := by decide +kernel
theorem dX12_write_48 : decode cX12_write 48 = .ok (.iconst 1, 1) := by decide +kernel
theorem dX12_write_49 : decode cX12_write 49 = .ok (.iadd, 1) := by decide +kernel
theorem dX12_write_50 : decode cX12_write 50 = .ok (.putfield 165, 3) := by decide +kernel
theorem dX12_write_53 : decode cX12_write 53 = .ok (.aload_n 0, 1) := by decide +kernel
theorem dX12_write_54 : decode cX12_write 54 = .ok (.getfield 165, 3) := by decide +kernel
theorem dX12_write_57 : decode cX12_write 57 = .ok (.ireturn, 1) := by decide +kernel
theorem dX12_tear_0 : decode cX12_tear 0 = .ok (.aload_n 0, 1) := by decide +kernel
theorem dX12_tear_1 : decode cX12_tear 1 = .ok (.getfield 165, 3) := by decide +kernel
theorem dX12_tear_4 : decode cX12_tear 4 = .ok (.istore_n 1, 1) := by decide +kernel
theorem dX12_tear_5 : decode cX12_tear 5 = .ok (.aload_n 0, 1) := by decide +kernel
theorem dX12_tear_6 : decode cX12_tear 6 = .ok (.iconst 0, 1) := by decide +kernel
theorem dX12_tear_7 : decode cX12_tear 7 = .ok (.putfield 165, 3) := by decide +kernel
theorem dX12_tear_10 : decode cX12_tear 10 = .ok (.iload_n 1, 1) := by decide +kernel
theorem dX12_tear_11 : decode cX12_tear 11 = .ok (.ireturn, 1) := by decide +kernel
theorem dX12_seed_0 : decode cX12_seed 0 = .ok (.iload_n 1, 1) := by decide +kernel
theorem dX12_seed_1 : decode cX12_seed 1 = .ok (.ifCond .ge 6, 3) := by decide +kernel
theorem dX12_seed_4 : decode cX12_seed 4 = .ok (.ldc 190, 2) := by decide +kernel
theorem dX12_seed_6 : decode cX12_seed 6 = .ok (.ireturn, 1) := by decide +kernel
theorem dX12_seed_7 : decode cX12_seed 7 = .ok (.aload_n 0, 1) := by decide +kernel
theorem dX12_seed_8 : decode cX12_seed 8 = .ok (.getfield 230, 3) := by decide +kernel
theorem dX12_seed_11 : decode cX12_seed 11 = .ok (.istore_n 2, 1) := by decide +kernel
theorem dX12_seed_12 : decode cX12_seed 12 = .ok (.aload_n 0, 1) := by decide +kernel
theorem dX12_seed_13 : decode cX12_seed 13 = .ok (.iload_n 1, 1) := by decide +kernel
theorem dX12_seed_14 : decode cX12_seed 14 = .ok (.putfield 230, 3) := by decide +kernel
theorem dX12_seed_17 : decode cX12_seed 17 = .ok (.iload_n 2, 1) := by decide +kernel
theorem dX12_seed_18 : decode cX12_seed 18 = .ok (.ireturn, 1) := by decide +kernel
theorem dX12_keep_0 : decode cX12_keep 0 = .ok (.iload_n 1, 1) := by decide +kernel
theorem dX12_keep_1 : decode cX12_keep 1 = .ok (.iconst 0, 1) := by decide +kernel
theorem dX12_keep_2 : decode cX12_keep 2 = .ok (.iconst 1, 1) := by decide +kernel
theorem dX12_keep_3 : decode cX12_keep 3 = .ok (.invokestatic 40, 3) := by decide +kernel
theorem dX12_keep_6 : decode cX12_keep 6 = .ok (.ifCond .ne 6, 3) := by decide +kernel
theorem dX12_keep_9 : decode cX12_keep 9 = .ok (.ldc 197, 2) := by decide +kernel
theorem dX12_keep_11 : decode cX12_keep 11 = .ok (.ireturn, 1) := by decide +kernel
theorem dX12_keep_12 : decode cX12_keep 12 = .ok (.aload_n 0, 1) := by decide +kernel
theorem dX12_keep_13 : decode cX12_keep 13 = .ok (.iconst 0, 1) := by decide +kernel
theorem dX12_keep_14 : decode cX12_keep 14 = .ok (.sipush 2584, 3) := by decide +kernel
theorem dX12_keep_17 : decode cX12_keep 17 = .ok (.sipush 152, 3) := by decide +kernel
theorem dX12_keep_20 : decode cX12_keep 20 = .ok (.iload_n 1, 1) := by decide +kernel
theorem dX12_keep_21 : decode cX12_keep 21 = .ok (.imul, 1) := by decide +kernel
theorem dX12_keep_22 : decode cX12_keep 22 = .ok (.iadd, 1) := by decide +kernel
theorem dX12_keep_23 : decode cX12_keep 23 = .ok (.invokevirtual 210, 3) := by decide +kernel
theorem dX12_keep_26 : decode cX12_keep 26 = .ok (.aload_n 0, 1) := by decide +kernel
theorem dX12_keep_27 : decode cX12_keep 27 = .ok (.getfield 13, 3) := by decide +kernel
theorem dX12_keep_30 : decode cX12_keep 30 = .ok (.iload_n 1, 1) := by decide +kernel
theorem dX12_keep_31 : decode cX12_keep 31 = .ok (.aload_n 0, 1) := by decide +kernel
theorem dX12_keep_32 : decode cX12_keep 32 = .ok (.getfield 230, 3) := by decide +kernel
theorem dX12_keep_35 : decode cX12_keep 35 = .ok (.iastore, 1) := by decide +kernel
theorem dX12_keep_36 : decode cX12_keep 36 = .ok (.aload_n 0, 1) := by decide +kernel
theorem dX12_keep_37 : decode cX12_keep 37 = .ok (.dup, 1) := by decide +kernel
theorem dX12_keep_38 : decode cX12_keep 38 = .ok (.getfield 246, 3) := by decide +kernel
theorem dX12_keep_41 : decode cX12_keep 41 = .ok (.iconst 1, 1) := by decide +kernel
theorem dX12_keep_42 : decode cX12_keep 42 = .ok (.iload_n 1, 1) := by decide +kernel
theorem dX12_keep_43 : decode cX12_keep 43 = .ok (.ishl, 1) := by decide +kernel
theorem dX12_keep_44 : decode cX12_keep 44 = .ok (.ior, 1) := by decide +kernel
theorem dX12_keep_45 : decode cX12_keep 45 = .ok (.putfield 246, 3) := by decide +kernel
theorem dX12_keep_48 : decode cX12_keep 48 = .ok (.aload_n 0, 1) := by decide +kernel
theorem dX12_keep_49 : decode cX12_keep 49 = .ok (.iconst 0, 1) := by decide +kernel
theorem dX12_keep_50 : decode cX12_keep 50 = .ok (.putfield 187, 3) := by decide +kernel
theorem dX12_keep_53 : decode cX12_keep 53 = .ok (.iconst 1, 1) := by decide +kernel
theorem dX12_keep_54 : decode cX12_keep 54 = .ok (.ireturn, 1) := by decide +kernel
theorem dX12_goBack_0 : decode cX12_goBack 0 = .ok (.iload_n 1, 1) := by decide +kernel
theorem dX12_goBack_1 : decode cX12_goBack 1 = .ok (.iconst 0, 1) := by decide +kernel
theorem dX12_goBack_2 : decode cX12_goBack 2 = .ok (.iconst 1, 1) := by decide +kernel
theorem dX12_goBack_3 : decode cX12_goBack 3 = .ok (.invokestatic 40, 3) := by decide +kernel
theorem dX12_goBack_6 : decode cX12_goBack 6 = .ok (.ifCond .ne 6, 3) := by decide +kernel
theorem dX12_goBack_9 : decode cX12_goBack 9 = .ok (.ldc 197, 2) := by decide +kernel
theorem dX12_goBack_11 : decode cX12_goBack 11 = .ok (.ireturn, 1) := by decide +kernel
theorem dX12_goBack_12 : decode cX12_goBack 12 = .ok (.aload_n 0, 1) := by decide +kernel
theorem dX12_goBack_13 : decode cX12_goBack 13 = .ok (.getfield 246, 3) := by decide +kernel
theorem dX12_goBack_16 : decode cX12_goBack 16 = .ok (.iload_n 1, 1) := by decide +kernel
theorem dX12_goBack_17 : decode cX12_goBack 17 = .ok (.ishr, 1) := by decide +kernel
theorem dX12_goBack_18 : decode cX12_goBack 18 = .ok (.iconst 1, 1) := by decide +kernel
theorem dX12_goBack_19 : decode cX12_goBack 19 = .ok (.iand, 1) := by decide +kernel
theorem dX12_goBack_20 : decode cX12_goBack 20 = .ok (.ifCond .ne 6, 3) := by decide +kernel
theorem dX12_goBack_23 : decode cX12_goBack 23 = .ok (.ldc 222, 2) := by decide +kernel
theorem dX12_goBack_25 : decode cX12_goBack 25 = .ok (.ireturn, 1) := by decide +kernel
theorem dX12_goBack_26 : decode cX12_goBack 26 = .ok (.aload_n 0, 1) := by decide +kernel
theorem dX12_goBack_27 : decode cX12_goBack 27 = .ok (.sipush 2584, 3) := by decide +kernel
theorem dX12_goBack_30 : decode cX12_goBack 30 = .ok (.sipush 152, 3) := by decide +kernel
theorem dX12_goBack_33 : decode cX12_goBack 33 = .ok (.iload_n 1, 1) := by decide +kernel
theorem dX12_goBack_34 : decode cX12_goBack 34 = .ok (.imul, 1) := by decide +kernel
theorem dX12_goBack_35 : decode cX12_goBack 35 = .ok (.iadd, 1) := by decide +kernel
theorem dX12_goBack_36 : decode cX12_goBack 36 = .ok (.iconst 0, 1) := by decide +kernel
theorem dX12_goBack_37 : decode cX12_goBack 37 = .ok (.invokevirtual 210, 3) := by decide +kernel
theorem dX12_goBack_40 : decode cX12_goBack 40 = .ok (.aload_n 0, 1) := by decide +kernel
theorem dX12_goBack_41 : decode cX12_goBack 41 = .ok (.aload_n 0, 1) := by decide +kernel
theorem dX12_goBack_42 : decode cX12_goBack 42 = .ok (.getfield 13, 3) := by decide +kernel
theorem dX12_goBack_45 : decode cX12_goBack 45 = .ok (.iload_n 1, 1) := by decide +kernel
theorem dX12_goBack_46 : decode cX12_goBack 46 = .ok (.iaload, 1) := by decide +kernel
theorem dX12_goBack_47 : decode cX12_goBack 47 = .ok (.putfield 230, 3) := by decide +kernel
theorem dX12_goBack_50 : decode cX12_goBack 50 = .ok (.aload_n 0, 1) := by decide +kernel
theorem dX12_goBack_51 : decode cX12_goBack 51 = .ok (.iconst 0, 1) := by decide +kernel
theorem dX12_goBack_52 : decode cX12_goBack 52 = .ok (.putfield 187, 3) := by decide +kernel
theorem dX12_goBack_55 : decode cX12_goBack 55 = .ok (.iconst 1, 1) := by decide +kernel
theorem dX12_goBack_56 : decode cX12_goBack 56 = .ok (.ireturn, 1) := by decide +kernel
theorem dJ9_floorMod_7cf53_0 : decode cJ9_floorMod_7cf53 0 = .ok (.iload_n 0, 1) := by decide +kernel
theorem dJ9_floorMod_7cf53_1 : decode cJ9_floorMod_7cf53 1 = .ok (.iload_n 1, 1) := by decide +kernel
theorem dJ9_floorMod_7cf53_2 : decode cJ9_floorMod_7cf53 2 = .ok (.irem, 1) := by decide +kernel
theorem dJ9_floorMod_7cf53_3 : decode cJ9_floorMod_7cf53 3 = .ok (.istore_n 2, 1) := by decide +kernel
theorem dJ9_floorMod_7cf53_4 : decode cJ9_floorMod_7cf53 4 = .ok (.iload_n 0, 1) := by decide +kernel
theorem dJ9_floorMod_7cf53_5 : decode cJ9_floorMod_7cf53 5 = .ok (.iload_n 1, 1) := by decide +kernel
theorem dJ9_floorMod_7cf53_6 : decode cJ9_floorMod_7cf53 6 = .ok (.ixor, 1) := by decide +kernel
theorem dJ9_floorMod_7cf53_7 : decode cJ9_floorMod_7cf53 7 = .ok (.ifCond .ge 11, 3) := by decide +kernel
theorem dJ9_floorMod_7cf53_10 : decode cJ9_floorMod_7cf53 10 = .ok (.iload_n 2, 1) := by decide +kernel
theorem dJ9_floorMod_7cf53_11 : decode cJ9_floorMod_7cf53 11 = .ok (.ifCond .eq 7, 3) := by decide +kernel
theorem dJ9_floorMod_7cf53_14 : decode cJ9_floorMod_7cf53 14 = .ok (.iload_n 2, 1) := by decide +kernel
theorem dJ9_floorMod_7cf53_15 : decode cJ9_floorMod_7cf53 15 = .ok (.iload_n 1, 1) := by decide +kernel
theorem dJ9_floorMod_7cf53_16 : decode cJ9_floorMod_7cf53 16 = .ok (.iadd, 1) := by decide +kernel
theorem dJ9_floorMod_7cf53_17 : decode cJ9_floorMod_7cf53 17 = .ok (.ireturn, 1) := by decide +kernel
theorem dJ9_floorMod_7cf53_18 : decode cJ9_floorMod_7cf53 18 = .ok (.iload_n 2, 1) := by decide +kernel
theorem dJ9_floorMod_7cf53_19 : decode cJ9_floorMod_7cf53 19 = .ok (.ireturn, 1) := by decide +kernel
theorem dJ9_max_7cf53_0 : decode cJ9_max_7cf53 0 = .ok (.iload_n 0, 1) := by decide +kernel
theorem dJ9_max_7cf53_1 : decode cJ9_max_7cf53 1 = .ok (.iload_n 1, 1) := by decide +kernel
theorem dJ9_max_7cf53_2 : decode cJ9_max_7cf53 2 = .ok (.if_icmp .lt 7, 3) := by decide +kernel
theorem dJ9_max_7cf53_5 : decode cJ9_max_7cf53 5 = .ok (.iload_n 0, 1) := by decide +kernel
theorem dJ9_max_7cf53_6 : decode cJ9_max_7cf53 6 = .ok (.goto 4, 3) := by decide +kernel
theorem dJ9_max_7cf53_9 : decode cJ9_max_7cf53 9 = .ok (.iload_n 1, 1) := by decide +kernel
theorem dJ9_max_7cf53_10 : decode cJ9_max_7cf53 10 = .ok (.ireturn, 1) := by decide +kernel
theorem dJ9_min_7cf53_0 : decode cJ9_min_7cf53 0 = .ok (.iload_n 0, 1) := by decide +kernel
theorem dJ9_min_7cf53_1 : decode cJ9_min_7cf53 1 = .ok (.iload_n 1, 1) := by decide +kernel
theorem dJ9_min_7cf53_2 : decode cJ9_min_7cf53 2 = .ok (.if_icmp .gt 7, 3) := by decide +kernel
theorem dJ9_min_7cf53_5 : decode cJ9_min_7cf53 5 = .ok (.iload_n 0, 1) := by decide +kernel
theorem dJ9_min_7cf53_6 : decode cJ9_min_7cf53 6 = .ok (.goto 4, 3) := by decide +kernel
theorem dJ9_min_7cf53_9 : decode cJ9_min_7cf53 9 = .ok (.iload_n 1, 1) := by decide +kernel
theorem dJ9_min_7cf53_10 : decode cJ9_min_7cf53 10 = .ok (.ireturn, 1) := by decide +kernel
theorem dJ7_fill_53178_0 : decode cJ7_fill_53178 0 = .ok (.iconst 0, 1) := by decide +kernel
theorem dJ7_fill_53178_1 : decode cJ7_fill_53178 1 = .ok (.istore_n 2, 1) := by decide +kernel
theorem dJ7_fill_53178_2 : decode cJ7_fill_53178 2 = .ok (.aload_n 0, 1) := by decide +kernel
theorem dJ7_fill_53178_3 : decode cJ7_fill_53178 3 = .ok (.arraylength, 1) := by decide +kernel
theorem dJ7_fill_53178_4 : decode cJ7_fill_53178 4 = .ok (.istore_n 3, 1) := by decide +kernel
theorem dJ7_fill_53178_5 : decode cJ7_fill_53178 5 = .ok (.iload_n 2, 1) := by decide +kernel
theorem dJ7_fill_53178_6 : decode cJ7_fill_53178 6 = .ok (.iload_n 3, 1) := by decide +kernel
theorem dJ7_fill_53178_7 : decode cJ7_fill_53178 7 = .ok (.if_icmp .ge 13, 3) := by decide +kernel
theorem dJ7_fill_53178_10 : decode cJ7_fill_53178 10 = .ok (.aload_n 0, 1) := by decide +kernel
theorem dJ7_fill_53178_11 : decode cJ7_fill_53178 11 = .ok (.iload_n 2, 1) := by decide +kernel
theorem dJ7_fill_53178_12 : decode cJ7_fill_53178 12 = .ok (.iload_n 1, 1) := by decide +kernel
theorem dJ7_fill_53178_13 : decode cJ7_fill_53178 13 = .ok (.iastore, 1) := by decide +kernel
theorem dJ7_fill_53178_14 : decode cJ7_fill_53178 14 = .ok (.iinc 2 1, 3) := by decide +kernel
theorem dJ7_fill_53178_17 : decode cJ7_fill_53178 17 = .ok (.goto (-12), 3) := by decide +kernel
theorem dJ7_fill_53178_20 : decode cJ7_fill_53178 20 = .ok (.return_, 1) := by decide +kernel
theorem dL_law_0 : decode cL_law 0 = .ok (.new 7, 3) := by decide +kernel
theorem dL_law_3 : decode cL_law 3 = .ok (.dup, 1) := by decide +kernel
theorem dL_law_4 : decode cL_law 4 = .ok (.invokespecial 9, 3) := by decide +kernel
theorem dL_law_7 : decode cL_law 7 = .ok (.astore_n 1, 1) := by decide +kernel
theorem dL_law_8 : decode cL_law 8 = .ok (.new 10, 3) := by decide +kernel
theorem dL_law_11 : decode cL_law 11 = .ok (.dup, 1) := by decide +kernel
theorem dL_law_12 : decode cL_law 12 = .ok (.invokespecial 12, 3) := by decide +kernel
theorem dL_law_15 : decode cL_law 15 = .ok (.astore_n 2, 1) := by decide +kernel
theorem dL_law_16 : decode cL_law 16 = .ok (.iconst 0, 1) := by decide +kernel
theorem dL_law_17 : decode cL_law 17 = .ok (.istore_n 3, 1) := by decide +kernel
theorem dL_law_18 : decode cL_law 18 = .ok (.iload_n 3, 1) := by decide +kernel
theorem dL_law_19 : decode cL_law 19 = .ok (.aload_n 0, 1) := by decide +kernel
theorem dL_law_20 : decode cL_law 20 = .ok (.arraylength, 1) := by decide +kernel
theorem dL_law_21 : decode cL_law 21 = .ok (.bipush 6, 2) := by decide +kernel
theorem dL_law_23 : decode cL_law 23 = .ok (.isub, 1) := by decide +kernel
theorem dL_law_24 : decode cL_law 24 = .ok (.if_icmp .gt 871, 3) := by decide +kernel
theorem dL_law_27 : decode cL_law 27 = .ok (.aload_n 0, 1) := by decide +kernel
theorem dL_law_28 : decode cL_law 28 = .ok (.iload_n 3, 1) := by decide +kernel
theorem dL_law_29 : decode cL_law 29 = .ok (.iaload, 1) := by decide +kernel
theorem dL_law_30 : decode cL_law 30 = .ok (.bipush 31, 2) := by decide +kernel
theorem dL_law_32 : decode cL_law 32 = .ok (.iand, 1) := by decide +kernel
theorem dL_law_33 : decode cL_law 33 = .ok (.tableswitch 856 0 22 #[107, 130, 173, 216, 259, 302, 335, 378, 431, 454, 517, 550, 563, 616, 639, 672, 695, 718, 741, 774, 787, 810, 833], 107) := by decide +kernel
theorem dL_law_140 : decode cL_law 140 = .ok (.aload_n 1, 1) := by decide +kernel
theorem dL_law_141 : decode cL_law 141 = .ok (.aload_n 0, 1) := by decide +kernel
theorem dL_law_142 : decode cL_law 142 = .ok (.iload_n 3, 1) := by decide +kernel
theorem dL_law_143 : decode cL_law 143 = .ok (.iconst 1, 1) := by decide +kernel
theorem dL_law_144 : decode cL_law 144 = .ok (.iadd, 1) := by decide +kernel
theorem dL_law_145 : decode cL_law 145 = .ok (.iaload, 1) := by decide +kernel
theorem dL_law_146 : decode cL_law 146 = .ok (.invokevirtual 13, 3) := by decide +kernel
theorem dL_law_149 : decode cL_law 149 = .ok (.aload_n 2, 1) := by decide +kernel
theorem dL_law_150 : decode cL_law 150 = .ok (.aload_n 0, 1) := by decide +kernel
theorem dL_law_151 : decode cL_law 151 = .ok (.iload_n 3, 1) := by decide +kernel
theorem dL_law_152 : decode cL_law 152 = .ok (.iconst 1, 1) := by decide +kernel
theorem dL_law_153 : decode cL_law 153 = .ok (.iadd, 1) := by decide +kernel
theorem dL_law_154 : decode cL_law 154 = .ok (.iaload, 1) := by decide +kernel
theorem dL_law_155 : decode cL_law 155 = .ok (.invokevirtual 17, 3) := by decide +kernel
theorem dL_law_158 : decode cL_law 158 = .ok (.if_icmp .eq 731, 3) := by decide +kernel
theorem dL_law_161 : decode cL_law 161 = .ok (.iconst 0, 1) := by decide +kernel
theorem dL_law_162 : decode cL_law 162 = .ok (.ireturn, 1) := by decide +kernel
theorem dL_law_163 : decode cL_law 163 = .ok (.aload_n 1, 1) := by decide +kernel
theorem dL_law_164 : decode cL_law 164 = .ok (.aload_n 0, 1) := by decide +kernel
theorem dL_law_165 : decode cL_law 165 = .ok (.iload_n 3, 1) := by decide +kernel
theorem dL_law_166 : decode cL_law 166 = .ok (.iconst 1, 1) := by decide +kernel
theorem dL_law_167 : decode cL_law 167 = .ok (.iadd, 1) := by decide +kernel
theorem dL_law_168 : decode cL_law 168 = .ok (.iaload, 1) := by decide +kernel
theorem dL_law_169 : decode cL_law 169 = .ok (.aload_n 0, 1) := by decide +kernel
theorem dL_law_170 : decode cL_law 170 = .ok (.iload_n 3, 1) := by decide +kernel
theorem dL_law_171 : decode cL_law 171 = .ok (.iconst 2, 1) := by decide +kernel
theorem dL_law_172 : decode cL_law 172 = .ok (.iadd, 1) := by decide +kernel
theorem dL_law_173 : decode cL_law 173 = .ok (.iaload, 1) := by decide +kernel
theorem dL_law_174 : decode cL_law 174 = .ok (.aload_n 0, 1) := by decide +kernel
theorem dL_law_175 : decode cL_law 175 = .ok (.iload_n 3, 1) := by decide +kernel
theorem dL_law_176 : decode cL_law 176 = .ok (.iconst 3, 1) := by decide +kernel
theorem dL_law_177 : decode cL_law 177 = .ok (.iadd, 1) := by decide +kernel
theorem dL_law_178 : decode cL_law 178 = .ok (.iaload, 1) := by decide +kernel
theorem dL_law_179 : decode cL_law 179 = .ok (.invokevirtual 18, 3) := by decide +kernel
theorem dL_law_182 : decode cL_law 182 = .ok (.aload_n 2, 1) := by decide +kernel
theorem dL_law_183 : decode cL_law 183 = .ok (.aload_n 0, 1) := by decide +kernel
theorem dL_law_184 : decode cL_law 184 = .ok (.iload_n 3, 1) := by decide +kernel
theorem dL_law_185 : decode cL_law 185 = .ok (.iconst 1, 1) := by decide +kernel
theorem dL_law_186 : decode cL_law 186 = .ok (.iadd, 1) := by decide +kernel
theorem dL_law_187 : decode cL_law 187 = .ok (.iaload, 1) := by decide +kernel
theorem dL_law_188 : decode cL_law 188 = .ok (.aload_n 0, 1) := by decide +kernel
theorem dL_law_189 : decode cL_law 189 = .ok (.iload_n 3, 1) := by decide +kernel
theorem dL_law_190 : decode cL_law 190 = .ok (.iconst 2, 1) := by decide +kernel
theorem dL_law_191 : decode cL_law 191 = .ok (.iadd, 1) := by decide +kernel
theorem dL_law_192 : decode cL_law 192 = .ok (.iaload, 1) := by decide +kernel
theorem dL_law_193 : decode cL_law 193 = .ok (.aload_n 0, 1) := by decide +kernel
theorem dL_law_194 : decode cL_law 194 = .ok (.iload_n 3, 1) := by decide +kernel
theorem dL_law_195 : decode cL_law 195 = .ok (.iconst 3, 1) := by decide +kernel
theorem dL_law_196 : decode cL_law 196 = .ok (.iadd, 1) := by decide +kernel
theorem dL_law_197 : decode cL_law 197 = .ok (.iaload, 1) := by decide +kernel
theorem dL_law_198 : decode cL_law 198 = .ok (.invokevirtual 22, 3) := by decide +kernel
theorem dL_law_201 : decode cL_law 201 = .ok (.if_icmp .eq 688, 3) := by decide +kernel
theorem dL_law_204 : decode cL_law 204 = .ok (.iconst 0, 1) := by decide +kernel
theorem dL_law_205 : decode cL_law 205 = .ok (.ireturn, 1) := by decide +kernel
theorem dL_law_206 : decode cL_law 206 = .ok (.aload_n 1, 1) := by decide +kernel
theorem dL_law_207 : decode cL_law 207 = .ok (.aload_n 0, 1) := by decide +kernel
theorem dL_law_208 : decode cL_law 208 = .ok (.iload_n 3, 1) := by decide +kernel
theorem dL_law_209 : decode cL_law 209 = .ok (.iconst 1, 1) := by decide +kernel
theorem dL_law_210 : decode cL_law 210 = .ok (.iadd, 1) := by decide +kernel
theorem dL_law_211 : decode cL_law 211 = .ok (.iaload, 1) := by decide +kernel
theorem dL_law_212 : decode cL_law 212 = .ok (.aload_n 0, 1) := by decide +kernel
theorem dL_law_213 : decode cL_law 213 = .ok (.iload_n 3, 1) := by decide +kernel
theorem dL_law_214 : decode cL_law 214 = .ok (.iconst 2, 1) := by decide +kernel
theorem dL_law_215 : decode cL_law 215 = .ok (.iadd, 1) := by decide +kernel
theorem dL_law_216 : decode cL_law 216 = .ok (.iaload, 1) := by decide +kernel
theorem dL_law_217 : decode cL_law 217 = .ok (.aload_n 0, 1) := by decide +kernel
theorem dL_law_218 : decode cL_law 218 = .ok (.iload_n 3, 1) := by decide +kernel
theorem dL_law_219 : decode cL_law 219 = .ok (.iconst 3, 1) := by decide +kernel
theorem dL_law_220 : decode cL_law 220 = .ok (.iadd, 1) := by decide +kernel
theorem dL_law_221 : decode cL_law 221 = .ok (.iaload, 1) := by decide +kernel
theorem dL_law_222 : decode cL_law 222 = .ok (.invokevirtual 23, 3) := by decide +kernel
theorem dL_law_225 : decode cL_law 225 = .ok (.aload_n 2, 1) := by decide +kernel
theorem dL_law_226 : decode cL_law 226 = .ok (.aload_n 0, 1) := by decide +kernel
theorem dL_law_227 : decode cL_law 227 = .ok (.iload_n 3, 1) := by decide +kernel
theorem dL_law_228 : decode cL_law 228 = .ok (.iconst 1, 1) := by decide +kernel
theorem dL_law_229 : decode cL_law 229 = .ok (.iadd, 1) := by decide +kernel
theorem dL_law_230 : decode cL_law 230 = .ok (.iaload, 1) := by decide +kernel
theorem dL_law_231 : decode cL_law 231 = .ok (.aload_n 0, 1) := by decide +kernel
theorem dL_law_232 : decode cL_law 232 = .ok (.iload_n 3, 1) := by decide +kernel
theorem dL_law_233 : decode cL_law 233 = .ok (.iconst 2, 1) := by decide +kernel
theorem dL_law_234 : decode cL_law 234 = .ok (.iadd, 1) := by decide +kernel
theorem dL_law_235 : decode cL_law 235 = .ok (.iaload, 1) := by decide +kernel
theorem dL_law_236 : decode cL_law 236 = .ok (.aload_n 0, 1) := by decide +kernel
theorem dL_law_237 : decode cL_law 237 = .ok (.iload_n 3, 1) := by decide +kernel
theorem dL_law_238 : decode cL_law 238 = .ok (.iconst 3, 1) := by decide +kernel
theorem dL_law_239 : decode cL_law 239 = .ok (.iadd, 1) := by decide +kernel
theorem dL_law_240 : decode cL_law 240 = .ok (.iaload, 1) := by decide +kernel
theorem dL_law_241 : decode cL_law 241 = .ok (.invokevirtual 26, 3) := by decide +kernel
theorem dL_law_244 : decode cL_law 244 = .ok (.if_icmp .eq 645, 3) := by decide +kernel
theorem dL_law_247 : decode cL_law 247 = .ok (.iconst 0, 1) := by decide +kernel
theorem dL_law_248 : decode cL_law 248 = .ok (.ireturn, 1) := by decide +kernel
theorem dL_law_249 : decode cL_law 249 = .ok (.aload_n 1, 1) := by decide +kernel
theorem dL_law_250 : decode cL_law 250 = .ok (.aload_n 0, 1) := by decide +kernel
theorem dL_law_251 : decode cL_law 251 = .ok (.iload_n 3, 1) := by decide +kernel
theorem dL_law_252 : decode cL_law 252 = .ok (.iconst 1, 1) := by decide +kernel
theorem dL_law_253 : decode cL_law 253 = .ok (.iadd, 1) := by decide +kernel
theorem dL_law_254 : decode cL_law 254 = .ok (.iaload, 1) := by decide +kernel
theorem dL_law_255 : decode cL_law 255 = .ok (.aload_n 0, 1) := by decide +kernel
theorem dL_law_256 : decode cL_law 256 = .ok (.iload_n 3, 1) := by decide +kernel
theorem dL_law_257 : decode cL_law 257 = .ok (.iconst 2, 1) := by decide +kernel
theorem dL_law_258 : decode cL_law 258 = .ok (.iadd, 1) := by decide +kernel
theorem dL_law_259 : decode cL_law 259 = .ok (.iaload, 1) := by decide +kernel
theorem dL_law_260 : decode cL_law 260 = .ok (.aload_n 0, 1) := by decide +kernel
theorem dL_law_261 : decode cL_law 261 = .ok (.iload_n 3, 1) := by decide +kernel
theorem dL_law_262 : decode cL_law 262 = .ok (.iconst 3, 1) := by decide +kernel
theorem dL_law_263 : decode cL_law 263 = .ok (.iadd, 1) := by decide +kernel
theorem dL_law_264 : decode cL_law 264 = .ok (.iaload, 1) := by decide +kernel
theorem dL_law_265 : decode cL_law 265 = .ok (.invokevirtual 27, 3) := by decide +kernel
theorem dL_law_268 : decode cL_law 268 = .ok (.aload_n 2, 1) := by decide +kernel
theorem dL_law_269 : decode cL_law 269 = .ok (.aload_n 0, 1) := by decide +kernel
theorem dL_law_270 : decode cL_law 270 = .ok (.iload_n 3, 1) := by decide +kernel
theorem dL_law_271 : decode cL_law 271 = .ok (.iconst 1, 1) := by decide +kernel
theorem dL_law_272 : decode cL_law 272 = .ok (.iadd, 1) := by decide +kernel
theorem dL_law_273 : decode cL_law 273 = .ok (.iaload, 1) := by decide +kernel
theorem dL_law_274 : decode cL_law 274 = .ok (.aload_n 0, 1) := by decide +kernel
theorem dL_law_275 : decode cL_law 275 = .ok (.iload_n 3, 1) := by decide +kernel
theorem dL_law_276 : decode cL_law 276 = .ok (.iconst 2, 1) := by decide +kernel
theorem dL_law_277 : decode cL_law 277 = .ok (.iadd, 1) := by decide +kernel
theorem dL_law_278 : decode cL_law 278 = .ok (.iaload, 1) := by decide +kernel
theorem dL_law_279 : decode cL_law 279 = .ok (.aload_n 0, 1) := by decide +kernel
theorem dL_law_280 : decode cL_law 280 = .ok (.iload_n 3, 1) := by decide +kernel
theorem dL_law_281 : decode cL_law 281 = .ok (.iconst 3, 1) := by decide +kernel
theorem dL_law_282 : decode cL_law 282 = .ok (.iadd, 1) := by decide +kernel
theorem dL_law_283 : decode cL_law 283 = .ok (.iaload, 1) := by decide +kernel
theorem dL_law_284 : decode cL_law 284 = .ok (.invokevirtual 30, 3) := by decide +kernel
theorem dL_law_287 : decode cL_law 287 = .ok (.if_icmp .eq 602, 3) := by decide +kernel
theorem dL_law_290 : decode cL_law 290 = .ok (.iconst 0, 1) := by decide +kernel
theorem dL_law_291 : decode cL_law 291 = .ok (.ireturn, 1) := by decide +kernel
theorem dL_law_292 : decode cL_law 292 = .ok (.aload_n 1, 1) := by decide +kernel
theorem dL_law_293 : decode cL_law 293 = .ok (.aload_n 0, 1) := by decide +kernel
theorem dL_law_294 : decode cL_law 294 = .ok (.iload_n 3, 1) := by decide +kernel
theorem dL_law_295 : decode cL_law 295 = .ok (.iconst 1, 1) := by decide +kernel
theorem dL_law_296 : decode cL_law 296 = .ok (.iadd, 1) := by decide +kernel
theorem dL_law_297 : decode cL_law 297 = .ok (.iaload, 1) := by decide +kernel
theorem dL_law_298 : decode cL_law 298 = .ok (.aload_n 0, 1) := by decide +kernel
theorem dL_law_299 : decode cL_law 299 = .ok (.iload_n 3, 1) := by decide +kernel
theorem dL_law_300 : decode cL_law 300 = .ok (.iconst 2, 1) := by decide +kernel
theorem dL_law_301 : decode cL_law 301 = .ok (.iadd, 1) := by decide +kernel
theorem dL_law_302 : decode cL_law 302 = .ok (.iaload, 1) := by decide +kernel
theorem dL_law_303 : decode cL_law 303 = .ok (.aload_n 0, 1) := by decide +kernel
theorem dL_law_304 : decode cL_law 304 = .ok (.iload_n 3, 1) := by decide +kernel
theorem dL_law_305 : decode cL_law 305 = .ok (.iconst 3, 1) := by decide +kernel
theorem dL_law_306 : decode cL_law 306 = .ok (.iadd, 1) := by decide +kernel
theorem dL_law_307 : decode cL_law 307 = .ok (.iaload, 1) := by decide +kernel
theorem dL_law_308 : decode cL_law 308 = .ok (.invokevirtual 31, 3) := by decide +kernel
theorem dL_law_311 : decode cL_law 311 = .ok (.aload_n 2, 1) := by decide +kernel
theorem dL_law_312 : decode cL_law 312 = .ok (.aload_n 0, 1) := by decide +kernel
theorem dL_law_313 : decode cL_law 313 = .ok (.iload_n 3, 1) := by decide +kernel
theorem dL_law_314 : decode cL_law 314 = .ok (.iconst 1, 1) := by decide +kernel
theorem dL_law_315 : decode cL_law 315 = .ok (.iadd, 1) := by decide +kernel
theorem dL_law_316 : decode cL_law 316 = .ok (.iaload, 1) := by decide +kernel
theorem dL_law_317 : decode cL_law 317 = .ok (.aload_n 0, 1) := by decide +kernel
theorem dL_law_318 : decode cL_law 318 = .ok (.iload_n 3, 1) := by decide +kernel
theorem dL_law_319 : decode cL_law 319 = .ok (.iconst 2, 1) := by decide +kernel
theorem dL_law_320 : decode cL_law 320 = .ok (.iadd, 1) := by decide +kernel
theorem dL_law_321 : decode cL_law 321 = .ok (.iaload, 1) := by decide +kernel
theorem dL_law_322 : decode cL_law 322 = .ok (.aload_n 0, 1) := by decide +kernel
theorem dL_law_323 : decode cL_law 323 = .ok (.iload_n 3, 1) := by decide +kernel
theorem dL_law_324 : decode cL_law 324 = .ok (.iconst 3, 1) := by decide +kernel
theorem dL_law_325 : decode cL_law 325 = .ok (.iadd, 1) := by decide +kernel
theorem dL_law_326 : decode cL_law 326 = .ok (.iaload, 1) := by decide +kernel
theorem dL_law_327 : decode cL_law 327 = .ok (.invokevirtual 34, 3) := by decide +kernel
theorem dL_law_330 : decode cL_law 330 = .ok (.if_icmp .eq 559, 3) := by decide +kernel
theorem dL_law_333 : decode cL_law 333 = .ok (.iconst 0, 1) := by decide +kernel
theorem dL_law_334 : decode cL_law 334 = .ok (.ireturn, 1) := by decide +kernel
theorem dL_law_335 : decode cL_law 335 = .ok (.aload_n 1, 1) := by decide +kernel
theorem dL_law_336 : decode cL_law 336 = .ok (.aload_n 0, 1) := by decide +kernel
theorem dL_law_337 : decode cL_law 337 = .ok (.iload_n 3, 1) := by decide +kernel
theorem dL_law_338 : decode cL_law 338 = .ok (.iconst 1, 1) := by decide +kernel
theorem dL_law_339 : decode cL_law 339 = .ok (.iadd, 1) := by decide +kernel
theorem dL_law_340 : decode cL_law 340 = .ok (.iaload, 1) := by decide +kernel
theorem dL_law_341 : decode cL_law 341 = .ok (.aload_n 0, 1) := by decide +kernel
theorem dL_law_342 : decode cL_law 342 = .ok (.iload_n 3, 1) := by decide +kernel
theorem dL_law_343 : decode cL_law 343 = .ok (.iconst 2, 1) := by decide +kernel
theorem dL_law_344 : decode cL_law 344 = .ok (.iadd, 1) := by decide +kernel
theorem dL_law_345 : decode cL_law 345 = .ok (.iaload, 1) := by decide +kernel
theorem dL_law_346 : decode cL_law 346 = .ok (.invokevirtual 35, 3) := by decide +kernel
theorem dL_law_349 : decode cL_law 349 = .ok (.aload_n 2, 1) := by decide +kernel
theorem dL_law_350 : decode cL_law 350 = .ok (.aload_n 0, 1) := by decide +kernel
theorem dL_law_351 : decode cL_law 351 = .ok (.iload_n 3, 1) := by decide +kernel
theorem dL_law_352 : decode cL_law 352 = .ok (.iconst 1, 1) := by decide +kernel
theorem dL_law_353 : decode cL_law 353 = .ok (.iadd, 1) := by decide +kernel
theorem dL_law_354 : decode cL_law 354 = .ok (.iaload, 1) := by decide +kernel
theorem dL_law_355 : decode cL_law 355 = .ok (.aload_n 0, 1) := by decide +kernel
theorem dL_law_356 : decode cL_law 356 = .ok (.iload_n 3, 1) := by decide +kernel
theorem dL_law_357 : decode cL_law 357 = .ok (.iconst 2, 1) := by decide +kernel
theorem dL_law_358 : decode cL_law 358 = .ok (.iadd, 1) := by decide +kernel
theorem dL_law_359 : decode cL_law 359 = .ok (.iaload, 1) := by decide +kernel
theorem dL_law_360 : decode cL_law 360 = .ok (.invokevirtual 39, 3) := by decide +kernel
theorem dL_law_363 : decode cL_law 363 = .ok (.if_icmp .eq 526, 3) := by decide +kernel
theorem dL_law_366 : decode cL_law 366 = .ok (.iconst 0, 1) := by decide +kernel
theorem dL_law_367 : decode cL_law 367 = .ok (.ireturn, 1) := by decide +kernel
theorem dL_law_368 : decode cL_law 368 = .ok (.aload_n 1, 1) := by decide +kernel
theorem dL_law_369 : decode cL_law 369 = .ok (.aload_n 0, 1) := by decide +kernel
theorem dL_law_370 : decode cL_law 370 = .ok (.iload_n 3, 1) := by decide +kernel
theorem dL_law_371 : decode cL_law 371 = .ok (.iconst 1, 1) := by decide +kernel
theorem dL_law_372 : decode cL_law 372 = .ok (.iadd, 1) := by decide +kernel
theorem dL_law_373 : decode cL_law 373 = .ok (.iaload, 1) := by decide +kernel
theorem dL_law_374 : decode cL_law 374 = .ok (.aload_n 0, 1) := by decide +kernel
theorem dL_law_375 : decode cL_law 375 = .ok (.iload_n 3, 1) := by decide +kernel
theorem dL_law_376 : decode cL_law 376 = .ok (.iconst 2, 1) := by decide +kernel
theorem dL_law_377 : decode cL_law 377 = .ok (.iadd, 1) := by decide +kernel
theorem dL_law_378 : decode cL_law 378 = .ok (.iaload, 1) := by decide +kernel
theorem dL_law_379 : decode cL_law 379 = .ok (.aload_n 0, 1) := by decide +kernel
theorem dL_law_380 : decode cL_law 380 = .ok (.iload_n 3, 1) := by decide +kernel
theorem dL_law_381 : decode cL_law 381 = .ok (.iconst 3, 1) := by decide +kernel
theorem dL_law_382 : decode cL_law 382 = .ok (.iadd, 1) := by decide +kernel
theorem dL_law_383 : decode cL_law 383 = .ok (.iaload, 1) := by decide +kernel
theorem dL_law_384 : decode cL_law 384 = .ok (.invokevirtual 40, 3) := by decide +kernel
theorem dL_law_387 : decode cL_law 387 = .ok (.aload_n 2, 1) := by decide +kernel
theorem dL_law_388 : decode cL_law 388 = .ok (.aload_n 0, 1) := by decide +kernel
theorem dL_law_389 : decode cL_law 389 = .ok (.iload_n 3, 1) := by decide +kernel
theorem dL_law_390 : decode cL_law 390 = .ok (.iconst 1, 1) := by decide +kernel
theorem dL_law_391 : decode cL_law 391 = .ok (.iadd, 1) := by decide +kernel
theorem dL_law_392 : decode cL_law 392 = .ok (.iaload, 1) := by decide +kernel
theorem dL_law_393 : decode cL_law 393 = .ok (.aload_n 0, 1) := by decide +kernel
theorem dL_law_394 : decode cL_law 394 = .ok (.iload_n 3, 1) := by decide +kernel
theorem dL_law_395 : decode cL_law 395 = .ok (.iconst 2, 1) := by decide +kernel
theorem dL_law_396 : decode cL_law 396 = .ok (.iadd, 1) := by decide +kernel
theorem dL_law_397 : decode cL_law 397 = .ok (.iaload, 1) := by decide +kernel
theorem dL_law_398 : decode cL_law 398 = .ok (.aload_n 0, 1) := by decide +kernel
theorem dL_law_399 : decode cL_law 399 = .ok (.iload_n 3, 1) := by decide +kernel
theorem dL_law_400 : decode cL_law 400 = .ok (.iconst 3, 1) := by decide +kernel
theorem dL_law_401 : decode cL_law 401 = .ok (.iadd, 1) := by decide +kernel
theorem dL_law_402 : decode cL_law 402 = .ok (.iaload, 1) := by decide +kernel
theorem dL_law_403 : decode cL_law 403 = .ok (.invokevirtual 43, 3) := by decide +kernel
theorem dL_law_406 : decode cL_law 406 = .ok (.if_icmp .eq 483, 3) := by decide +kernel
theorem dL_law_409 : decode cL_law 409 = .ok (.iconst 0, 1) := by decide +kernel
theorem dL_law_410 : decode cL_law 410 = .ok (.ireturn, 1) := by decide +kernel
theorem dL_law_411 : decode cL_law 411 = .ok (.aload_n 1, 1) := by decide +kernel
theorem dL_law_412 : decode cL_law 412 = .ok (.aload_n 0, 1) := by decide +kernel
theorem dL_law_413 : decode cL_law 413 = .ok (.iload_n 3, 1) := by decide +kernel
theorem dL_law_414 : decode cL_law 414 = .ok (.iconst 1, 1) := by decide +kernel
theorem dL_law_415 : decode cL_law 415 = .ok (.iadd, 1) := by decide +kernel
theorem dL_law_416 : decode cL_law 416 = .ok (.iaload, 1) := by decide +kernel
theorem dL_law_417 : decode cL_law 417 = .ok (.aload_n 0, 1) := by decide +kernel
theorem dL_law_418 : decode cL_law 418 = .ok (.iload_n 3, 1) := by decide +kernel
theorem dL_law_419 : decode cL_law 419 = .ok (.iconst 2, 1) := by decide +kernel
theorem dL_law_420 : decode cL_law 420 = .ok (.iadd, 1) := by decide +kernel
theorem dL_law_421 : decode cL_law 421 = .ok (.iaload, 1) := by decide +kernel
theorem dL_law_422 : decode cL_law 422 = .ok (.aload_n 0, 1) := by decide +kernel
theorem dL_law_423 : decode cL_law 423 = .ok (.iload_n 3, 1) := by decide +kernel
theorem dL_law_424 : decode cL_law 424 = .ok (.iconst 3, 1) := by decide +kernel
theorem dL_law_425 : decode cL_law 425 = .ok (.iadd, 1) := by decide +kernel
theorem dL_law_426 : decode cL_law 426 = .ok (.iaload, 1) := by decide +kernel
theorem dL_law_427 : decode cL_law 427 = .ok (.aload_n 0, 1) := by decide +kernel
theorem dL_law_428 : decode cL_law 428 = .ok (.iload_n 3, 1) := by decide +kernel
theorem dL_law_429 : decode cL_law 429 = .ok (.iconst 4, 1) := by decide +kernel
theorem dL_law_430 : decode cL_law 430 = .ok (.iadd, 1) := by decide +kernel
theorem dL_law_431 : decode cL_law 431 = .ok (.iaload, 1) := by decide +kernel
theorem dL_law_432 : decode cL_law 432 = .ok (.invokevirtual 44, 3) := by decide +kernel
theorem dL_law_435 : decode cL_law 435 = .ok (.aload_n 2, 1) := by decide +kernel
theorem dL_law_436 : decode cL_law 436 = .ok (.aload_n 0, 1) := by decide +kernel
theorem dL_law_437 : decode cL_law 437 = .ok (.iload_n 3, 1) := by decide +kernel
theorem dL_law_438 : decode cL_law 438 = .ok (.iconst 1, 1) := by decide +kernel
theorem dL_law_439 : decode cL_law 439 = .ok (.iadd, 1) := by decide +kernel
theorem dL_law_440 : decode cL_law 440 = .ok (.iaload, 1) := by decide +kernel
theorem dL_law_441 : decode cL_law 441 = .ok (.aload_n 0, 1) := by decide +kernel
theorem dL_law_442 : decode cL_law 442 = .ok (.iload_n 3, 1) := by decide +kernel
theorem dL_law_443 : decode cL_law 443 = .ok (.iconst 2, 1) := by decide +kernel
theorem dL_law_444 : decode cL_law 444 = .ok (.iadd, 1) := by decide +kernel
theorem dL_law_445 : decode cL_law 445 = .ok (.iaload, 1) := by decide +kernel
theorem dL_law_446 : decode cL_law 446 = .ok (.aload_n 0, 1) := by decide +kernel
theorem dL_law_447 : decode cL_law 447 = .ok (.iload_n 3, 1) := by decide +kernel
theorem dL_law_448 : decode cL_law 448 = .ok (.iconst 3, 1) := by decide +kernel
theorem dL_law_449 : decode cL_law 449 = .ok (.iadd, 1) := by decide +kernel
theorem dL_law_450 : decode cL_law 450 = .ok (.iaload, 1) := by decide +kernel
theorem dL_law_451 : decode cL_law 451 = .ok (.aload_n 0, 1) := by decide +kernel
theorem dL_law_452 : decode cL_law 452 = .ok (.iload_n 3, 1) := by decide +kernel
theorem dL_law_453 : decode cL_law 453 = .ok (.iconst 4, 1) := by decide +kernel
theorem dL_law_454 : decode cL_law 454 = .ok (.iadd, 1) := by decide +kernel
theorem dL_law_455 : decode cL_law 455 = .ok (.iaload, 1) := by decide +kernel
theorem dL_law_456 : decode cL_law 456 = .ok (.invokevirtual 48, 3) := by decide +kernel
theorem dL_law_459 : decode cL_law 459 = .ok (.if_icmp .eq 430, 3) := by decide +kernel
theorem dL_law_462 : decode cL_law 462 = .ok (.iconst 0, 1) := by decide +kernel
theorem dL_law_463 : decode cL_law 463 = .ok (.ireturn, 1) := by decide +kernel
theorem dL_law_464 : decode cL_law 464 = .ok (.aload_n 1, 1) := by decide +kernel
theorem dL_law_465 : decode cL_law 465 = .ok (.aload_n 0, 1) := by decide +kernel
theorem dL_law_466 : decode cL_law 466 = .ok (.iload_n 3, 1) := by decide +kernel
theorem dL_law_467 : decode cL_law 467 = .ok (.iconst 1, 1) := by decide +kernel
theorem dL_law_468 : decode cL_law 468 = .ok (.iadd, 1) := by decide +kernel
theorem dL_law_469 : decode cL_law 469 = .ok (.iaload, 1) := by decide +kernel
theorem dL_law_470 : decode cL_law 470 = .ok (.invokevirtual 49, 3) := by decide +kernel
theorem dL_law_473 : decode cL_law 473 = .ok (.aload_n 2, 1) := by decide +kernel
theorem dL_law_474 : decode cL_law 474 = .ok (.aload_n 0, 1) := by decide +kernel
theorem dL_law_475 : decode cL_law 475 = .ok (.iload_n 3, 1) := by decide +kernel
theorem dL_law_476 : decode cL_law 476 = .ok (.iconst 1, 1) := by decide +kernel
theorem dL_law_477 : decode cL_law 477 = .ok (.iadd, 1) := by decide +kernel
theorem dL_law_478 : decode cL_law 478 = .ok (.iaload, 1) := by decide +kernel
theorem dL_law_479 : decode cL_law 479 = .ok (.invokevirtual 52, 3) := by decide +kernel
theorem dL_law_482 : decode cL_law 482 = .ok (.if_icmp .eq 407, 3) := by decide +kernel
theorem dL_law_485 : decode cL_law 485 = .ok (.iconst 0, 1) := by decide +kernel
theorem dL_law_486 : decode cL_law 486 = .ok (.ireturn, 1) := by decide +kernel
theorem dL_law_487 : decode cL_law 487 = .ok (.aload_n 1, 1) := by decide +kernel
theorem dL_law_488 : decode cL_law 488 = .ok (.aload_n 0, 1) := by decide +kernel
theorem dL_law_489 : decode cL_law 489 = .ok (.iload_n 3, 1) := by decide +kernel
theorem dL_law_490 : decode cL_law 490 = .ok (.iconst 1, 1) := by decide +kernel
theorem dL_law_491 : decode cL_law 491 = .ok (.iadd, 1) := by decide +kernel
theorem dL_law_492 : decode cL_law 492 = .ok (.iaload, 1) := by decide +kernel
theorem dL_law_493 : decode cL_law 493 = .ok (.aload_n 0, 1) := by decide +kernel
theorem dL_law_494 : decode cL_law 494 = .ok (.iload_n 3, 1) := by decide +kernel
theorem dL_law_495 : decode cL_law 495 = .ok (.iconst 2, 1) := by decide +kernel
theorem dL_law_496 : decode cL_law 496 = .ok (.iadd, 1) := by decide +kernel
theorem dL_law_497 : decode cL_law 497 = .ok (.iaload, 1) := by decide +kernel
theorem dL_law_498 : decode cL_law 498 = .ok (.aload_n 0, 1) := by decide +kernel
theorem dL_law_499 : decode cL_law 499 = .ok (.iload_n 3, 1) := by decide +kernel
theorem dL_law_500 : decode cL_law 500 = .ok (.iconst 3, 1) := by decide +kernel
theorem dL_law_501 : decode cL_law 501 = .ok (.iadd, 1) := by decide +kernel
theorem dL_law_502 : decode cL_law 502 = .ok (.iaload, 1) := by decide +kernel
theorem dL_law_503 : decode cL_law 503 = .ok (.aload_n 0, 1) := by decide +kernel
theorem dL_law_504 : decode cL_law 504 = .ok (.iload_n 3, 1) := by decide +kernel
theorem dL_law_505 : decode cL_law 505 = .ok (.iconst 4, 1) := by decide +kernel
theorem dL_law_506 : decode cL_law 506 = .ok (.iadd, 1) := by decide +kernel
theorem dL_law_507 : decode cL_law 507 = .ok (.iaload, 1) := by decide +kernel
theorem dL_law_508 : decode cL_law 508 = .ok (.aload_n 0, 1) := by decide +kernel
theorem dL_law_509 : decode cL_law 509 = .ok (.iload_n 3, 1) := by decide +kernel
theorem dL_law_510 : decode cL_law 510 = .ok (.iconst 5, 1) := by decide +kernel
theorem dL_law_511 : decode cL_law 511 = .ok (.iadd, 1) := by decide +kernel
theorem dL_law_512 : decode cL_law 512 = .ok (.iaload, 1) := by decide +kernel
theorem dL_law_513 : decode cL_law 513 = .ok (.invokevirtual 53, 3) := by decide +kernel
theorem dL_law_516 : decode cL_law 516 = .ok (.aload_n 2, 1) := by decide +kernel
theorem dL_law_517 : decode cL_law 517 = .ok (.aload_n 0, 1) := by decide +kernel
theorem dL_law_518 : decode cL_law 518 = .ok (.iload_n 3, 1) := by decide +kernel
theorem dL_law_519 : decode cL_law 519 = .ok (.iconst 1, 1) := by decide +kernel
theorem dL_law_520 : decode cL_law 520 = .ok (.iadd, 1) := by decide +kernel
theorem dL_law_521 : decode cL_law 521 = .ok (.iaload, 1) := by decide +kernel
theorem dL_law_522 : decode cL_law 522 = .ok (.aload_n 0, 1) := by decide +kernel
theorem dL_law_523 : decode cL_law 523 = .ok (.iload_n 3, 1) := by decide +kernel
theorem dL_law_524 : decode cL_law 524 = .ok (.iconst 2, 1) := by decide +kernel
theorem dL_law_525 : decode cL_law 525 = .ok (.iadd, 1) := by decide +kernel
theorem dL_law_526 : decode cL_law 526 = .ok (.iaload, 1) := by decide +kernel
theorem dL_law_527 : decode cL_law 527 = .ok (.aload_n 0, 1) := by decide +kernel
theorem dL_law_528 : decode cL_law 528 = .ok (.iload_n 3, 1) := by decide +kernel
theorem dL_law_529 : decode cL_law 529 = .ok (.iconst 3, 1) := by decide +kernel
theorem dL_law_530 : decode cL_law 530 = .ok (.iadd, 1) := by decide +kernel
theorem dL_law_531 : decode cL_law 531 = .ok (.iaload, 1) := by decide +kernel
theorem dL_law_532 : decode cL_law 532 = .ok (.aload_n 0, 1) := by decide +kernel
theorem dL_law_533 : decode cL_law 533 = .ok (.iload_n 3, 1) := by decide +kernel
theorem dL_law_534 : decode cL_law 534 = .ok (.iconst 4, 1) := by decide +kernel
theorem dL_law_535 : decode cL_law 535 = .ok (.iadd, 1) := by decide +kernel
theorem dL_law_536 : decode cL_law 536 = .ok (.iaload, 1) := by decide +kernel
theorem dL_law_537 : decode cL_law 537 = .ok (.aload_n 0, 1) := by decide +kernel
theorem dL_law_538 : decode cL_law 538 = .ok (.iload_n 3, 1) := by decide +kernel
theorem dL_law_539 : decode cL_law 539 = .ok (.iconst 5, 1) := by decide +kernel
theorem dL_law_540 : decode cL_law 540 = .ok (.iadd, 1) := by decide +kernel
theorem dL_law_541 : decode cL_law 541 = .ok (.iaload, 1) := by decide +kernel
theorem dL_law_542 : decode cL_law 542 = .ok (.invokevirtual 57, 3) := by decide +kernel
theorem dL_law_545 : decode cL_law 545 = .ok (.if_icmp .eq 344, 3) := by decide +kernel
theorem dL_law_548 : decode cL_law 548 = .ok (.iconst 0, 1) := by decide +kernel
theorem dL_law_549 : decode cL_law 549 = .ok (.ireturn, 1) := by decide +kernel
theorem dL_law_550 : decode cL_law 550 = .ok (.aload_n 1, 1) := by decide +kernel
theorem dL_law_551 : decode cL_law 551 = .ok (.aload_n 0, 1) := by decide +kernel
theorem dL_law_552 : decode cL_law 552 = .ok (.iload_n 3, 1) := by decide +kernel
theorem dL_law_553 : decode cL_law 553 = .ok (.iconst 1, 1) := by decide +kernel
theorem dL_law_554 : decode cL_law 554 = .ok (.iadd, 1) := by decide +kernel
theorem dL_law_555 : decode cL_law 555 = .ok (.iaload, 1) := by decide +kernel
theorem dL_law_556 : decode cL_law 556 = .ok (.aload_n 0, 1) := by decide +kernel
theorem dL_law_557 : decode cL_law 557 = .ok (.iload_n 3, 1) := by decide +kernel
theorem dL_law_558 : decode cL_law 558 = .ok (.iconst 2, 1) := by decide +kernel
theorem dL_law_559 : decode cL_law 559 = .ok (.iadd, 1) := by decide +kernel
theorem dL_law_560 : decode cL_law 560 = .ok (.iaload, 1) := by decide +kernel
theorem dL_law_561 : decode cL_law 561 = .ok (.invokevirtual 58, 3) := by decide +kernel
theorem dL_law_564 : decode cL_law 564 = .ok (.aload_n 2, 1) := by decide +kernel
theorem dL_law_565 : decode cL_law 565 = .ok (.aload_n 0, 1) := by decide +kernel
theorem dL_law_566 : decode cL_law 566 = .ok (.iload_n 3, 1) := by decide +kernel
theorem dL_law_567 : decode cL_law 567 = .ok (.iconst 1, 1) := by decide +kernel
theorem dL_law_568 : decode cL_law 568 = .ok (.iadd, 1) := by decide +kernel
theorem dL_law_569 : decode cL_law 569 = .ok (.iaload, 1) := by decide +kernel
theorem dL_law_570 : decode cL_law 570 = .ok (.aload_n 0, 1) := by decide +kernel
theorem dL_law_571 : decode cL_law 571 = .ok (.iload_n 3, 1) := by decide +kernel
theorem dL_law_572 : decode cL_law 572 = .ok (.iconst 2, 1) := by decide +kernel
theorem dL_law_573 : decode cL_law 573 = .ok (.iadd, 1) := by decide +kernel
theorem dL_law_574 : decode cL_law 574 = .ok (.iaload, 1) := by decide +kernel
theorem dL_law_575 : decode cL_law 575 = .ok (.invokevirtual 61, 3) := by decide +kernel
theorem dL_law_578 : decode cL_law 578 = .ok (.if_icmp .eq 311, 3) := by decide +kernel
theorem dL_law_581 : decode cL_law 581 = .ok (.iconst 0, 1) := by decide +kernel
theorem dL_law_582 : decode cL_law 582 = .ok (.ireturn, 1) := by decide +kernel
theorem dL_law_583 : decode cL_law 583 = .ok (.aload_n 1, 1) := by decide +kernel
theorem dL_law_584 : decode cL_law 584 = .ok (.invokevirtual 62, 3) := by decide +kernel
theorem dL_law_587 : decode cL_law 587 = .ok (.aload_n 2, 1) := by decide +kernel
theorem dL_law_588 : decode cL_law 588 = .ok (.invokevirtual 66, 3) := by decide +kernel
theorem dL_law_591 : decode cL_law 591 = .ok (.if_icmp .eq 298, 3) := by decide +kernel
theorem dL_law_594 : decode cL_law 594 = .ok (.iconst 0, 1) := by decide +kernel
theorem dL_law_595 : decode cL_law 595 = .ok (.ireturn, 1) := by decide +kernel
theorem dL_law_596 : decode cL_law 596 = .ok (.aload_n 1, 1) := by decide +kernel
theorem dL_law_597 : decode cL_law 597 = .ok (.aload_n 0, 1) := by decide +kernel
theorem dL_law_598 : decode cL_law 598 = .ok (.iload_n 3, 1) := by decide +kernel
theorem dL_law_599 : decode cL_law 599 = .ok (.iconst 1, 1) := by decide +kernel
theorem dL_law_600 : decode cL_law 600 = .ok (.iadd, 1) := by decide +kernel
theorem dL_law_601 : decode cL_law 601 = .ok (.iaload, 1) := by decide +kernel
theorem dL_law_602 : decode cL_law 602 = .ok (.aload_n 0, 1) := by decide +kernel
theorem dL_law_603 : decode cL_law 603 = .ok (.iload_n 3, 1) := by decide +kernel
theorem dL_law_604 : decode cL_law 604 = .ok (.iconst 2, 1) := by decide +kernel
theorem dL_law_605 : decode cL_law 605 = .ok (.iadd, 1) := by decide +kernel
theorem dL_law_606 : decode cL_law 606 = .ok (.iaload, 1) := by decide +kernel
theorem dL_law_607 : decode cL_law 607 = .ok (.aload_n 0, 1) := by decide +kernel
theorem dL_law_608 : decode cL_law 608 = .ok (.iload_n 3, 1) := by decide +kernel
theorem dL_law_609 : decode cL_law 609 = .ok (.iconst 3, 1) := by decide +kernel
theorem dL_law_610 : decode cL_law 610 = .ok (.iadd, 1) := by decide +kernel
theorem dL_law_611 : decode cL_law 611 = .ok (.iaload, 1) := by decide +kernel
theorem dL_law_612 : decode cL_law 612 = .ok (.aload_n 0, 1) := by decide +kernel
theorem dL_law_613 : decode cL_law 613 = .ok (.iload_n 3, 1) := by decide +kernel
theorem dL_law_614 : decode cL_law 614 = .ok (.iconst 4, 1) := by decide +kernel
theorem dL_law_615 : decode cL_law 615 = .ok (.iadd, 1) := by decide +kernel
theorem dL_law_616 : decode cL_law 616 = .ok (.iaload, 1) := by decide +kernel
theorem dL_law_617 : decode cL_law 617 = .ok (.invokevirtual 67, 3) := by decide +kernel
theorem dL_law_620 : decode cL_law 620 = .ok (.aload_n 2, 1) := by decide +kernel
theorem dL_law_621 : decode cL_law 621 = .ok (.aload_n 0, 1) := by decide +kernel
theorem dL_law_622 : decode cL_law 622 = .ok (.iload_n 3, 1) := by decide +kernel
theorem dL_law_623 : decode cL_law 623 = .ok (.iconst 1, 1) := by decide +kernel
theorem dL_law_624 : decode cL_law 624 = .ok (.iadd, 1) := by decide +kernel
theorem dL_law_625 : decode cL_law 625 = .ok (.iaload, 1) := by decide +kernel
theorem dL_law_626 : decode cL_law 626 = .ok (.aload_n 0, 1) := by decide +kernel
theorem dL_law_627 : decode cL_law 627 = .ok (.iload_n 3, 1) := by decide +kernel
theorem dL_law_628 : decode cL_law 628 = .ok (.iconst 2, 1) := by decide +kernel
theorem dL_law_629 : decode cL_law 629 = .ok (.iadd, 1) := by decide +kernel
theorem dL_law_630 : decode cL_law 630 = .ok (.iaload, 1) := by decide +kernel
theorem dL_law_631 : decode cL_law 631 = .ok (.aload_n 0, 1) := by decide +kernel
theorem dL_law_632 : decode cL_law 632 = .ok (.iload_n 3, 1) := by decide +kernel
theorem dL_law_633 : decode cL_law 633 = .ok (.iconst 3, 1) := by decide +kernel
theorem dL_law_634 : decode cL_law 634 = .ok (.iadd, 1) := by decide +kernel
theorem dL_law_635 : decode cL_law 635 = .ok (.iaload, 1) := by decide +kernel
theorem dL_law_636 : decode cL_law 636 = .ok (.aload_n 0, 1) := by decide +kernel
theorem dL_law_637 : decode cL_law 637 = .ok (.iload_n 3, 1) := by decide +kernel
theorem dL_law_638 : decode cL_law 638 = .ok (.iconst 4, 1) := by decide +kernel
theorem dL_law_639 : decode cL_law 639 = .ok (.iadd, 1) := by decide +kernel
theorem dL_law_640 : decode cL_law 640 = .ok (.iaload, 1) := by decide +kernel
theorem dL_law_641 : decode cL_law 641 = .ok (.invokevirtual 70, 3) := by decide +kernel
theorem dL_law_644 : decode cL_law 644 = .ok (.if_icmp .eq 245, 3) := by decide +kernel
theorem dL_law_647 : decode cL_law 647 = .ok (.iconst 0, 1) := by decide +kernel
theorem dL_law_648 : decode cL_law 648 = .ok (.ireturn, 1) := by decide +kernel
theorem dL_law_649 : decode cL_law 649 = .ok (.aload_n 1, 1) := by decide +kernel
theorem dL_law_650 : decode cL_law 650 = .ok (.aload_n 0, 1) := by decide +kernel
theorem dL_law_651 : decode cL_law 651 = .ok (.iload_n 3, 1) := by decide +kernel
theorem dL_law_652 : decode cL_law 652 = .ok (.iconst 1, 1) := by decide +kernel
theorem dL_law_653 : decode cL_law 653 = .ok (.iadd, 1) := by decide +kernel
theorem dL_law_654 : decode cL_law 654 = .ok (.iaload, 1) := by decide +kernel
theorem dL_law_655 : decode cL_law 655 = .ok (.invokevirtual 71, 3) := by decide +kernel
theorem dL_law_658 : decode cL_law 658 = .ok (.aload_n 2, 1) := by decide +kernel
theorem dL_law_659 : decode cL_law 659 = .ok (.aload_n 0, 1) := by decide +kernel
theorem dL_law_660 : decode cL_law 660 = .ok (.iload_n 3, 1) := by decide +kernel
theorem dL_law_661 : decode cL_law 661 = .ok (.iconst 1, 1) := by decide +kernel
theorem dL_law_662 : decode cL_law 662 = .ok (.iadd, 1) := by decide +kernel
theorem dL_law_663 : decode cL_law 663 = .ok (.iaload, 1) := by decide +kernel
theorem dL_law_664 : decode cL_law 664 = .ok (.invokevirtual 74, 3) := by decide +kernel
theorem dL_law_667 : decode cL_law 667 = .ok (.if_icmp .eq 222, 3) := by decide +kernel
theorem dL_law_670 : decode cL_law 670 = .ok (.iconst 0, 1) := by decide +kernel
theorem dL_law_671 : decode cL_law 671 = .ok (.ireturn, 1) := by decide +kernel
theorem dL_law_672 : decode cL_law 672 = .ok (.aload_n 1, 1) := by decide +kernel
theorem dL_law_673 : decode cL_law 673 = .ok (.aload_n 0, 1) := by decide +kernel
theorem dL_law_674 : decode cL_law 674 = .ok (.iload_n 3, 1) := by decide +kernel
theorem dL_law_675 : decode cL_law 675 = .ok (.iconst 1, 1) := by decide +kernel
theorem dL_law_676 : decode cL_law 676 = .ok (.iadd, 1) := by decide +kernel
theorem dL_law_677 : decode cL_law 677 = .ok (.iaload, 1) := by decide +kernel
theorem dL_law_678 : decode cL_law 678 = .ok (.aload_n 0, 1) := by decide +kernel
theorem dL_law_679 : decode cL_law 679 = .ok (.iload_n 3, 1) := by decide +kernel
theorem dL_law_680 : decode cL_law 680 = .ok (.iconst 2, 1) := by decide +kernel
theorem dL_law_681 : decode cL_law 681 = .ok (.iadd, 1) := by decide +kernel
theorem dL_law_682 : decode cL_law 682 = .ok (.iaload, 1) := by decide +kernel
theorem dL_law_683 : decode cL_law 683 = .ok (.invokevirtual 75, 3) := by decide +kernel
theorem dL_law_686 : decode cL_law 686 = .ok (.aload_n 2, 1) := by decide +kernel
theorem dL_law_687 : decode cL_law 687 = .ok (.aload_n 0, 1) := by decide +kernel
theorem dL_law_688 : decode cL_law 688 = .ok (.iload_n 3, 1) := by decide +kernel
theorem dL_law_689 : decode cL_law 689 = .ok (.iconst 1, 1) := by decide +kernel
theorem dL_law_690 : decode cL_law 690 = .ok (.iadd, 1) := by decide +kernel
theorem dL_law_691 : decode cL_law 691 = .ok (.iaload, 1) := by decide +kernel
theorem dL_law_692 : decode cL_law 692 = .ok (.aload_n 0, 1) := by decide +kernel
theorem dL_law_693 : decode cL_law 693 = .ok (.iload_n 3, 1) := by decide +kernel
theorem dL_law_694 : decode cL_law 694 = .ok (.iconst 2, 1) := by decide +kernel
theorem dL_law_695 : decode cL_law 695 = .ok (.iadd, 1) := by decide +kernel
theorem dL_law_696 : decode cL_law 696 = .ok (.iaload, 1) := by decide +kernel
theorem dL_law_697 : decode cL_law 697 = .ok (.invokevirtual 78, 3) := by decide +kernel
theorem dL_law_700 : decode cL_law 700 = .ok (.if_icmp .eq 189, 3) := by decide +kernel
theorem dL_law_703 : decode cL_law 703 = .ok (.iconst 0, 1) := by decide +kernel
theorem dL_law_704 : decode cL_law 704 = .ok (.ireturn, 1) := by decide +kernel
theorem dL_law_705 : decode cL_law 705 = .ok (.aload_n 1, 1) := by decide +kernel
theorem dL_law_706 : decode cL_law 706 = .ok (.aload_n 0, 1) := by decide +kernel
theorem dL_law_707 : decode cL_law 707 = .ok (.iload_n 3, 1) := by decide +kernel
theorem dL_law_708 : decode cL_law 708 = .ok (.iconst 1, 1) := by decide +kernel
theorem dL_law_709 : decode cL_law 709 = .ok (.iadd, 1) := by decide +kernel
theorem dL_law_710 : decode cL_law 710 = .ok (.iaload, 1) := by decide +kernel
theorem dL_law_711 : decode cL_law 711 = .ok (.invokevirtual 79, 3) := by decide +kernel
theorem dL_law_714 : decode cL_law 714 = .ok (.aload_n 2, 1) := by decide +kernel
theorem dL_law_715 : decode cL_law 715 = .ok (.aload_n 0, 1) := by decide +kernel
theorem dL_law_716 : decode cL_law 716 = .ok (.iload_n 3, 1) := by decide +kernel
theorem dL_law_717 : decode cL_law 717 = .ok (.iconst 1, 1) := by decide +kernel
theorem dL_law_718 : decode cL_law 718 = .ok (.iadd, 1) := by decide +kernel
theorem dL_law_719 : decode cL_law 719 = .ok (.iaload, 1) := by decide +kernel
theorem dL_law_720 : decode cL_law 720 = .ok (.invokevirtual 82, 3) := by decide +kernel
theorem dL_law_723 : decode cL_law 723 = .ok (.if_icmp .eq 166, 3) := by decide +kernel
theorem dL_law_726 : decode cL_law 726 = .ok (.iconst 0, 1) := by decide +kernel
theorem dL_law_727 : decode cL_law 727 = .ok (.ireturn, 1) := by decide +kernel
theorem dL_law_728 : decode cL_law 728 = .ok (.aload_n 1, 1) := by decide +kernel
theorem dL_law_729 : decode cL_law 729 = .ok (.aload_n 0, 1) := by decide +kernel
theorem dL_law_730 : decode cL_law 730 = .ok (.iload_n 3, 1) := by decide +kernel
theorem dL_law_731 : decode cL_law 731 = .ok (.iconst 1, 1) := by decide +kernel
theorem dL_law_732 : decode cL_law 732 = .ok (.iadd, 1) := by decide +kernel
theorem dL_law_733 : decode cL_law 733 = .ok (.iaload, 1) := by decide +kernel
theorem dL_law_734 : decode cL_law 734 = .ok (.invokevirtual 83, 3) := by decide +kernel
theorem dL_law_737 : decode cL_law 737 = .ok (.aload_n 2, 1) := by decide +kernel
theorem dL_law_738 : decode cL_law 738 = .ok (.aload_n 0, 1) := by decide +kernel
theorem dL_law_739 : decode cL_law 739 = .ok (.iload_n 3, 1) := by decide +kernel
theorem dL_law_740 : decode cL_law 740 = .ok (.iconst 1, 1) := by decide +kernel
theorem dL_law_741 : decode cL_law 741 = .ok (.iadd, 1) := by decide +kernel
theorem dL_law_742 : decode cL_law 742 = .ok (.iaload, 1) := by decide +kernel
theorem dL_law_743 : decode cL_law 743 = .ok (.invokevirtual 86, 3) := by decide +kernel
theorem dL_law_746 : decode cL_law 746 = .ok (.if_icmp .eq 143, 3) := by decide +kernel
theorem dL_law_749 : decode cL_law 749 = .ok (.iconst 0, 1) := by decide +kernel
theorem dL_law_750 : decode cL_law 750 = .ok (.ireturn, 1) := by decide +kernel
theorem dL_law_751 : decode cL_law 751 = .ok (.aload_n 1, 1) := by decide +kernel
theorem dL_law_752 : decode cL_law 752 = .ok (.aload_n 0, 1) := by decide +kernel
theorem dL_law_753 : decode cL_law 753 = .ok (.iload_n 3, 1) := by decide +kernel
theorem dL_law_754 : decode cL_law 754 = .ok (.iconst 1, 1) := by decide +kernel
theorem dL_law_755 : decode cL_law 755 = .ok (.iadd, 1) := by decide +kernel
theorem dL_law_756 : decode cL_law 756 = .ok (.iaload, 1) := by decide +kernel
theorem dL_law_757 : decode cL_law 757 = .ok (.invokevirtual 87, 3) := by decide +kernel
theorem dL_law_760 : decode cL_law 760 = .ok (.aload_n 2, 1) := by decide +kernel
theorem dL_law_761 : decode cL_law 761 = .ok (.aload_n 0, 1) := by decide +kernel
theorem dL_law_762 : decode cL_law 762 = .ok (.iload_n 3, 1) := by decide +kernel
theorem dL_law_763 : decode cL_law 763 = .ok (.iconst 1, 1) := by decide +kernel
theorem dL_law_764 : decode cL_law 764 = .ok (.iadd, 1) := by decide +kernel
theorem dL_law_765 : decode cL_law 765 = .ok (.iaload, 1) := by decide +kernel
theorem dL_law_766 : decode cL_law 766 = .ok (.invokevirtual 90, 3) := by decide +kernel
theorem dL_law_769 : decode cL_law 769 = .ok (.if_icmp .eq 120, 3) := by decide +kernel
theorem dL_law_772 : decode cL_law 772 = .ok (.iconst 0, 1) := by decide +kernel
theorem dL_law_773 : decode cL_law 773 = .ok (.ireturn, 1) := by decide +kernel
theorem dL_law_774 : decode cL_law 774 = .ok (.aload_n 1, 1) := by decide +kernel
theorem dL_law_775 : decode cL_law 775 = .ok (.aload_n 0, 1) := by decide +kernel
theorem dL_law_776 : decode cL_law 776 = .ok (.iload_n 3, 1) := by decide +kernel
theorem dL_law_777 : decode cL_law 777 = .ok (.iconst 1, 1) := by decide +kernel
theorem dL_law_778 : decode cL_law 778 = .ok (.iadd, 1) := by decide +kernel
theorem dL_law_779 : decode cL_law 779 = .ok (.iaload, 1) := by decide +kernel
theorem dL_law_780 : decode cL_law 780 = .ok (.aload_n 0, 1) := by decide +kernel
theorem dL_law_781 : decode cL_law 781 = .ok (.iload_n 3, 1) := by decide +kernel
theorem dL_law_782 : decode cL_law 782 = .ok (.iconst 2, 1) := by decide +kernel
theorem dL_law_783 : decode cL_law 783 = .ok (.iadd, 1) := by decide +kernel
theorem dL_law_784 : decode cL_law 784 = .ok (.iaload, 1) := by decide +kernel
theorem dL_law_785 : decode cL_law 785 = .ok (.invokevirtual 91, 3) := by decide +kernel
theorem dL_law_788 : decode cL_law 788 = .ok (.aload_n 2, 1) := by decide +kernel
theorem dL_law_789 : decode cL_law 789 = .ok (.aload_n 0, 1) := by decide +kernel
theorem dL_law_790 : decode cL_law 790 = .ok (.iload_n 3, 1) := by decide +kernel
theorem dL_law_791 : decode cL_law 791 = .ok (.iconst 1, 1) := by decide +kernel
theorem dL_law_792 : decode cL_law 792 = .ok (.iadd, 1) := by decide +kernel
theorem dL_law_793 : decode cL_law 793 = .ok (.iaload, 1) := by decide +kernel
theorem dL_law_794 : decode cL_law 794 = .ok (.aload_n 0, 1) := by decide +kernel
theorem dL_law_795 : decode cL_law 795 = .ok (.iload_n 3, 1) := by decide +kernel
theorem dL_law_796 : decode cL_law 796 = .ok (.iconst 2, 1) := by decide +kernel
theorem dL_law_797 : decode cL_law 797 = .ok (.iadd, 1) := by decide +kernel
theorem dL_law_798 : decode cL_law 798 = .ok (.iaload, 1) := by decide +kernel
theorem dL_law_799 : decode cL_law 799 = .ok (.invokevirtual 94, 3) := by decide +kernel
theorem dL_law_802 : decode cL_law 802 = .ok (.if_icmp .eq 87, 3) := by decide +kernel
theorem dL_law_805 : decode cL_law 805 = .ok (.iconst 0, 1) := by decide +kernel
theorem dL_law_806 : decode cL_law 806 = .ok (.ireturn, 1) := by decide +kernel
theorem dL_law_807 : decode cL_law 807 = .ok (.aload_n 1, 1) := by decide +kernel
theorem dL_law_808 : decode cL_law 808 = .ok (.invokevirtual 95, 3) := by decide +kernel
theorem dL_law_811 : decode cL_law 811 = .ok (.aload_n 2, 1) := by decide +kernel
theorem dL_law_812 : decode cL_law 812 = .ok (.invokevirtual 98, 3) := by decide +kernel
theorem dL_law_815 : decode cL_law 815 = .ok (.if_icmp .eq 74, 3) := by decide +kernel
theorem dL_law_818 : decode cL_law 818 = .ok (.iconst 0, 1) := by decide +kernel
theorem dL_law_819 : decode cL_law 819 = .ok (.ireturn, 1) := by decide +kernel
theorem dL_law_820 : decode cL_law 820 = .ok (.aload_n 1, 1) := by decide +kernel
theorem dL_law_821 : decode cL_law 821 = .ok (.aload_n 0, 1) := by decide +kernel
theorem dL_law_822 : decode cL_law 822 = .ok (.iload_n 3, 1) := by decide +kernel
theorem dL_law_823 : decode cL_law 823 = .ok (.iconst 1, 1) := by decide +kernel
theorem dL_law_824 : decode cL_law 824 = .ok (.iadd, 1) := by decide +kernel
theorem dL_law_825 : decode cL_law 825 = .ok (.iaload, 1) := by decide +kernel
theorem dL_law_826 : decode cL_law 826 = .ok (.invokevirtual 99, 3) := by decide +kernel
theorem dL_law_829 : decode cL_law 829 = .ok (.aload_n 2, 1) := by decide +kernel
theorem dL_law_830 : decode cL_law 830 = .ok (.aload_n 0, 1) := by decide +kernel
theorem dL_law_831 : decode cL_law 831 = .ok (.iload_n 3, 1) := by decide +kernel
theorem dL_law_832 : decode cL_law 832 = .ok (.iconst 1, 1) := by decide +kernel
theorem dL_law_833 : decode cL_law 833 = .ok (.iadd, 1) := by decide +kernel
theorem dL_law_834 : decode cL_law 834 = .ok (.iaload, 1) := by decide +kernel
theorem dL_law_835 : decode cL_law 835 = .ok (.invokevirtual 102, 3) := by decide +kernel
theorem dL_law_838 : decode cL_law 838 = .ok (.if_icmp .eq 51, 3) := by decide +kernel
theorem dL_law_841 : decode cL_law 841 = .ok (.iconst 0, 1) := by decide +kernel
theorem dL_law_842 : decode cL_law 842 = .ok (.ireturn, 1) := by decide +kernel
theorem dL_law_843 : decode cL_law 843 = .ok (.aload_n 1, 1) := by decide +kernel
theorem dL_law_844 : decode cL_law 844 = .ok (.aload_n 0, 1) := by decide +kernel
theorem dL_law_845 : decode cL_law 845 = .ok (.iload_n 3, 1) := by decide +kernel
theorem dL_law_846 : decode cL_law 846 = .ok (.iconst 1, 1) := by decide +kernel
theorem dL_law_847 : decode cL_law 847 = .ok (.iadd, 1) := by decide +kernel
theorem dL_law_848 : decode cL_law 848 = .ok (.iaload, 1) := by decide +kernel
theorem dL_law_849 : decode cL_law 849 = .ok (.invokevirtual 103, 3) := by decide +kernel
theorem dL_law_852 : decode cL_law 852 = .ok (.aload_n 2, 1) := by decide +kernel
theorem dL_law_853 : decode cL_law 853 = .ok (.aload_n 0, 1) := by decide +kernel
theorem dL_law_854 : decode cL_law 854 = .ok (.iload_n 3, 1) := by decide +kernel
theorem dL_law_855 : decode cL_law 855 = .ok (.iconst 1, 1) := by decide +kernel
theorem dL_law_856 : decode cL_law 856 = .ok (.iadd, 1) := by decide +kernel
theorem dL_law_857 : decode cL_law 857 = .ok (.iaload, 1) := by decide +kernel
theorem dL_law_858 : decode cL_law 858 = .ok (.invokevirtual 106, 3) := by decide +kernel
theorem dL_law_861 : decode cL_law 861 = .ok (.if_icmp .eq 28, 3) := by decide +kernel
theorem dL_law_864 : decode cL_law 864 = .ok (.iconst 0, 1) := by decide +kernel
theorem dL_law_865 : decode cL_law 865 = .ok (.ireturn, 1) := by decide +kernel
theorem dL_law_866 : decode cL_law 866 = .ok (.aload_n 1, 1) := by decide +kernel
theorem dL_law_867 : decode cL_law 867 = .ok (.aload_n 0, 1) := by decide +kernel
theorem dL_law_868 : decode cL_law 868 = .ok (.iload_n 3, 1) := by decide +kernel
theorem dL_law_869 : decode cL_law 869 = .ok (.iconst 1, 1) := by decide +kernel
theorem dL_law_870 : decode cL_law 870 = .ok (.iadd, 1) := by decide +kernel
theorem dL_law_871 : decode cL_law 871 = .ok (.iaload, 1) := by decide +kernel
theorem dL_law_872 : decode cL_law 872 = .ok (.invokevirtual 107, 3) := by decide +kernel
theorem dL_law_875 : decode cL_law 875 = .ok (.aload_n 2, 1) := by decide +kernel
theorem dL_law_876 : decode cL_law 876 = .ok (.aload_n 0, 1) := by decide +kernel
theorem dL_law_877 : decode cL_law 877 = .ok (.iload_n 3, 1) := by decide +kernel
theorem dL_law_878 : decode cL_law 878 = .ok (.iconst 1, 1) := by decide +kernel
theorem dL_law_879 : decode cL_law 879 = .ok (.iadd, 1) := by decide +kernel
theorem dL_law_880 : decode cL_law 880 = .ok (.iaload, 1) := by decide +kernel
theorem dL_law_881 : decode cL_law 881 = .ok (.invokevirtual 110, 3) := by decide +kernel
theorem dL_law_884 : decode cL_law 884 = .ok (.if_icmp .eq 5, 3) := by decide +kernel
theorem dL_law_887 : decode cL_law 887 = .ok (.iconst 0, 1) := by decide +kernel
theorem dL_law_888 : decode cL_law 888 = .ok (.ireturn, 1) := by decide +kernel
theorem dL_law_889 : decode cL_law 889 = .ok (.iinc 3 6, 3) := by decide +kernel
theorem dL_law_892 : decode cL_law 892 = .ok (.goto (-874), 3) := by decide +kernel
theorem dL_law_895 : decode cL_law 895 = .ok (.iconst 1, 1) := by decide +kernel
theorem dL_law_896 : decode cL_law 896 = .ok (.ireturn, 1) := by decide +kernel
end
section
/-! A small machine over the large one: cells by number (0 .. 347, made in this order by the two constructors), ints as Int in range, references as cell numbers. -/
/-- the tables' words that stay good through calls -/
def lw_gd : List Cond := lw_tbl.filter goodWord
theorem mm_gd {w : Cond} (h : w ∈ lw_tbl) (hg : goodWord w = true) : w ∈ lw_gd := List.mem_filter.mpr ⟨h, hg⟩
abbrev mm_V : Type := Int ⊕ Option Nat
abbrev mm_S : Type := (Nat → Nat → Int) × (Nat → Nat → Option Nat) × Nat
abbrev mm_K : Type := List mm_V → List mm_V → mm_S → Prop
abbrev mm_T : Type := List mm_V → mm_S → (Option mm_V → mm_S → Prop) → Prop
abbrev mm_G : Type := Nat × va_G × (Nat → ClassId) × (Nat → Nat)
def mm_in (z : Int) : Prop := -2147483648 ≤ z ∧ z < 2147483648
def mm_iv (v : mm_V) : Prop := match v with
  | .inl z => mm_in z
  | .inr _ => True
/-- what stands at a cell: an object of class kd < 100 (its number in vwCl) with n fields; 100 an int array; 101 Sheet[], 102 World[], 103 Image[] -/
def mm_shW : List (Nat × Nat) := [(9, 5), (100, 12), (100, 12), (101, 6), (6, 1), (100, 21), (6, 1), (100, 21), (6, 1), (100, 21), (6, 1), (100, 21), (6, 1), (100, 21), (6, 1), (100, 21)]
def mm_shA : List (Nat × Nat) := [(7, 9), (1, 2), (100, 12), (1, 2), (100, 18), (1, 2), (100, 48), (100, 12), (100, 18), (100, 18), (100, 18), (4, 2), (100, 72), (1, 2), (100, 420), (1, 2), (100, 840), (100, 21), (6, 1), (100, 21), (6, 1), (100, 21), (100, 21)]
def mm_shM : List (Nat × Nat) := [(11, 13), (100, 2909), (100, 2), (100, 20), (100, 20), (100, 12), (100, 18), (100, 36), (100, 420), (100, 840)]
def mm_shL : List (Nat × Nat) := [(10, 7), (8, 12)] ++ (mm_shW ++ (mm_shA ++ ([(5, 3), (102, 16)] ++ ((List.replicate 16 mm_shW).flatten ++ ([(0, 3), (100, 20), (100, 20), (2, 1), (103, 2), (3, 3)] ++ (mm_shW ++ ([(3, 3)] ++ (mm_shW ++ mm_shM))))))))
def mm_sh (a : Nat) : Nat × Nat := mm_shL.getD a (999, 0)
def mm_ss : Nat → Nat
  | 0 => 0
  | k + 1 => mm_ss k + (mm_sh k).2
/-- which fields hold references -/
def mm_rf (ci j : Nat) : Bool := match ci with
  | 0 => decide (j < 2)
  | 1 => decide (j = 0)
  | 2 => false
  | 3 => decide (j = 0)
  | 4 => decide (j = 0)
  | 5 => decide (j = 0)
  | 6 => decide (j = 0)
  | 7 => decide (j < 7)
  | 8 => decide (j < 9)
  | 9 => decide (2 ≤ j)
  | 10 => true
  | _ => decide (j = 0) || (decide (4 ≤ j) && !decide (j = 7))
def mm_ad (G : mm_G) (a : Nat) : Nat := if a < 1000000 then G.1 + a else G.2.2.2 (a - 1000000)
def mm_v (G : mm_G) (v : mm_V) : Value := match v with
  | .inl z => .int (Int32.ofInt z)
  | .inr none => .null
  | .inr (some a) => .ref (mm_ad G a)
def mm_fv (G : mm_G) (ci j : Nat) (σ : mm_S) (a : Nat) : Value := if mm_rf ci j = true then mm_v G (.inr (σ.2.1 a j)) else .int (Int32.ofInt (σ.1 a j))
def mm_E (G : mm_G) (σ : mm_S) (a : Nat) : va_E :=
  if (mm_sh a).1 < 100 then .inr ((mm_sh a).1, (List.range (mm_sh a).2).map (fun j => mm_fv G (mm_sh a).1 j σ a))
  else if (mm_sh a).1 = 100 then .inl (G.2.2.1 100, (mm_sh a).2, .inl (fun j => Int32.ofInt (σ.1 a j)))
  else .inl (G.2.2.1 (mm_sh a).1, (mm_sh a).2, .inr (.inr (.inr (.inr (fun j => (σ.2.1 a j).map (mm_ad G))))))
def mm_A (G : mm_G) : Nat → Prop := fun q => G.1 ≤ q
def mm_tys (G : mm_G) : List (ClassId × FieldType) := [(G.2.2.1 100, .int), (G.2.2.1 101, .object RX7), (G.2.2.1 102, .object RX10), (G.2.2.1 103, .object RX3)]
/-- the static tables: WAYS, BACK, LOW, HIGH, EDGE -/
def mm_tn (t : Nat) : String := match t with
  | 0 => "WAYS"
  | 1 => "BACK"
  | 2 => "LOW"
  | 3 => "HIGH"
  | _ => "EDGE"
def mm_tl (t : Nat) : List Int := match t with
  | 0 => [0, 1, 2, 0, 2, 1, 1, 0, 2, 1, 2, 0, 2, 0, 1, 2, 1, 0]
  | 1 => [0, 1, 2, 4, 3, 5]
  | 2 => [0, 0, 0, 1, 1, 2]
  | 3 => [1, 2, 3, 2, 3, 3]
  | _ => [-1, 0, 1, 2, 0, -1, 3, 4, 1, 3, -1, 5, 2, 4, 5, -1]
def mm_tb (t j : Nat) : Int := (mm_tl t).getD j 0
def mm_Z (G : mm_G) (U : State) : Prop := ∀ t, t < 5 → va_Z RX6 (mm_tn t) "[I" (.ref (G.2.2.2 t)) (mm_A G) U U.heap ∧ va_T .int (G.2.2.2 t) (mm_tl t).length (fun j => .int (Int32.ofInt (mm_tb t j))) (mm_A G) U U.heap
def mm_P (G : mm_G) (σ : mm_S) (H : Heap) : Prop := (∀ a, a < σ.2.2 → va_at G.2.1 vwCl (G.1 + a, mm_E G σ a) H) ∧ (∀ a j, mm_in (σ.1 a j)) ∧ (σ.2.2 = 348 ∨ H.size = G.1 + σ.2.2) ∧ σ.2.2 ≤ 348
def mm_W (G : mm_G) (σ : mm_S) (U : State) : Prop := mm_P G σ U.heap ∧ va_K G.2.1 vwCl (mm_tys G) U ∧ mm_Z G U
def mm_L (G : mm_G) (lsM : Array Slot) (ls : List mm_V) : Prop := lsM.size = ls.length ∧ lv_wf lsM ∧ ∀ (i : Nat) (v : mm_V), ls[i]? = some v → v ≠ .inr none → lsM[i]? = some (.val (mm_v G v))
def mm_imp (K K' : mm_K) : Prop := ∀ ls st σ, K ls st σ → K' ls st σ
def mm_C (p : Program) (G : mm_G) (s : State) (m : MethodId) (args : Array Value) (meth : Method) (c : Code) (cc : ByteArray) (own : String) : Prop :=
  p.tables.exec = Jvm.exec ∧ c.code = cc ∧ s.vm.findClass own = some m.cls ∧ (∀ w ∈ lw_gd, w.before args s = true) ∧ va_K G.2.1 vwCl (mm_tys G) s ∧ mm_Z G s ∧ meth.locks = false ∧ G.1 ≤ s.heap.size
def mm_PP (G : mm_G) (k0 : Nat) (R : Room) (σ : mm_S) (H : Heap) : Prop := mm_P G σ H ∧ k0 ≤ σ.2.2 ∧ σ.2.2 ≤ k0 + R.cells ∧ mm_ss σ.2.2 ≤ mm_ss k0 + R.slots
def mm_O (p : Program) (l : Launch) (e : Env) (R : Room) (s : State) (m : MethodId) (args : Array Value) (below : List Frame) (meth : Method) (c : Code) (G : mm_G) (k0 : Nat) (Q : State → Prop) (pc : Nat) : mm_K := fun ls st σ =>
  (∀ v ∈ ls, mm_iv v) → (∀ v ∈ st, mm_iv v) → ∀ (lsM : Array Slot) (H : Heap) (locs : List Loc), mm_L G lsM ls → c.maxLocals = ls.length → mm_PP G k0 R σ H → va_S (mm_A G) s.heap H locs →
    W p l e R s m args below meth c H locs (σ.2.2 - k0) (mm_ss σ.2.2 - mm_ss k0) Q (F0 m pc lsM (st.map (mm_v G)))
/-! the instructions as transformers -/
def mm_set (I : Nat → Nat → Int) (a j : Nat) (z : Int) : Nat → Nat → Int := fun b i => if b = a ∧ i = j then z else I b i
def mm_setR (I : Nat → Nat → Option Nat) (a j : Nat) (z : Option Nat) : Nat → Nat → Option Nat := fun b i => if b = a ∧ i = j then z else I b i
def i_ld (i : Nat) (K : mm_K) : mm_K := fun ls st σ => match ls[i]? with
  | some (.inl z) => K ls (.inl z :: st) σ
  | _ => False
def i_la (i : Nat) (K : mm_K) : mm_K := fun ls st σ => match ls[i]? with
  | some (.inr (some a)) => K ls (.inr (some a) :: st) σ
  | _ => False
def i_st (i : Nat) (K : mm_K) : mm_K := fun ls st σ => match st with
  | .inl z :: r => i < ls.length ∧ K (ls.set i (.inl z)) r σ
  | _ => False
def i_sa (i : Nat) (K : mm_K) : mm_K := fun ls st σ => match st with
  | .inr (some a) :: r => i < ls.length ∧ K (ls.set i (.inr (some a))) r σ
  | _ => False
def i_c (z : Int) (K : mm_K) : mm_K := fun ls st σ => K ls (.inl z :: st) σ
def i_inc (i : Nat) (d : Int) (K : mm_K) : mm_K := fun ls st σ => match ls[i]? with
  | some (.inl z) => mm_in (z + d) ∧ K (ls.set i (.inl (z + d))) st σ
  | _ => False
def i_add (K : mm_K) : mm_K := fun ls st σ => match st with
  | .inl y :: .inl x :: r => mm_in (x + y) ∧ K ls (.inl (x + y) :: r) σ
  | _ => False
def i_sub (K : mm_K) : mm_K := fun ls st σ => match st with
  | .inl y :: .inl x :: r => mm_in (x - y) ∧ K ls (.inl (x - y) :: r) σ
  | _ => False
def i_mul (K : mm_K) : mm_K := fun ls st σ => match st with
  | .inl y :: .inl x :: r => mm_in (x * y) ∧ K ls (.inl (x * y) :: r) σ
  | _ => False
def i_div (K : mm_K) : mm_K := fun ls st σ => match st with
  | .inl y :: .inl x :: r => (0 ≤ x ∧ 0 < y) ∧ K ls (.inl (x / y) :: r) σ
  | _ => False
def i_rem (K : mm_K) : mm_K := fun ls st σ => match st with
  | .inl y :: .inl x :: r => (0 ≤ x ∧ 0 < y) ∧ K ls (.inl (x % y) :: r) σ
  | _ => False
def i_remT (K : mm_K) : mm_K := fun ls st σ => match st with
  | .inl y :: .inl x :: r => 0 < y ∧ K ls (.inl (x.tmod y) :: r) σ
  | _ => False
def i_xor (K : mm_K) : mm_K := fun ls st σ => match st with
  | .inl y :: .inl x :: r => (0 ≤ x ∧ 0 ≤ y) ∧ K ls (.inl ((x.toNat ^^^ y.toNat : Nat) : Int) :: r) σ
  | _ => False
def i_dup (K : mm_K) : mm_K := fun ls st σ => match st with
  | v :: r => K ls (v :: v :: r) σ
  | _ => False
def i_dup2 (K : mm_K) : mm_K := fun ls st σ => match st with
  | v :: w :: r => K ls (v :: w :: v :: w :: r) σ
  | _ => False
def i_if (P : Int → Prop) (T K : mm_K) : mm_K := fun ls st σ => match st with
  | .inl x :: r => (P x → T ls r σ) ∧ (¬ P x → K ls r σ)
  | _ => False
def i_if2 (P : Int → Int → Prop) (T K : mm_K) : mm_K := fun ls st σ => match st with
  | .inl y :: .inl x :: r => (P x y → T ls r σ) ∧ (¬ P x y → K ls r σ)
  | _ => False
def i_sw (Ok : Nat → mm_K) (d : Nat) : List (Int × Nat) → mm_K
  | [] => fun ls st σ => match st with
    | .inl _ :: r => Ok d ls r σ
    | _ => False
  | (z, t) :: cs => fun ls st σ => match st with
    | .inl x :: r => (x = z → Ok t ls r σ) ∧ (¬ x = z → i_sw Ok d cs ls (.inl x :: r) σ)
    | _ => False
def i_gi (ci j : Nat) (K : mm_K) : mm_K := fun ls st σ => match st with
  | .inr (some a) :: r => (a < σ.2.2 ∧ (mm_sh a).1 = ci) ∧ (mm_in (σ.1 a j) → K ls (.inl (σ.1 a j) :: r) σ)
  | _ => False
def i_gr (ci j : Nat) (K : mm_K) : mm_K := fun ls st σ => match st with
  | .inr (some a) :: r => (a < σ.2.2 ∧ (mm_sh a).1 = ci) ∧ ∃ b, σ.2.1 a j = some b ∧ K ls (.inr (some b) :: r) σ
  | _ => False
def i_pi (ci j : Nat) (K : mm_K) : mm_K := fun ls st σ => match st with
  | .inl z :: .inr (some a) :: r => (a < σ.2.2 ∧ (mm_sh a).1 = ci) ∧ K ls r (mm_set σ.1 a j z, σ.2)
  | _ => False
def i_pz (ci j : Nat) (K : mm_K) : mm_K := fun ls st σ => match st with
  | .inl z :: .inr (some a) :: r => (a < σ.2.2 ∧ (mm_sh a).1 = ci ∧ (z = 0 ∨ z = 1)) ∧ K ls r (mm_set σ.1 a j z, σ.2)
  | _ => False
def i_pr (ci j : Nat) (K : mm_K) : mm_K := fun ls st σ => match st with
  | .inr (some b) :: .inr (some a) :: r => (a < σ.2.2 ∧ (mm_sh a).1 = ci) ∧ K ls r (σ.1, mm_setR σ.2.1 a j (some b), σ.2.2)
  | _ => False
def i_ial (K : mm_K) : mm_K := fun ls st σ => match st with
  | .inl i :: .inr (some a) :: r => (a < σ.2.2 ∧ (mm_sh a).1 = 100 ∧ 0 ≤ i ∧ i < (mm_sh a).2) ∧ (mm_in (σ.1 a i.toNat) → K ls (.inl (σ.1 a i.toNat) :: r) σ)
  | _ => False
def i_ias (K : mm_K) : mm_K := fun ls st σ => match st with
  | .inl z :: .inl i :: .inr (some a) :: r => (a < σ.2.2 ∧ (mm_sh a).1 = 100 ∧ 0 ≤ i ∧ i < (mm_sh a).2) ∧ K ls r (mm_set σ.1 a i.toNat z, σ.2)
  | _ => False
def i_len (K : mm_K) : mm_K := fun ls st σ => match st with
  | .inr (some a) :: r => (a < σ.2.2 ∧ 100 ≤ (mm_sh a).1) ∧ K ls (.inl ((mm_sh a).2 : Int) :: r) σ
  | _ => False
def i_aal (kd : Nat) (K : mm_K) : mm_K := fun ls st σ => match st with
  | .inl i :: .inr (some a) :: r => (a < σ.2.2 ∧ (mm_sh a).1 = kd ∧ 0 ≤ i ∧ i < (mm_sh a).2) ∧ ∃ b, σ.2.1 a i.toNat = some b ∧ K ls (.inr (some b) :: r) σ
  | _ => False
def i_aas (kd ci : Nat) (K : mm_K) : mm_K := fun ls st σ => match st with
  | .inr (some b) :: .inl i :: .inr (some a) :: r => ((a < σ.2.2 ∧ (mm_sh a).1 = kd ∧ 0 ≤ i ∧ i < (mm_sh a).2) ∧ b < σ.2.2 ∧ (mm_sh b).1 = ci) ∧ K ls r (σ.1, mm_setR σ.2.1 a i.toNat (some b), σ.2.2)
  | _ => False
def i_gs (t : Nat) (K : mm_K) : mm_K := fun ls st σ => K ls (.inr (some (1000000 + t)) :: st) σ
def i_tal (t : Nat) (K : mm_K) : mm_K := fun ls st σ => match st with
  | .inl i :: .inr (some a) :: r => (a = 1000000 + t ∧ 0 ≤ i ∧ i < (mm_tl t).length) ∧ K ls (.inl (mm_tb t i.toNat) :: r) σ
  | _ => False
def mm_new (σ : mm_S) : mm_S := (fun b i => if b = σ.2.2 then 0 else σ.1 b i, fun b i => if b = σ.2.2 then none else σ.2.1 b i, σ.2.2 + 1)
def i_new (k0 mc ms ci : Nat) (K : mm_K) : mm_K := fun ls st σ => ((mm_sh σ.2.2).1 = ci ∧ σ.2.2 < 348 ∧ σ.2.2 + 1 ≤ k0 + mc ∧ mm_ss (σ.2.2 + 1) ≤ mm_ss k0 + ms) ∧ K ls (.inr (some σ.2.2) :: st) (mm_new σ)
def i_newa (k0 mc ms kd : Nat) (K : mm_K) : mm_K := fun ls st σ => match st with
  | .inl n :: r => (mm_sh σ.2.2 = (kd, n.toNat) ∧ 0 ≤ n ∧ σ.2.2 < 348 ∧ σ.2.2 + 1 ≤ k0 + mc ∧ mm_ss (σ.2.2 + 1) ≤ mm_ss k0 + ms) ∧ K ls (.inr (some σ.2.2) :: r) (mm_new σ)
  | _ => False
def i_oi (K : mm_K) : mm_K := fun ls st σ => match st with
  | .inr (some _) :: r => r.length ≤ 4 ∧ K ls r σ
  | _ => False
def i_cv (ci n : Nat) (T : mm_T) (K : mm_K) : mm_K := fun ls st σ => match st.drop n with
  | .inr (some a) :: r => (n ≤ st.length ∧ a < σ.2.2 ∧ (mm_sh a).1 = ci ∧ r.length ≤ 8) ∧ T (.inr (some a) :: (st.take n).reverse) σ (fun v τ => K ls (v.toList ++ r) τ)
  | _ => False
def i_cs (n : Nat) (T : mm_T) (K : mm_K) : mm_K := fun ls st σ => (n ≤ st.length ∧ (st.drop n).length ≤ 8) ∧ T (st.take n).reverse σ (fun v τ => K ls (v.toList ++ st.drop n) τ)
def i_ir (Post : Option mm_V → mm_S → Prop) (kf : Nat) : mm_K := fun ls st σ => match st with
  | [.inl z] => σ.2.2 = kf ∧ Post (some (.inl z)) σ
  | _ => False
def i_zr (Post : Option mm_V → mm_S → Prop) (kf : Nat) : mm_K := fun ls st σ => match st with
  | [.inl z] => σ.2.2 = kf ∧ (z = 0 ∨ z = 1) ∧ Post (some (.inl z)) σ
  | _ => False
def i_vr (Post : Option mm_V → mm_S → Prop) (kf : Nat) : mm_K := fun ls st σ => match st with
  | [] => σ.2.2 = kf ∧ Post none σ
  | _ => False
def i_min (K : mm_K) : mm_K := fun ls st σ => match st with
  | .inl y :: .inl x :: r => r.length ≤ 4 ∧ K ls (.inl (if y < x then y else x) :: r) σ
  | _ => False
def i_max (K : mm_K) : mm_K := fun ls st σ => match st with
  | .inl y :: .inl x :: r => r.length ≤ 4 ∧ K ls (.inl (if x < y then y else x) :: r) σ
  | _ => False
def mm_cpy (I : Nat → Nat → Int) (a b sp dp n : Nat) : Nat → Nat → Int := fun x j => if x = b ∧ dp ≤ j ∧ j < dp + n then I a (sp + (j - dp)) else I x j
def i_cpy (K : mm_K) : mm_K := fun ls st σ => match st with
  | .inl n :: .inl dp :: .inr (some b) :: .inl sp :: .inr (some a) :: r =>
    (a < σ.2.2 ∧ b < σ.2.2 ∧ (mm_sh a).1 = 100 ∧ (mm_sh b).1 = 100 ∧ 0 ≤ n ∧ 0 ≤ dp ∧ 0 ≤ sp ∧ sp + n ≤ (mm_sh a).2 ∧ dp + n ≤ (mm_sh b).2 ∧ σ.2.2 = 348 ∧ r = []) ∧ K ls r (mm_cpy σ.1 a b sp.toNat dp.toNat n.toNat, σ.2)
  | _ => False
/-- a constructor that makes mc cells of ms slots, called by one that may make mc0, ms0 from k0 on -/
def i_ci (k0 mc0 ms0 mc ms n : Nat) (T : mm_T) (K : mm_K) : mm_K := fun ls st σ => match st.drop n with
  | .inr (some a) :: r => (n ≤ st.length ∧ a < σ.2.2 ∧ r.length ≤ 8 ∧ σ.2.2 + mc ≤ k0 + mc0 ∧ mm_ss σ.2.2 + ms ≤ mm_ss k0 + ms0) ∧ T (.inr (some a) :: (st.take n).reverse) σ (fun v τ => K ls (v.toList ++ r) τ)
  | _ => False
def mm_cl (ci : Nat) (C : String) (T : u_T) (N : Nat) (ty : Nat → FieldType) : Prop := vwCl[ci]? = some (C, T, N) ∧ (∀ w ∈ u_ws C T N, w ∈ lw_gd) ∧ (∀ k, k < N → parseFieldDescriptor (T k).2.2.1 = some (ty k)) ∧ (∀ a, a < N → ∀ b, b < N → a ≠ b → (T a).2.1 ≠ (T b).2.1)
theorem cl_0 : mm_cl 0 RX0 TX0 3 tyX0 := ⟨rfl, fun w h => mm_gd (inX0 w h) ((by decide +kernel : ∀ w ∈ wsX00, goodWord w = true) w h), tyX0_ok, nmX0⟩
theorem cl_1 : mm_cl 1 RX1 TX1 2 tyX1 := ⟨rfl, fun w h => mm_gd (inX1 w h) ((by decide +kernel : ∀ w ∈ wsX10, goodWord w = true) w h), tyX1_ok, nmX1⟩
theorem cl_2 : mm_cl 2 RX2 TX2 1 tyX2 := ⟨rfl, fun w h => mm_gd (inX2 w h) ((by decide +kernel : ∀ w ∈ wsX20, goodWord w = true) w h), tyX2_ok, nmX2⟩
theorem cl_3 : mm_cl 3 RX3 TX3 3 tyX3 := ⟨rfl, fun w h => mm_gd (inX3 w h) ((by decide +kernel : ∀ w ∈ wsX30, goodWord w = true) w h), tyX3_ok, nmX3⟩
theorem cl_4 : mm_cl 4 RX4 TX4 2 tyX4 := ⟨rfl, fun w h => mm_gd (inX4 w h) ((by decide +kernel : ∀ w ∈ wsX40, goodWord w = true) w h), tyX4_ok, nmX4⟩
theorem cl_5 : mm_cl 5 RX5 TX5 3 tyX5 := ⟨rfl, fun w h => mm_gd (inX5 w h) ((by decide +kernel : ∀ w ∈ wsX50, goodWord w = true) w h), tyX5_ok, nmX5⟩
theorem cl_6 : mm_cl 6 RX7 TX7 1 tyX7 := ⟨rfl, fun w h => mm_gd (inX7 w h) ((by decide +kernel : ∀ w ∈ wsX70, goodWord w = true) w h), tyX7_ok, nmX7⟩
theorem cl_7 : mm_cl 7 RX8 TX8 9 tyX8 := ⟨rfl, fun w h => mm_gd (inX8 w h) ((by decide +kernel : ∀ w ∈ wsX80, goodWord w = true) w h), tyX8_ok, nmX8⟩
theorem cl_8 : mm_cl 8 RX9 TX9 12 tyX9 := ⟨rfl, fun w h => mm_gd (inX9 w h) ((by decide +kernel : ∀ w ∈ wsX90, goodWord w = true) w h), tyX9_ok, nmX9⟩
theorem cl_9 : mm_cl 9 RX10 TX10 5 tyX10 := ⟨rfl, fun w h => mm_gd (inX10 w h) ((by decide +kernel : ∀ w ∈ wsX100, goodWord w = true) w h), tyX10_ok, nmX10⟩
theorem cl_10 : mm_cl 10 RX11 TX11 7 tyX11 := ⟨rfl, fun w h => mm_gd (inX11 w h) ((by decide +kernel : ∀ w ∈ wsX110, goodWord w = true) w h), tyX11_ok, nmX11⟩
theorem cl_11 : mm_cl 11 RX12 TX12 13 tyX12 := ⟨rfl, fun w h => mm_gd (inX12 w h) ((by decide +kernel : ∀ w ∈ wsX120, goodWord w = true) w h), tyX12_ok, nmX12⟩
def mm_rin (r : Option mm_V) : Prop := match r with
  | some v => mm_iv v
  | none => True
def mm_Qc (G : mm_G) (σ : mm_S) (mc ms : Nat) (Post : Option mm_V → mm_S → Prop) : Array Value → State → Outcome → State → Prop := fun _ st o t =>
  (∃ (r : Option mm_V) (τ : mm_S), o = .returned (r.map (mm_v G)) ∧ mm_rin r ∧ Post r τ ∧ mm_W G τ t ∧ τ.2.2 = σ.2.2 + mc ∧ mm_ss τ.2.2 = mm_ss σ.2.2 + ms) ∧ va_F (mm_A G) st t
def mm_Pc (G : mm_G) (av : List mm_V) (σ : mm_S) : Array Value → State → Prop := fun v U => v = (av.map (mm_v G)).toArray ∧ mm_W G σ U ∧ G.1 ≤ U.heap.size
def mm_wds (y : MethodName) (bytes : ByteArray) (maxL : Nat) (ret : Option FieldType) : List Cond := .code y bytes maxL ret :: lw_gd
/-- the method y does what the transformer T says, from any heap that holds the state -/
def mm_Sp (y : MethodName) (bytes : ByteArray) (maxL : Nat) (ret : Option FieldType) (rm : Room) (T : mm_T) : Prop := ∀ (l : Launch) (G : mm_G) (av : List mm_V) (σ : mm_S) (Post : Option mm_V → mm_S → Prop), (∀ v ∈ av, mm_iv v) → T av σ Post →
  Met l y (mm_wds y bytes maxL ret) rm (mm_Pc G av σ) (mm_Qc G σ rm.cells rm.slots Post) rm.cells rm.slots (mm_A G)
end
section
/-! the transformers hold of the machine -/
theorem mm_shlen : mm_shL.length = 348 := by decide +kernel
theorem mm_shOk : ∀ a, a < 348 → (mm_sh a).2 ≤ 2909 ∧ (mm_sh a).1 < 104 ∧ ((mm_sh a).1 < 100 → (vwCl[(mm_sh a).1]?).map (fun q => q.2.2) = some (mm_sh a).2) := by decide +kernel
theorem mm_toI {z : Int} (h : mm_in z) : (Int32.ofInt z).toInt = z := Int32.toInt_ofInt_of_le (by have := h.1; omega) (by have := h.2; omega)
theorem mm_ofI (x : Int32) : mm_in x.toInt := ⟨by have := x.le_toInt; omega, by have := x.toInt_lt; omega⟩
theorem mm_clamp {z : Int} (h : mm_in z) : (Int32.ofInt z).toNatClampNeg = z.toNat := by
  rw [Int32.toNatClampNeg, mm_toI h]
theorem mm_lt {x y : Int} (hx : mm_in x) (hy : mm_in y) : Int32.ofInt x < Int32.ofInt y ↔ x < y := by rw [Int32.lt_iff_toInt_lt, mm_toI hx, mm_toI hy]
theorem mm_le {x y : Int} (hx : mm_in x) (hy : mm_in y) : Int32.ofInt x ≤ Int32.ofInt y ↔ x ≤ y := by rw [Int32.le_iff_toInt_le, mm_toI hx, mm_toI hy]
theorem mm_eq {x y : Int} (hx : mm_in x) (hy : mm_in y) : Int32.ofInt x = Int32.ofInt y ↔ x = y := by
  constructor
  · intro h
    rw [← mm_toI hx, ← mm_toI hy, h]
  · intro h
    rw [h]
theorem mm_in0 : mm_in 0 := ⟨by decide, by decide⟩
theorem mm_0 : (0 : Int32) = Int32.ofInt 0 := by decide
theorem mm_vpin {z : Int} {n : Nat} (hz : mm_in z) (h0 : 0 ≤ z) (h1 : z < n) : vp_in (Int32.ofInt z) n := by
  rw [vp_in_iff, mm_toI hz]
  exact ⟨h0, h1⟩
theorem mm_cat (G : mm_G) (v : mm_V) : (mm_v G v).category = 1 := by
  rcases v with z | (_ | a) <;> rfl
theorem mm_catsum (G : mm_G) (r : List mm_V) : ((r.map (mm_v G)).map fun v => v.category).sum = r.length := by
  induction r with
  | nil => rfl
  | cons v r ih => simp only [List.map_cons, List.sum_cons, List.length_cons, mm_cat, ih]; omega
/-! the locals -/
def mm_prf (G : mm_G) (i : Nat) (o : Option mm_V) : Option (Nat × Value) := match o with
  | some (.inr none) => none
  | some (.inr (some a)) => some (i, mm_v G (.inr (some a)))
  | some (.inl z) => some (i, mm_v G (.inl z))
  | none => none
def mm_pr (G : mm_G) (ls : List mm_V) : List (Nat × Value) := (List.range ls.length).filterMap (fun i => mm_prf G i ls[i]?)
theorem mm_pr_mem {G : mm_G} {ls : List mm_V} {q : Nat × Value} : q ∈ mm_pr G ls ↔ ∃ v, ls[q.1]? = some v ∧ v ≠ .inr none ∧ q.2 = mm_v G v := by
  unfold mm_pr
  rw [List.mem_filterMap]
  constructor
  · rintro ⟨i, hi, h⟩
    unfold mm_prf at h
    split at h
    · cases h
    · rename_i a ha
      cases h
      exact ⟨_, ha, by simp, rfl⟩
    · rename_i a ha
      cases h
      exact ⟨_, ha, by simp, rfl⟩
    · cases h
  · rintro ⟨v, h1, h2, h3⟩
    refine ⟨q.1, List.mem_range.mpr (List.getElem?_eq_some_iff.mp h1).1, ?_⟩
    rw [h1]
    obtain ⟨q1, q2⟩ := q
    rcases v with z | (_ | a)
    · rw [show q2 = mm_v G (.inl z) from h3]; rfl
    · exact absurd rfl h2
    · rw [show q2 = mm_v G (.inr (some a)) from h3]; rfl
theorem mm_Lhas {G : mm_G} {lsM : Array Slot} {ls : List mm_V} (h : mm_L G lsM ls) : lv_has lsM ls.length (mm_pr G ls) := by
  refine ⟨h.1, h.2.1, fun q hq => ?_⟩
  obtain ⟨v, h1, h2, h3⟩ := mm_pr_mem.mp hq
  rw [h3]
  exact h.2.2 _ _ h1 h2
theorem mm_Lof {G : mm_G} {ls' : Array Slot} {ls : List mm_V} {i : Nat} {v : mm_V} (hi : i < ls.length)
    (h : lv_has ls' ls.length ((i, mm_v G v) :: (mm_pr G ls).filter (fun q => !(q.1 == i) && !(q.1 + 1 == i && q.2.category == 2)))) : mm_L G ls' (ls.set i v) := by
  refine ⟨by rw [List.length_set]; exact h.1, h.2.1, fun j w hj hw => ?_⟩
  by_cases e : j = i
  · subst e
    rw [List.getElem?_set_self hi] at hj
    cases hj
    exact h.2.2 (j, mm_v G v) List.mem_cons_self
  · rw [List.getElem?_set_ne (fun q => e q.symm)] at hj
    refine h.2.2 (j, mm_v G w) (List.mem_cons_of_mem _ (List.mem_filter.mpr ⟨mm_pr_mem.mpr ⟨w, hj, hw, rfl⟩, ?_⟩))
    simp [e, mm_cat]
theorem mm_ivset {ls : List mm_V} {i : Nat} {v : mm_V} (h : ∀ w ∈ ls, mm_iv w) (hv : mm_iv v) : ∀ w ∈ ls.set i v, mm_iv w := by
  intro w hw
  rcases List.mem_or_eq_of_mem_set hw with h1 | h1
  · exact h w h1
  · rw [h1]; exact hv
theorem mm_ivc {st : List mm_V} {v : mm_V} (hv : mm_iv v) (h : ∀ w ∈ st, mm_iv w) : ∀ w ∈ v :: st, mm_iv w := by
  intro w hw
  rcases List.mem_cons.mp hw with h1 | h1
  · rw [h1]; exact hv
  · exact h w h1
theorem mm_iv1 {st : List mm_V} {v : mm_V} (h : ∀ w ∈ v :: st, mm_iv w) : mm_iv v := h v List.mem_cons_self
theorem mm_ivt {st : List mm_V} {v : mm_V} (h : ∀ w ∈ v :: st, mm_iv w) : ∀ w ∈ st, mm_iv w := fun w hw => h w (List.mem_cons_of_mem _ hw)
section MMS
variable {p : Program} {l : Launch} {e : Env} {R : Room} {s : State} {m : MethodId} {args : Array Value} {below : List Frame} {meth : Method} {c : Code} {G : mm_G} {k0 : Nat} {Q : State → Prop} {cc : ByteArray} {own : String} {pc : Nat} {K : mm_K}
theorem mm_ld_n (hC : mm_C p G s m args meth c cc own) {i : Nat} {k : Fin 4} (hd : decode cc pc = .ok (.iload_n k, 1)) (hi : (k : Nat) = i) (h : mm_imp K (mm_O p l e R s m args below meth c G k0 Q (pc + 1))) : mm_imp (i_ld i K) (mm_O p l e R s m args below meth c G k0 Q pc) := by
  intro ls st σ hk hl hs lsM H locs hL hml hP hS
  unfold i_ld at hk
  split at hk
  · rename_i z hz
    have hv : mm_iv (.inl z) := hl _ (List.mem_of_getElem? hz)
    exact lv_iload_n hC.1 hC.2.1 hd hi (hL.2.2 i _ hz (by simp)) (h _ _ _ hk hl (mm_ivc hv hs) lsM H locs hL hml hP hS)
  · exact hk.elim
theorem mm_ld (hC : mm_C p G s m args meth c cc own) {i : Nat} (hd : decode cc pc = .ok (.iload i, 2)) (h : mm_imp K (mm_O p l e R s m args below meth c G k0 Q (pc + 2))) : mm_imp (i_ld i K) (mm_O p l e R s m args below meth c G k0 Q pc) := by
  intro ls st σ hk hl hs lsM H locs hL hml hP hS
  unfold i_ld at hk
  split at hk
  · rename_i z hz
    have hv : mm_iv (.inl z) := hl _ (List.mem_of_getElem? hz)
    exact lv_iload hC.1 hC.2.1 hd (hL.2.2 i _ hz (by simp)) (h _ _ _ hk hl (mm_ivc hv hs) lsM H locs hL hml hP hS)
  · exact hk.elim
theorem mm_la_n (hC : mm_C p G s m args meth c cc own) {i : Nat} {k : Fin 4} (hd : decode cc pc = .ok (.aload_n k, 1)) (hi : (k : Nat) = i) (h : mm_imp K (mm_O p l e R s m args below meth c G k0 Q (pc + 1))) : mm_imp (i_la i K) (mm_O p l e R s m args below meth c G k0 Q pc) := by
  intro ls st σ hk hl hs lsM H locs hL hml hP hS
  unfold i_la at hk
  split at hk
  · rename_i z hz
    exact lv_aload_n hC.1 hC.2.1 hd hi (hL.2.2 i _ hz (by simp)) (h _ _ _ hk hl (mm_ivc (hl _ (List.mem_of_getElem? hz)) hs) lsM H locs hL hml hP hS)
  · exact hk.elim
theorem mm_la (hC : mm_C p G s m args meth c cc own) {i : Nat} (hd : decode cc pc = .ok (.aload i, 2)) (h : mm_imp K (mm_O p l e R s m args below meth c G k0 Q (pc + 2))) : mm_imp (i_la i K) (mm_O p l e R s m args below meth c G k0 Q pc) := by
  intro ls st σ hk hl hs lsM H locs hL hml hP hS
  unfold i_la at hk
  split at hk
  · rename_i z hz
    exact lv_aload hC.1 hC.2.1 hd (hL.2.2 i _ hz (by simp)) (h _ _ _ hk hl (mm_ivc (hl _ (List.mem_of_getElem? hz)) hs) lsM H locs hL hml hP hS)
  · exact hk.elim
theorem mm_st_n (hC : mm_C p G s m args meth c cc own) {i : Nat} {k : Fin 4} (hd : decode cc pc = .ok (.istore_n k, 1)) (hi : (k : Nat) = i) (h : mm_imp K (mm_O p l e R s m args below meth c G k0 Q (pc + 1))) : mm_imp (i_st i K) (mm_O p l e R s m args below meth c G k0 Q pc) := by
  intro ls st σ hk hl hs lsM H locs hL hml hP hS
  unfold i_st at hk
  split at hk
  · rename_i z r
    exact lv_istore_n hC.1 hC.2.1 hd hi (mm_Lhas hL) hk.1 rfl (fun ls' h' => h _ _ _ hk.2 (mm_ivset hl (mm_iv1 hs)) (mm_ivt hs) ls' H locs (mm_Lof (v := .inl z) hk.1 h') (by rw [List.length_set]; exact hml) hP hS)
  · exact hk.elim
theorem mm_st (hC : mm_C p G s m args meth c cc own) {i : Nat} (hd : decode cc pc = .ok (.istore i, 2)) (h : mm_imp K (mm_O p l e R s m args below meth c G k0 Q (pc + 2))) : mm_imp (i_st i K) (mm_O p l e R s m args below meth c G k0 Q pc) := by
  intro ls st σ hk hl hs lsM H locs hL hml hP hS
  unfold i_st at hk
  split at hk
  · rename_i z r
    exact lv_istore hC.1 hC.2.1 hd (mm_Lhas hL) hk.1 rfl (fun ls' h' => h _ _ _ hk.2 (mm_ivset hl (mm_iv1 hs)) (mm_ivt hs) ls' H locs (mm_Lof (v := .inl z) hk.1 h') (by rw [List.length_set]; exact hml) hP hS)
  · exact hk.elim
theorem mm_sa_n (hC : mm_C p G s m args meth c cc own) {i : Nat} {k : Fin 4} (hd : decode cc pc = .ok (.astore_n k, 1)) (hi : (k : Nat) = i) (h : mm_imp K (mm_O p l e R s m args below meth c G k0 Q (pc + 1))) : mm_imp (i_sa i K) (mm_O p l e R s m args below meth c G k0 Q pc) := by
  intro ls st σ hk hl hs lsM H locs hL hml hP hS
  unfold i_sa at hk
  split at hk
  · rename_i z r
    exact lv_astore_n hC.1 hC.2.1 hd hi (mm_Lhas hL) hk.1 rfl (fun ls' h' => h _ _ _ hk.2 (mm_ivset hl (mm_iv1 hs)) (mm_ivt hs) ls' H locs (mm_Lof (v := .inr (some z)) hk.1 h') (by rw [List.length_set]; exact hml) hP hS)
  · exact hk.elim
theorem mm_sa (hC : mm_C p G s m args meth c cc own) {i : Nat} (hd : decode cc pc = .ok (.astore i, 2)) (h : mm_imp K (mm_O p l e R s m args below meth c G k0 Q (pc + 2))) : mm_imp (i_sa i K) (mm_O p l e R s m args below meth c G k0 Q pc) := by
  intro ls st σ hk hl hs lsM H locs hL hml hP hS
  unfold i_sa at hk
  split at hk
  · rename_i z r
    exact lv_astore hC.1 hC.2.1 hd (mm_Lhas hL) hk.1 rfl (fun ls' h' => h _ _ _ hk.2 (mm_ivset hl (mm_iv1 hs)) (mm_ivt hs) ls' H locs (mm_Lof (v := .inr (some z)) hk.1 h') (by rw [List.length_set]; exact hml) hP hS)
  · exact hk.elim
theorem mm_ic (hC : mm_C p G s m args meth c cc own) {n : Int} (hd : decode cc pc = .ok (.iconst n, 1)) (hn : mm_in n) (h : mm_imp K (mm_O p l e R s m args below meth c G k0 Q (pc + 1))) : mm_imp (i_c n K) (mm_O p l e R s m args below meth c G k0 Q pc) := by
  intro ls st σ hk hl hs lsM H locs hL hml hP hS
  exact lv_iconst hC.1 hC.2.1 hd rfl (h _ _ _ hk hl (mm_ivc (v := .inl n) hn hs) lsM H locs hL hml hP hS)
theorem mm_bp (hC : mm_C p G s m args meth c cc own) {n : Int} (hd : decode cc pc = .ok (.bipush n, 2)) (hn : mm_in n ∧ (Int8.ofInt n).toInt32 = Int32.ofInt n) (h : mm_imp K (mm_O p l e R s m args below meth c G k0 Q (pc + 2))) : mm_imp (i_c n K) (mm_O p l e R s m args below meth c G k0 Q pc) := by
  intro ls st σ hk hl hs lsM H locs hL hml hP hS
  exact lv_bipush hC.1 hC.2.1 hd hn.2 (h _ _ _ hk hl (mm_ivc (v := .inl n) hn.1 hs) lsM H locs hL hml hP hS)
theorem mm_sp (hC : mm_C p G s m args meth c cc own) {n : Int} (hd : decode cc pc = .ok (.sipush n, 3)) (hn : mm_in n ∧ (Int16.ofInt n).toInt32 = Int32.ofInt n) (h : mm_imp K (mm_O p l e R s m args below meth c G k0 Q (pc + 3))) : mm_imp (i_c n K) (mm_O p l e R s m args below meth c G k0 Q pc) := by
  intro ls st σ hk hl hs lsM H locs hL hml hP hS
  exact lv_sipush hC.1 hC.2.1 hd hn.2 (h _ _ _ hk hl (mm_ivc (v := .inl n) hn.1 hs) lsM H locs hL hml hP hS)
theorem mm_ldc (hC : mm_C p G s m args meth c cc own) {n : Int} {idx : Nat} (hd : decode cc pc = .ok (.ldc idx, 2)) (hn : mm_in n) (hw : Cond.constant own idx (Int32.ofInt n) ∈ lw_gd) (h : mm_imp K (mm_O p l e R s m args below meth c G k0 Q (pc + 2))) : mm_imp (i_c n K) (mm_O p l e R s m args below meth c G k0 Q pc) := by
  intro ls st σ hk hl hs lsM H locs hL hml hP hS
  exact lv_ldc hC.1 hC.2.1 hC.2.2.1 (hC.2.2.2.1 _ hw) hd (h _ _ _ hk hl (mm_ivc (v := .inl n) hn hs) lsM H locs hL hml hP hS)
theorem mm_inc (hC : mm_C p G s m args meth c cc own) {i : Nat} {d : Int} (hd : decode cc pc = .ok (.iinc i d, 3)) (h : mm_imp K (mm_O p l e R s m args below meth c G k0 Q (pc + 3))) : mm_imp (i_inc i d K) (mm_O p l e R s m args below meth c G k0 Q pc) := by
  intro ls st σ hk hl hs lsM H locs hL hml hP hS
  unfold i_inc at hk
  split at hk
  · rename_i z hz
    have hi : i < ls.length := (List.getElem?_eq_some_iff.mp hz).1
    obtain ⟨q, hq⟩ := List.getElem?_of_mem (mm_pr_mem.mpr ⟨_, hz, by simp, rfl⟩ : (i, mm_v G (.inl z)) ∈ mm_pr G ls)
    exact lv_iinc (v := Int32.ofInt (z + d)) hC.1 hC.2.1 hd (mm_Lhas hL) hq (Int32.ofInt_add z d).symm hi rfl (fun ls' h' => h _ _ _ hk.2 (mm_ivset hl hk.1) hs ls' H locs (mm_Lof (v := .inl (z + d)) hi h') (by rw [List.length_set]; exact hml) hP hS)
  · exact hk.elim
theorem mm_add (hC : mm_C p G s m args meth c cc own) (hd : decode cc pc = .ok (.iadd, 1)) (h : mm_imp K (mm_O p l e R s m args below meth c G k0 Q (pc + 1))) : mm_imp (i_add K) (mm_O p l e R s m args below meth c G k0 Q pc) := by
  intro ls st σ hk hl hs lsM H locs hL hml hP hS
  unfold i_add at hk
  split at hk
  · rename_i y x r
    exact lv_iadd hC.1 hC.2.1 hd (by rw [← Int32.ofInt_add]; exact h _ _ _ hk.2 hl (mm_ivc (v := .inl (x + y)) hk.1 (mm_ivt (mm_ivt hs))) lsM H locs hL hml hP hS)
  · exact hk.elim
theorem mm_sub (hC : mm_C p G s m args meth c cc own) (hd : decode cc pc = .ok (.isub, 1)) (h : mm_imp K (mm_O p l e R s m args below meth c G k0 Q (pc + 1))) : mm_imp (i_sub K) (mm_O p l e R s m args below meth c G k0 Q pc) := by
  intro ls st σ hk hl hs lsM H locs hL hml hP hS
  unfold i_sub at hk
  split at hk
  · rename_i y x r
    exact lv_isub hC.1 hC.2.1 hd (by rw [← Int32.ofInt_sub]; exact h _ _ _ hk.2 hl (mm_ivc (v := .inl (x - y)) hk.1 (mm_ivt (mm_ivt hs))) lsM H locs hL hml hP hS)
  · exact hk.elim
theorem mm_mul (hC : mm_C p G s m args meth c cc own) (hd : decode cc pc = .ok (.imul, 1)) (h : mm_imp K (mm_O p l e R s m args below meth c G k0 Q (pc + 1))) : mm_imp (i_mul K) (mm_O p l e R s m args below meth c G k0 Q pc) := by
  intro ls st σ hk hl hs lsM H locs hL hml hP hS
  unfold i_mul at hk
  split at hk
  · rename_i y x r
    exact lv_imul hC.1 hC.2.1 hd (by rw [← Int32.ofInt_mul]; exact h _ _ _ hk.2 hl (mm_ivc (v := .inl (x * y)) hk.1 (mm_ivt (mm_ivt hs))) lsM H locs hL hml hP hS)
  · exact hk.elim
theorem mm_divT {x y : Int} (hx : mm_in x) (hy : mm_in y) (h : 0 < y) : Int32.ofInt x / Int32.ofInt y = Int32.ofInt (x.tdiv y) ∧ mm_in (x.tdiv y) := by
  have hb : mm_in (x.tdiv y) := by
    have h1 := Int.natAbs_tdiv_le_natAbs x y
    have h2 := hx.1
    have h3 := hx.2
    rcases Int.le_total 0 x with q | q
    · have := Int.tdiv_nonneg q (Int.le_of_lt h)
      constructor <;> omega
    · have h5 := Int.tdiv_nonneg (a := -x) (b := y) (by omega) (Int.le_of_lt h)
      rw [Int.neg_tdiv] at h5
      constructor <;> omega
  refine ⟨?_, hb⟩
  exact (Int32.ofInt_tdiv (by rw [show Int32.minValue.toInt = -2147483648 by decide]; exact hx.1) (by rw [show Int32.maxValue.toInt = 2147483647 by decide]; have := hx.2; omega) (by rw [show Int32.minValue.toInt = -2147483648 by decide]; exact hy.1) (by rw [show Int32.maxValue.toInt = 2147483647 by decide]; have := hy.2; omega)).symm
theorem mm_div (hC : mm_C p G s m args meth c cc own) (hd : decode cc pc = .ok (.idiv, 1)) (h : mm_imp K (mm_O p l e R s m args below meth c G k0 Q (pc + 1))) : mm_imp (i_div K) (mm_O p l e R s m args below meth c G k0 Q pc) := by
  intro ls st σ hk hl hs lsM H locs hL hml hP hS
  unfold i_div at hk
  split at hk
  · rename_i y x r
    have hy : mm_in y := mm_iv1 hs
    have hx : mm_in x := mm_iv1 (mm_ivt hs)
    have hdv := mm_divT hx hy hk.1.2
    have hxy : x.tdiv y = x / y := Int.tdiv_eq_ediv_of_nonneg hk.1.1
    rw [hxy] at hdv
    refine lv_idiv hC.1 hC.2.1 hd (fun q => ?_) (by rw [hdv.1]; exact h _ _ _ hk.2 hl (mm_ivc (v := .inl (x / y)) hdv.2 (mm_ivt (mm_ivt hs))) lsM H locs hL hml hP hS)
    rw [mm_0, mm_eq hy mm_in0] at q
    have := hk.1.2
    omega
  · exact hk.elim
theorem mm_remT' {x y : Int} (hx : mm_in x) (hy : mm_in y) (h : 0 < y) : Int32.ofInt x - Int32.ofInt x / Int32.ofInt y * Int32.ofInt y = Int32.ofInt (x.tmod y) ∧ mm_in (x.tmod y) := by
  have hdv := mm_divT hx hy h
  refine ⟨?_, ?_⟩
  · rw [hdv.1, ← Int32.ofInt_mul, ← Int32.ofInt_sub]
    congr 1
    rw [Int.tmod_def, Int.mul_comm]
  · have h1 := Int.tmod_lt_of_pos x h
    have h2 := hx.1
    have h3 := hy.2
    rcases Int.le_total 0 x with q | q
    · have := Int.tmod_nonneg y q
      constructor <;> omega
    · have h4 : -y < x.tmod y := by
        have := Int.tmod_lt_of_pos (-x) h
        rw [Int.neg_tmod] at this
        omega
      constructor <;> omega
theorem mm_remt (hC : mm_C p G s m args meth c cc own) (hd : decode cc pc = .ok (.irem, 1)) (h : mm_imp K (mm_O p l e R s m args below meth c G k0 Q (pc + 1))) : mm_imp (i_remT K) (mm_O p l e R s m args below meth c G k0 Q pc) := by
  intro ls st σ hk hl hs lsM H locs hL hml hP hS
  unfold i_remT at hk
  split at hk
  · rename_i y x r
    have hy : mm_in y := mm_iv1 hs
    have hx : mm_in x := mm_iv1 (mm_ivt hs)
    have hdv := mm_remT' hx hy hk.1
    refine lv_irem hC.1 hC.2.1 hd (fun q => ?_) (by rw [hdv.1]; exact h _ _ _ hk.2 hl (mm_ivc (v := .inl (x.tmod y)) hdv.2 (mm_ivt (mm_ivt hs))) lsM H locs hL hml hP hS)
    rw [mm_0, mm_eq hy mm_in0] at q
    have := hk.1
    omega
  · exact hk.elim
theorem mm_rem (hC : mm_C p G s m args meth c cc own) (hd : decode cc pc = .ok (.irem, 1)) (h : mm_imp K (mm_O p l e R s m args below meth c G k0 Q (pc + 1))) : mm_imp (i_rem K) (mm_O p l e R s m args below meth c G k0 Q pc) := by
  intro ls st σ hk
  refine mm_remt hC hd h ls st σ ?_
  unfold i_rem at hk
  unfold i_remT
  split at hk
  · rename_i y x r
    rw [← Int.tmod_eq_emod_of_nonneg hk.1.1] at hk
    exact ⟨hk.1.2, hk.2⟩
  · exact hk.elim
theorem mm_xor (hC : mm_C p G s m args meth c cc own) (hd : decode cc pc = .ok (.ixor, 1)) (h : mm_imp K (mm_O p l e R s m args below meth c G k0 Q (pc + 1))) : mm_imp (i_xor K) (mm_O p l e R s m args below meth c G k0 Q pc) := by
  intro ls st σ hk hl hs lsM H locs hL hml hP hS
  unfold i_xor at hk
  split at hk
  · rename_i y x r
    have hy : mm_in y := mm_iv1 hs
    have hx : mm_in x := mm_iv1 (mm_ivt hs)
    obtain ⟨a, rfl⟩ := Int.eq_ofNat_of_zero_le hk.1.1
    obtain ⟨b, rfl⟩ := Int.eq_ofNat_of_zero_le hk.1.2
    have ha : a < 2 ^ 31 := by have := hx.2; omega
    have hb : b < 2 ^ 31 := by have := hy.2; omega
    have hr : a ^^^ b < 2 ^ 31 := Nat.xor_lt_two_pow ha hb
    have hxx : Int32.ofInt (a : Int) ^^^ Int32.ofInt (b : Int) = Int32.ofInt ((a ^^^ b : Nat) : Int) := by
      rw [Int32.ofInt_eq_ofNat, Int32.ofInt_eq_ofNat, Int32.ofInt_eq_ofNat]
      apply Int32.toBitVec.inj
      simp [BitVec.ofNat_xor]
    refine lv_ixor hC.1 hC.2.1 hd (by rw [hxx]; exact h _ _ _ hk.2 hl (mm_ivc (v := .inl ((a ^^^ b : Nat) : Int)) ⟨by omega, by omega⟩ (mm_ivt (mm_ivt hs))) lsM H locs hL hml hP hS)
  · exact hk.elim
theorem mm_dup (hC : mm_C p G s m args meth c cc own) (hd : decode cc pc = .ok (.dup, 1)) (h : mm_imp K (mm_O p l e R s m args below meth c G k0 Q (pc + 1))) : mm_imp (i_dup K) (mm_O p l e R s m args below meth c G k0 Q pc) := by
  intro ls st σ hk hl hs lsM H locs hL hml hP hS
  unfold i_dup at hk
  split at hk
  · rename_i v r
    exact lv_dup hC.1 hC.2.1 hd (mm_cat G v) (h _ _ _ hk hl (mm_ivc (mm_iv1 hs) hs) lsM H locs hL hml hP hS)
  · exact hk.elim
theorem mm_goto (hC : mm_C p G s m args meth c cc own) {off : Int} {t : Nat} (hd : decode cc pc = .ok (.goto off, 3)) (ht : (pc : Int) + off = (t : Int)) (h : mm_imp K (mm_O p l e R s m args below meth c G k0 Q t)) : mm_imp K (mm_O p l e R s m args below meth c G k0 Q pc) := by
  intro ls st σ hk hl hs lsM H locs hL hml hP hS
  exact lv_goto hC.1 hC.2.1 hd ht (h _ _ _ hk hl hs lsM H locs hL hml hP hS)
end MMS
end
section
/-! branches, fields, arrays, calls -/
section MMB
variable {p : Program} {l : Launch} {e : Env} {R : Room} {s : State} {m : MethodId} {args : Array Value} {below : List Frame} {meth : Method} {c : Code} {G : mm_G} {k0 : Nat} {Q : State → Prop} {cc : ByteArray} {own : String} {pc : Nat} {K T : mm_K}
theorem mm_if_eq (hC : mm_C p G s m args meth c cc own) {off : Int} {t : Nat} (hd : decode cc pc = .ok (.ifCond .eq off, 3)) (ht : (pc : Int) + off = (t : Int)) (hT : mm_imp T (mm_O p l e R s m args below meth c G k0 Q t)) (h : mm_imp K (mm_O p l e R s m args below meth c G k0 Q (pc + 3))) : mm_imp (i_if (fun x => x = 0) T K) (mm_O p l e R s m args below meth c G k0 Q pc) := by
  intro ls st σ hk hl hs lsM H locs hL hml hP hS
  unfold i_if at hk
  split at hk
  · rename_i x r
    have hx : mm_in x := mm_iv1 hs
    have hcv := (mm_eq hx mm_in0)
    rw [← mm_0] at hcv
    exact lv_if_eq hC.1 hC.2.1 hd ht (fun q => hT _ _ _ (hk.1 (hcv.mp q)) hl (mm_ivt hs) lsM H locs hL hml hP hS) (fun q => h _ _ _ (hk.2 (fun z => q (hcv.mpr z))) hl (mm_ivt hs) lsM H locs hL hml hP hS)
  · exact hk.elim
theorem mm_ic_eq (hC : mm_C p G s m args meth c cc own) {off : Int} {t : Nat} (hd : decode cc pc = .ok (.if_icmp .eq off, 3)) (ht : (pc : Int) + off = (t : Int)) (hT : mm_imp T (mm_O p l e R s m args below meth c G k0 Q t)) (h : mm_imp K (mm_O p l e R s m args below meth c G k0 Q (pc + 3))) : mm_imp (i_if2 (fun x y => x = y) T K) (mm_O p l e R s m args below meth c G k0 Q pc) := by
  intro ls st σ hk hl hs lsM H locs hL hml hP hS
  unfold i_if2 at hk
  split at hk
  · rename_i y x r
    have hy : mm_in y := mm_iv1 hs
    have hx : mm_in x := mm_iv1 (mm_ivt hs)
    have hcv := (mm_eq hx hy)
    exact lv_icmp_eq hC.1 hC.2.1 hd ht (fun q => hT _ _ _ (hk.1 (hcv.mp q)) hl (mm_ivt (mm_ivt hs)) lsM H locs hL hml hP hS) (fun q => h _ _ _ (hk.2 (fun z => q (hcv.mpr z))) hl (mm_ivt (mm_ivt hs)) lsM H locs hL hml hP hS)
  · exact hk.elim
theorem mm_if_ne (hC : mm_C p G s m args meth c cc own) {off : Int} {t : Nat} (hd : decode cc pc = .ok (.ifCond .ne off, 3)) (ht : (pc : Int) + off = (t : Int)) (hT : mm_imp T (mm_O p l e R s m args below meth c G k0 Q t)) (h : mm_imp K (mm_O p l e R s m args below meth c G k0 Q (pc + 3))) : mm_imp (i_if (fun x => ¬ x = 0) T K) (mm_O p l e R s m args below meth c G k0 Q pc) := by
  intro ls st σ hk hl hs lsM H locs hL hml hP hS
  unfold i_if at hk
  split at hk
  · rename_i x r
    have hx : mm_in x := mm_iv1 hs
    have hcv := (mm_eq hx mm_in0)
    rw [← mm_0] at hcv
    exact lv_if_ne hC.1 hC.2.1 hd ht (fun q => hT _ _ _ (hk.1 (fun z => q (hcv.mpr z))) hl (mm_ivt hs) lsM H locs hL hml hP hS) (fun q => h _ _ _ (hk.2 (fun z => z (hcv.mp q))) hl (mm_ivt hs) lsM H locs hL hml hP hS)
  · exact hk.elim
theorem mm_ic_ne (hC : mm_C p G s m args meth c cc own) {off : Int} {t : Nat} (hd : decode cc pc = .ok (.if_icmp .ne off, 3)) (ht : (pc : Int) + off = (t : Int)) (hT : mm_imp T (mm_O p l e R s m args below meth c G k0 Q t)) (h : mm_imp K (mm_O p l e R s m args below meth c G k0 Q (pc + 3))) : mm_imp (i_if2 (fun x y => ¬ x = y) T K) (mm_O p l e R s m args below meth c G k0 Q pc) := by
  intro ls st σ hk hl hs lsM H locs hL hml hP hS
  unfold i_if2 at hk
  split at hk
  · rename_i y x r
    have hy : mm_in y := mm_iv1 hs
    have hx : mm_in x := mm_iv1 (mm_ivt hs)
    have hcv := (mm_eq hx hy)
    exact lv_icmp_ne hC.1 hC.2.1 hd ht (fun q => hT _ _ _ (hk.1 (fun z => q (hcv.mpr z))) hl (mm_ivt (mm_ivt hs)) lsM H locs hL hml hP hS) (fun q => h _ _ _ (hk.2 (fun z => z (hcv.mp q))) hl (mm_ivt (mm_ivt hs)) lsM H locs hL hml hP hS)
  · exact hk.elim
theorem mm_if_lt (hC : mm_C p G s m args meth c cc own) {off : Int} {t : Nat} (hd : decode cc pc = .ok (.ifCond .lt off, 3)) (ht : (pc : Int) + off = (t : Int)) (hT : mm_imp T (mm_O p l e R s m args below meth c G k0 Q t)) (h : mm_imp K (mm_O p l e R s m args below meth c G k0 Q (pc + 3))) : mm_imp (i_if (fun x => x < 0) T K) (mm_O p l e R s m args below meth c G k0 Q pc) := by
  intro ls st σ hk hl hs lsM H locs hL hml hP hS
  unfold i_if at hk
  split at hk
  · rename_i x r
    have hx : mm_in x := mm_iv1 hs
    have hcv := (mm_lt hx mm_in0)
    rw [← mm_0] at hcv
    exact lv_if_lt hC.1 hC.2.1 hd ht (fun q => hT _ _ _ (hk.1 (hcv.mp q)) hl (mm_ivt hs) lsM H locs hL hml hP hS) (fun q => h _ _ _ (hk.2 (fun z => q (hcv.mpr z))) hl (mm_ivt hs) lsM H locs hL hml hP hS)
  · exact hk.elim
theorem mm_ic_lt (hC : mm_C p G s m args meth c cc own) {off : Int} {t : Nat} (hd : decode cc pc = .ok (.if_icmp .lt off, 3)) (ht : (pc : Int) + off = (t : Int)) (hT : mm_imp T (mm_O p l e R s m args below meth c G k0 Q t)) (h : mm_imp K (mm_O p l e R s m args below meth c G k0 Q (pc + 3))) : mm_imp (i_if2 (fun x y => x < y) T K) (mm_O p l e R s m args below meth c G k0 Q pc) := by
  intro ls st σ hk hl hs lsM H locs hL hml hP hS
  unfold i_if2 at hk
  split at hk
  · rename_i y x r
    have hy : mm_in y := mm_iv1 hs
    have hx : mm_in x := mm_iv1 (mm_ivt hs)
    have hcv := (mm_lt hx hy)
    exact lv_icmp_lt hC.1 hC.2.1 hd ht (fun q => hT _ _ _ (hk.1 (hcv.mp q)) hl (mm_ivt (mm_ivt hs)) lsM H locs hL hml hP hS) (fun q => h _ _ _ (hk.2 (fun z => q (hcv.mpr z))) hl (mm_ivt (mm_ivt hs)) lsM H locs hL hml hP hS)
  · exact hk.elim
theorem mm_if_ge (hC : mm_C p G s m args meth c cc own) {off : Int} {t : Nat} (hd : decode cc pc = .ok (.ifCond .ge off, 3)) (ht : (pc : Int) + off = (t : Int)) (hT : mm_imp T (mm_O p l e R s m args below meth c G k0 Q t)) (h : mm_imp K (mm_O p l e R s m args below meth c G k0 Q (pc + 3))) : mm_imp (i_if (fun x => 0 ≤ x) T K) (mm_O p l e R s m args below meth c G k0 Q pc) := by
  intro ls st σ hk hl hs lsM H locs hL hml hP hS
  unfold i_if at hk
  split at hk
  · rename_i x r
    have hx : mm_in x := mm_iv1 hs
    have hcv := (mm_le mm_in0 hx)
    rw [← mm_0] at hcv
    exact lv_if_ge hC.1 hC.2.1 hd ht (fun q => hT _ _ _ (hk.1 (hcv.mp q)) hl (mm_ivt hs) lsM H locs hL hml hP hS) (fun q => h _ _ _ (hk.2 (fun z => q (hcv.mpr z))) hl (mm_ivt hs) lsM H locs hL hml hP hS)
  · exact hk.elim
theorem mm_ic_ge (hC : mm_C p G s m args meth c cc own) {off : Int} {t : Nat} (hd : decode cc pc = .ok (.if_icmp .ge off, 3)) (ht : (pc : Int) + off = (t : Int)) (hT : mm_imp T (mm_O p l e R s m args below meth c G k0 Q t)) (h : mm_imp K (mm_O p l e R s m args below meth c G k0 Q (pc + 3))) : mm_imp (i_if2 (fun x y => y ≤ x) T K) (mm_O p l e R s m args below meth c G k0 Q pc) := by
  intro ls st σ hk hl hs lsM H locs hL hml hP hS
  unfold i_if2 at hk
  split at hk
  · rename_i y x r
    have hy : mm_in y := mm_iv1 hs
    have hx : mm_in x := mm_iv1 (mm_ivt hs)
    have hcv := (mm_le hy hx)
    exact lv_icmp_ge hC.1 hC.2.1 hd ht (fun q => hT _ _ _ (hk.1 (hcv.mp q)) hl (mm_ivt (mm_ivt hs)) lsM H locs hL hml hP hS) (fun q => h _ _ _ (hk.2 (fun z => q (hcv.mpr z))) hl (mm_ivt (mm_ivt hs)) lsM H locs hL hml hP hS)
  · exact hk.elim
theorem mm_if_gt (hC : mm_C p G s m args meth c cc own) {off : Int} {t : Nat} (hd : decode cc pc = .ok (.ifCond .gt off, 3)) (ht : (pc : Int) + off = (t : Int)) (hT : mm_imp T (mm_O p l e R s m args below meth c G k0 Q t)) (h : mm_imp K (mm_O p l e R s m args below meth c G k0 Q (pc + 3))) : mm_imp (i_if (fun x => 0 < x) T K) (mm_O p l e R s m args below meth c G k0 Q pc) := by
  intro ls st σ hk hl hs lsM H locs hL hml hP hS
  unfold i_if at hk
  split at hk
  · rename_i x r
    have hx : mm_in x := mm_iv1 hs
    have hcv := (mm_lt mm_in0 hx)
    rw [← mm_0] at hcv
    exact lv_if_gt hC.1 hC.2.1 hd ht (fun q => hT _ _ _ (hk.1 (hcv.mp q)) hl (mm_ivt hs) lsM H locs hL hml hP hS) (fun q => h _ _ _ (hk.2 (fun z => q (hcv.mpr z))) hl (mm_ivt hs) lsM H locs hL hml hP hS)
  · exact hk.elim
theorem mm_ic_gt (hC : mm_C p G s m args meth c cc own) {off : Int} {t : Nat} (hd : decode cc pc = .ok (.if_icmp .gt off, 3)) (ht : (pc : Int) + off = (t : Int)) (hT : mm_imp T (mm_O p l e R s m args below meth c G k0 Q t)) (h : mm_imp K (mm_O p l e R s m args below meth c G k0 Q (pc + 3))) : mm_imp (i_if2 (fun x y => y < x) T K) (mm_O p l e R s m args below meth c G k0 Q pc) := by
  intro ls st σ hk hl hs lsM H locs hL hml hP hS
  unfold i_if2 at hk
  split at hk
  · rename_i y x r
    have hy : mm_in y := mm_iv1 hs
    have hx : mm_in x := mm_iv1 (mm_ivt hs)
    have hcv := (mm_lt hy hx)
    exact lv_icmp_gt hC.1 hC.2.1 hd ht (fun q => hT _ _ _ (hk.1 (hcv.mp q)) hl (mm_ivt (mm_ivt hs)) lsM H locs hL hml hP hS) (fun q => h _ _ _ (hk.2 (fun z => q (hcv.mpr z))) hl (mm_ivt (mm_ivt hs)) lsM H locs hL hml hP hS)
  · exact hk.elim
theorem mm_if_le (hC : mm_C p G s m args meth c cc own) {off : Int} {t : Nat} (hd : decode cc pc = .ok (.ifCond .le off, 3)) (ht : (pc : Int) + off = (t : Int)) (hT : mm_imp T (mm_O p l e R s m args below meth c G k0 Q t)) (h : mm_imp K (mm_O p l e R s m args below meth c G k0 Q (pc + 3))) : mm_imp (i_if (fun x => x ≤ 0) T K) (mm_O p l e R s m args below meth c G k0 Q pc) := by
  intro ls st σ hk hl hs lsM H locs hL hml hP hS
  unfold i_if at hk
  split at hk
  · rename_i x r
    have hx : mm_in x := mm_iv1 hs
    have hcv := (mm_le hx mm_in0)
    rw [← mm_0] at hcv
    exact lv_if_le hC.1 hC.2.1 hd ht (fun q => hT _ _ _ (hk.1 (hcv.mp q)) hl (mm_ivt hs) lsM H locs hL hml hP hS) (fun q => h _ _ _ (hk.2 (fun z => q (hcv.mpr z))) hl (mm_ivt hs) lsM H locs hL hml hP hS)
  · exact hk.elim
theorem mm_ic_le (hC : mm_C p G s m args meth c cc own) {off : Int} {t : Nat} (hd : decode cc pc = .ok (.if_icmp .le off, 3)) (ht : (pc : Int) + off = (t : Int)) (hT : mm_imp T (mm_O p l e R s m args below meth c G k0 Q t)) (h : mm_imp K (mm_O p l e R s m args below meth c G k0 Q (pc + 3))) : mm_imp (i_if2 (fun x y => x ≤ y) T K) (mm_O p l e R s m args below meth c G k0 Q pc) := by
  intro ls st σ hk hl hs lsM H locs hL hml hP hS
  unfold i_if2 at hk
  split at hk
  · rename_i y x r
    have hy : mm_in y := mm_iv1 hs
    have hx : mm_in x := mm_iv1 (mm_ivt hs)
    have hcv := (mm_le hx hy)
    exact lv_icmp_le hC.1 hC.2.1 hd ht (fun q => hT _ _ _ (hk.1 (hcv.mp q)) hl (mm_ivt (mm_ivt hs)) lsM H locs hL hml hP hS) (fun q => h _ _ _ (hk.2 (fun z => q (hcv.mpr z))) hl (mm_ivt (mm_ivt hs)) lsM H locs hL hml hP hS)
  · exact hk.elim
theorem mm_adw {a : Nat} (h : a < 348) : mm_ad G a = G.1 + a := if_pos (by omega)
theorem mm_one {D : va_G} {cl : List vw_C} {q : Nat × va_E} {H : Heap} (h : va_at D cl q H) : va_P D cl [q] H := by
  intro k q' hq
  cases k with
  | zero => cases hq; exact h
  | succ k => simp at hq
theorem mm_Eobj {σ : mm_S} {a ci N : Nat} {C : String} {T : u_T} {ty : Nat → FieldType} (hcl : mm_cl ci C T N ty) (ha : a < 348) (hs : (mm_sh a).1 = ci) : mm_E G σ a = .inr (ci, (List.range N).map (fun j => mm_fv G ci j σ a)) := by
  have h1 := mm_shOk a ha
  have hci : ci < 100 := by
    have := (List.getElem?_eq_some_iff.mp hcl.1).1
    have h2 : vwCl.length = 12 := rfl
    omega
  have h3 := h1.2.2 (by omega)
  rw [hs, hcl.1] at h3
  have h4 : N = (mm_sh a).2 := Option.some.inj h3
  unfold mm_E
  rw [if_pos (by omega), hs, ← h4]
theorem mm_Eint {σ : mm_S} {a : Nat} (hs : (mm_sh a).1 = 100) : mm_E G σ a = .inl (G.2.2.1 100, (mm_sh a).2, .inl (fun j => Int32.ofInt (σ.1 a j))) := by
  unfold mm_E
  rw [if_neg (by omega), if_pos hs]
theorem mm_Eref {σ : mm_S} {a kd : Nat} (hs : (mm_sh a).1 = kd) (hk : 100 < kd) : mm_E G σ a = .inl (G.2.2.1 kd, (mm_sh a).2, .inr (.inr (.inr (.inr (fun j => (σ.2.1 a j).map (mm_ad G)))))) := by
  unfold mm_E
  rw [if_neg (by omega), if_neg (by omega), hs]
theorem mm_fvN {σ : mm_S} {a ci N j : Nat} (hj : j < N) : ((List.range N).map (fun j => mm_fv G ci j σ a))[j]? = some (mm_fv G ci j σ a) := by
  simp [hj]
theorem mm_gi (hC : mm_C p G s m args meth c cc own) {ci j idx N : Nat} {C : String} {T : u_T} {ty : Nat → FieldType} (hcl : mm_cl ci C T N ty) (hj : j < N) (hr : mm_rf ci j = false) (hw : Cond.fieldLink own idx (T j).1 (T j).2.1 (T j).2.2.1 ∈ lw_gd) (hd : decode cc pc = .ok (.getfield idx, 3)) (h : mm_imp K (mm_O p l e R s m args below meth c G k0 Q (pc + 3))) : mm_imp (i_gi ci j K) (mm_O p l e R s m args below meth c G k0 Q pc) := by
  intro ls st σ hk hl hs lsM H locs hL hml hP hS
  unfold i_gi at hk
  split at hk
  · rename_i a r
    have ha : a < 348 := by have := hP.1.2.2.2; have := hk.1.1; omega
    have hat := hP.1.1 a hk.1.1
    rw [mm_Eobj hcl ha hk.1.2] at hat
    show W p l e R s m args below meth c H locs _ _ Q (F0 m pc lsM (.ref (mm_ad G a) :: r.map (mm_v G)))
    rw [mm_adw ha]
    exact va_get (D := G.2.1) (ci := ci) (v := .int (Int32.ofInt (σ.1 a j))) (C := C) (T := T) (N := N) hC.1 hC.2.1 hC.2.2.2.1 hcl.2.1 hC.2.2.1 hC.2.2.2.2.1 (mm_one hat) 0 rfl hcl.1 j hj (hC.2.2.2.1 _ hw) (fun _ h => h) (by rw [mm_fvN hj]; simp [mm_fv, hr]) hd (h _ _ _ (hk.2 (hP.1.2.1 a j)) hl (mm_ivc (v := .inl (σ.1 a j)) (hP.1.2.1 a j) (mm_ivt hs)) lsM H locs hL hml hP hS)
  · exact hk.elim
theorem mm_gr (hC : mm_C p G s m args meth c cc own) {ci j idx N : Nat} {C : String} {T : u_T} {ty : Nat → FieldType} (hcl : mm_cl ci C T N ty) (hj : j < N) (hr : mm_rf ci j = true) (hw : Cond.fieldLink own idx (T j).1 (T j).2.1 (T j).2.2.1 ∈ lw_gd) (hd : decode cc pc = .ok (.getfield idx, 3)) (h : mm_imp K (mm_O p l e R s m args below meth c G k0 Q (pc + 3))) : mm_imp (i_gr ci j K) (mm_O p l e R s m args below meth c G k0 Q pc) := by
  intro ls st σ hk hl hs lsM H locs hL hml hP hS
  unfold i_gr at hk
  split at hk
  · rename_i a r
    obtain ⟨⟨h1, h2⟩, b, hb, hk⟩ := hk
    have ha : a < 348 := by have := hP.1.2.2.2; omega
    have hat := hP.1.1 a h1
    rw [mm_Eobj hcl ha h2] at hat
    show W p l e R s m args below meth c H locs _ _ Q (F0 m pc lsM (.ref (mm_ad G a) :: r.map (mm_v G)))
    rw [mm_adw ha]
    exact va_get (D := G.2.1) (ci := ci) (v := mm_v G (.inr (some b))) (C := C) (T := T) (N := N) hC.1 hC.2.1 hC.2.2.2.1 hcl.2.1 hC.2.2.1 hC.2.2.2.2.1 (mm_one hat) 0 rfl hcl.1 j hj (hC.2.2.2.1 _ hw) (fun _ h => h) (by rw [mm_fvN hj]; simp [mm_fv, hr, hb]) hd (h _ _ _ hk hl (mm_ivc (v := .inr (some b)) trivial (mm_ivt hs)) lsM H locs hL hml hP hS)
  · exact hk.elim
theorem mm_Pset {σ τ : mm_S} {H H' : Heap} {a : Nat} (hP : mm_P G σ H) (hk : τ.2.2 = σ.2.2) (hE : ∀ b, b ≠ a → mm_E G τ b = mm_E G σ b) (hat : va_at G.2.1 vwCl (G.1 + a, mm_E G τ a) H') (hz : H'.size = H.size) (ho : ∀ q, q ≠ G.1 + a → H'[q]? = H[q]?) (hi : ∀ a j, mm_in (τ.1 a j)) : mm_P G τ H' := by
  refine ⟨fun b hb => ?_, hi, ?_, by rw [hk]; exact hP.2.2.2⟩
  · by_cases e : b = a
    · subst e; exact hat
    · rw [hE b e]
      exact (hP.1 b (by omega)).kept (ho _ (by omega))
  · rw [hk, hz]; exact hP.2.2.1
theorem mm_Eset {σ : mm_S} {a j : Nat} {z : Int} : ∀ b, b ≠ a → mm_E G (mm_set σ.1 a j z, σ.2) b = mm_E G σ b := by
  intro b hb
  have h1 : (mm_set σ.1 a j z) b = σ.1 b := by funext i; simp [mm_set, hb]
  unfold mm_E mm_fv
  simp only [h1]
theorem mm_inset {σ : mm_S} {a j : Nat} {z : Int} (h : ∀ a j, mm_in (σ.1 a j)) (hz : mm_in z) : ∀ b i, mm_in (mm_set σ.1 a j z b i) := by
  intro b i
  unfold mm_set
  split
  · exact hz
  · exact h b i
theorem mm_putK (hC : mm_C p G s m args meth c cc own) {ci j idx N a : Nat} {C : String} {T : u_T} {ty : Nat → FieldType} (hcl : mm_cl ci C T N ty) (hj : j < N) (hfin : (T j).2.2.2 = false) (hw : Cond.fieldLink own idx (T j).1 (T j).2.1 (T j).2.2.1 ∈ lw_gd) (hd : decode cc pc = .ok (.putfield idx, 3))
    {σ : mm_S} {H : Heap} {locs : List Loc} {lsM : Array Slot} {rest : List Value} {cells slots : Nat} {v : Value} (hn : narrow (ty j) v = v) (hfit : fits (ty j) v = true) (hP : mm_P G σ H) (ha : a < σ.2.2) (hs : (mm_sh a).1 = ci) (hS0 : va_S (mm_A G) s.heap H locs)
    (kk : ∀ (H1 : Heap) (locs1 : List Loc), va_at G.2.1 vwCl (G.1 + a, .inr (ci, ((List.range N).map (fun j => mm_fv G ci j σ a)).set j v)) H1 → H1.size = H.size → (∀ q, q ≠ G.1 + a → H1[q]? = H[q]?) → va_S (mm_A G) s.heap H1 locs1 → W p l e R s m args below meth c H1 locs1 cells slots Q (F0 m (pc + 3) lsM rest)) : W p l e R s m args below meth c H locs cells slots Q (F0 m pc lsM (v :: .ref (G.1 + a) :: rest)) := by
  have ha' : a < 348 := by have := hP.2.2.2; omega
  have hat := hP.1 a ha
  rw [mm_Eobj hcl ha' hs] at hat
  have hK := hC.2.2.2.2.1
  have hts := hC.2.2.2.1
  have hap := va_apart (own := own) hts hcl.2.1 ty hcl.2.2.1 hcl.2.2.2 hK hcl.1
  obtain ⟨r, h1, cell, q1, q2, q3, q4⟩ := hat
  have hr : r = (C, T, N) := Option.some.inj (h1.symm.trans hcl.1)
  subst hr
  obtain ⟨hS, hfc, kC, hkC, hkind⟩ := hK.1 ci _ hcl.1
  obtain ⟨cf, kf, fi, f, hi, hsl⟩ := hS j hj
  have hlay := hts _ (hcl.2.1 _ (u_in_lay hj))
  unfold u_lay at hlay
  rw [if_neg (by rw [hfin]; decide)] at hlay
  have hst := (u_facts hfc hkC (u_lays hts hcl.2.1 hj) hi).1
  have h6 := u_store hfc hkC hkind hlay hi (hcl.2.2.1 j hj) hn hfit
  refine W.putK hC.1 hC.2.1 (f := f) ⟨hC.2.2.1, hts _ hw, ⟨_, _, _, hi⟩, hst⟩ (by rw [q2]; exact h6) q1 q3 (by rw [hsl]; exact k2_hasslot (q4 j hj)) rfl rfl hd fun H' e1 e2 e3 => ?_
  rw [hsl] at e1 ⊢
  refine kk H' _ ?_ e2 e3 (hS0.put e2 e3 (show mm_A G (G.1 + a) from Nat.le_add_right _ _))
  exact ⟨_, hcl.1, t_OB.to (V := updV (vp_V ((List.range N).map (fun j => mm_fv G ci j σ a))) j v) ⟨_, e1, q2, q3, t_set q4 hap hj v⟩ (fun i _ => vp_updV_set (by simpa using hj) v i)⟩
theorem mm_setfv {σ : mm_S} {a ci N j : Nat} {z : Int} (hr : mm_rf ci j = false) : ((List.range N).map (fun j => mm_fv G ci j σ a)).set j (.int (Int32.ofInt z)) = (List.range N).map (fun i => mm_fv G ci i (mm_set σ.1 a j z, σ.2) a) := by
  apply List.ext_getElem?
  intro i
  by_cases e : i = j
  · subst e
    by_cases hi : i < N
    · rw [List.getElem?_set_self (by simpa using hi)]
      simp [hi, mm_fv, hr, mm_set]
    · rw [List.getElem?_eq_none (by simp; omega), List.getElem?_eq_none (by simp; omega)]
  · rw [List.getElem?_set_ne (fun q => e q.symm)]
    by_cases hi : i < N
    · simp [hi, mm_fv, mm_set, e]
    · rw [List.getElem?_eq_none (by simp; omega), List.getElem?_eq_none (by simp; omega)]
end MMB
end
section
/-! stores, arrays, tables, calls, returns -/
section MMD
variable {p : Program} {l : Launch} {e : Env} {R : Room} {s : State} {m : MethodId} {args : Array Value} {below : List Frame} {meth : Method} {c : Code} {G : mm_G} {k0 : Nat} {Q : State → Prop} {cc : ByteArray} {own : String} {pc : Nat} {K : mm_K}
theorem mm_pi (hC : mm_C p G s m args meth c cc own) {ci j idx N : Nat} {C : String} {T : u_T} {ty : Nat → FieldType} (hcl : mm_cl ci C T N ty) (hj : j < N) (hr : mm_rf ci j = false) (hty : ty j = .int) (hfin : (T j).2.2.2 = false) (hw : Cond.fieldLink own idx (T j).1 (T j).2.1 (T j).2.2.1 ∈ lw_gd) (hd : decode cc pc = .ok (.putfield idx, 3)) (h : mm_imp K (mm_O p l e R s m args below meth c G k0 Q (pc + 3))) : mm_imp (i_pi ci j K) (mm_O p l e R s m args below meth c G k0 Q pc) := by
  intro ls st σ hk hl hs lsM H locs hL hml hP hS
  unfold i_pi at hk
  split at hk
  · rename_i z a r
    obtain ⟨⟨h1, h2⟩, hk⟩ := hk
    have ha : a < 348 := by have := hP.1.2.2.2; omega
    show W p l e R s m args below meth c H locs _ _ Q (F0 m pc lsM (.int (Int32.ofInt z) :: .ref (mm_ad G a) :: r.map (mm_v G)))
    rw [mm_adw ha]
    refine mm_putK hC hcl hj hfin hw hd (by rw [hty]; rfl) (by rw [hty]; rfl) hP.1 h1 h2 hS (fun H1 locs1 hat hz ho hS1 => ?_)
    rw [mm_setfv hr, ← mm_Eobj hcl ha h2] at hat
    exact h _ _ _ hk hl (mm_ivt (mm_ivt hs)) lsM H1 locs1 hL hml ⟨mm_Pset hP.1 rfl mm_Eset hat hz ho (mm_inset hP.1.2.1 (mm_iv1 hs)), hP.2⟩ hS1
  · exact hk.elim
theorem mm_pz (hC : mm_C p G s m args meth c cc own) {ci j idx N : Nat} {C : String} {T : u_T} {ty : Nat → FieldType} (hcl : mm_cl ci C T N ty) (hj : j < N) (hr : mm_rf ci j = false) (hty : ty j = .boolean) (hfin : (T j).2.2.2 = false) (hw : Cond.fieldLink own idx (T j).1 (T j).2.1 (T j).2.2.1 ∈ lw_gd) (hd : decode cc pc = .ok (.putfield idx, 3)) (h : mm_imp K (mm_O p l e R s m args below meth c G k0 Q (pc + 3))) : mm_imp (i_pz ci j K) (mm_O p l e R s m args below meth c G k0 Q pc) := by
  intro ls st σ hk hl hs lsM H locs hL hml hP hS
  unfold i_pz at hk
  split at hk
  · rename_i z a r
    obtain ⟨⟨h1, h2, h3⟩, hk⟩ := hk
    have ha : a < 348 := by have := hP.1.2.2.2; omega
    show W p l e R s m args below meth c H locs _ _ Q (F0 m pc lsM (.int (Int32.ofInt z) :: .ref (mm_ad G a) :: r.map (mm_v G)))
    rw [mm_adw ha]
    have hn : narrow .boolean (.int (Int32.ofInt z)) = .int (Int32.ofInt z) ∧ fits .boolean (.int (Int32.ofInt z)) = true := by
      rcases h3 with rfl | rfl <;> decide
    refine mm_putK hC hcl hj hfin hw hd (by rw [hty]; exact hn.1) (by rw [hty]; exact hn.2) hP.1 h1 h2 hS (fun H1 locs1 hat hz ho hS1 => ?_)
    rw [mm_setfv hr, ← mm_Eobj hcl ha h2] at hat
    exact h _ _ _ hk hl (mm_ivt (mm_ivt hs)) lsM H1 locs1 hL hml ⟨mm_Pset hP.1 rfl mm_Eset hat hz ho (mm_inset hP.1.2.1 (mm_iv1 hs)), hP.2⟩ hS1
  · exact hk.elim
theorem mm_ial (hC : mm_C p G s m args meth c cc own) (hd : decode cc pc = .ok (.iaload, 1)) (h : mm_imp K (mm_O p l e R s m args below meth c G k0 Q (pc + 1))) : mm_imp (i_ial K) (mm_O p l e R s m args below meth c G k0 Q pc) := by
  intro ls st σ hk hl hs lsM H locs hL hml hP hS
  unfold i_ial at hk
  split at hk
  · rename_i i a r
    obtain ⟨⟨h1, h2, h3, h4⟩, hk⟩ := hk
    have ha : a < 348 := by have := hP.1.2.2.2; omega
    have hi : mm_in i := mm_iv1 hs
    have hat := hP.1.1 a h1
    rw [mm_Eint h2] at hat
    show W p l e R s m args below meth c H locs _ _ Q (F0 m pc lsM (.int (Int32.ofInt i) :: .ref (mm_ad G a) :: r.map (mm_v G)))
    rw [mm_adw ha]
    refine va_iald (D := G.2.1) (cl := vwCl) hC.1 hC.2.1 hC.2.2.2.2.1 (mm_one hat) 0 0 rfl rfl (mm_vpin hi h3 h4) hd ?_
    rw [mm_clamp hi]
    exact h _ _ _ (hk (hP.1.2.1 a _)) hl (mm_ivc (v := .inl (σ.1 a i.toNat)) (hP.1.2.1 a _) (mm_ivt (mm_ivt hs))) lsM H locs hL hml hP hS
  · exact hk.elim
theorem mm_ias (hC : mm_C p G s m args meth c cc own) (hd : decode cc pc = .ok (.iastore, 1)) (h : mm_imp K (mm_O p l e R s m args below meth c G k0 Q (pc + 1))) : mm_imp (i_ias K) (mm_O p l e R s m args below meth c G k0 Q pc) := by
  intro ls st σ hk hl hs lsM H locs hL hml hP hS
  unfold i_ias at hk
  split at hk
  · rename_i z i a r
    obtain ⟨⟨h1, h2, h3, h4⟩, hk⟩ := hk
    have ha : a < 348 := by have := hP.1.2.2.2; omega
    have hi : mm_in i := mm_iv1 (mm_ivt hs)
    have hat := hP.1.1 a h1
    rw [mm_Eint h2] at hat
    show W p l e R s m args below meth c H locs _ _ Q (F0 m pc lsM (.int (Int32.ofInt z) :: .int (Int32.ofInt i) :: .ref (mm_ad G a) :: r.map (mm_v G)))
    rw [mm_adw ha]
    refine W.iast hC.1 hC.2.1 hat ((hC.2.2.2.2.1.2 0 _ rfl).1 (mm_sh a).2 (fun j => .int (Int32.ofInt (σ.1 a j)))) (fun q => by cases q) (by show ¬ (_ < 0 ∨ (arrV _ _ _).slots.size ≤ _); rw [arrV_size]; exact mm_vpin hi h3 h4) rfl rfl hd fun H1 e1 e2 e3 => ?_
    refine h _ _ _ hk hl (mm_ivt (mm_ivt (mm_ivt hs))) lsM H1 _ hL hml ⟨mm_Pset hP.1 rfl mm_Eset ?_ e2 e3 (mm_inset hP.1.2.1 (mm_iv1 hs)), hP.2⟩ (hS.put e2 e3 (show mm_A G (G.1 + a) from Nat.le_add_right _ _))
    rw [mm_Eint h2]
    show H1[G.1 + a]? = some (vp_cell _ _)
    rw [e1, vp_cell_i, vp_cell_i, arrV_store, mm_clamp hi]
    congr 2
    funext q
    by_cases hq : q = i.toNat
    · subst hq
      simp [updV, mm_set]
    · simp [updV, mm_set, hq]
  · exact hk.elim
theorem mm_len (hC : mm_C p G s m args meth c cc own) (hd : decode cc pc = .ok (.arraylength, 1)) (h : mm_imp K (mm_O p l e R s m args below meth c G k0 Q (pc + 1))) : mm_imp (i_len K) (mm_O p l e R s m args below meth c G k0 Q pc) := by
  intro ls st σ hk hl hs lsM H locs hL hml hP hS
  unfold i_len at hk
  split at hk
  · rename_i a r
    obtain ⟨⟨h1, h2⟩, hk⟩ := hk
    have ha : a < 348 := by have := hP.1.2.2.2; omega
    have hat := hP.1.1 a h1
    have hb := mm_shOk a ha
    have hin : mm_in ((mm_sh a).2 : Int) := ⟨by omega, by have := hb.1; omega⟩
    show W p l e R s m args below meth c H locs _ _ Q (F0 m pc lsM (.ref (mm_ad G a) :: r.map (mm_v G)))
    rw [mm_adw ha]
    have go := h _ _ _ hk hl (mm_ivc (v := .inl ((mm_sh a).2 : Int)) hin (mm_ivt hs)) lsM H locs hL hml hP hS
    by_cases e1 : (mm_sh a).1 = 100
    · rw [mm_Eint e1] at hat
      exact va_alen (D := G.2.1) (cl := vwCl) hC.1 hC.2.1 hC.2.2.2.2.1 (mm_one hat) 0 0 rfl rfl (Int32.ofInt_eq_ofNat).symm hd go
    · obtain ⟨t, hkt⟩ : ∃ (t : Nat) (ty : FieldType), (mm_tys G)[t]? = some (G.2.2.1 (mm_sh a).1, ty) := by
        have := hb.2.1
        rcases (show (mm_sh a).1 = 101 ∨ (mm_sh a).1 = 102 ∨ (mm_sh a).1 = 103 by omega) with q | q | q
        · exact ⟨1, _, by rw [q]; rfl⟩
        · exact ⟨2, _, by rw [q]; rfl⟩
        · exact ⟨3, _, by rw [q]; rfl⟩
      obtain ⟨ty, hkt⟩ := hkt
      rw [mm_Eref rfl (by omega)] at hat
      exact va_alen (D := G.2.1) (cl := vwCl) hC.1 hC.2.1 hC.2.2.2.2.1 (mm_one hat) 0 t rfl hkt (Int32.ofInt_eq_ofNat).symm hd go
  · exact hk.elim
theorem mm_aal (hC : mm_C p G s m args meth c cc own) {kd t : Nat} {C : String} (hkd : 100 < kd) (ht : (mm_tys G)[t]? = some (G.2.2.1 kd, .object C)) (hd : decode cc pc = .ok (.aaload, 1)) (h : mm_imp K (mm_O p l e R s m args below meth c G k0 Q (pc + 1))) : mm_imp (i_aal kd K) (mm_O p l e R s m args below meth c G k0 Q pc) := by
  intro ls st σ hk hl hs lsM H locs hL hml hP hS
  unfold i_aal at hk
  split at hk
  · rename_i i a r
    obtain ⟨⟨h1, h2, h3, h4⟩, b, hb, hk⟩ := hk
    have ha : a < 348 := by have := hP.1.2.2.2; omega
    have hi : mm_in i := mm_iv1 hs
    have hat := hP.1.1 a h1
    rw [mm_Eref h2 hkd] at hat
    show W p l e R s m args below meth c H locs _ _ Q (F0 m pc lsM (.int (Int32.ofInt i) :: .ref (mm_ad G a) :: r.map (mm_v G)))
    rw [mm_adw ha]
    refine va_aldq (D := G.2.1) (cl := vwCl) hC.1 hC.2.1 hC.2.2.2.2.1 (mm_one hat) 0 t rfl ht (mm_vpin hi h3 h4) hd ?_
    rw [mm_clamp hi, hb]
    exact h _ _ _ hk hl (mm_ivc (v := .inr (some b)) trivial (mm_ivt (mm_ivt hs))) lsM H locs hL hml hP hS
  · exact hk.elim
theorem mm_gs (hC : mm_C p G s m args meth c cc own) {t idx : Nat} (ht : t < 5) (hw : Cond.fieldLink own idx RX6 (mm_tn t) "[I" ∈ lw_gd) (hd : decode cc pc = .ok (.getstatic idx, 3)) (h : mm_imp K (mm_O p l e R s m args below meth c G k0 Q (pc + 3))) : mm_imp (i_gs t K) (mm_O p l e R s m args below meth c G k0 Q pc) := by
  intro ls st σ hk hl hs lsM H locs hL hml hP hS
  have hv : mm_v G (.inr (some (1000000 + t))) = .ref (G.2.2.2 t) := by
    show Value.ref (mm_ad G (1000000 + t)) = _
    unfold mm_ad
    rw [if_neg (by omega), Nat.add_sub_cancel_left]
  have go := h _ _ _ hk hl (mm_ivc (v := .inr (some (1000000 + t))) trivial hs) lsM H locs hL hml hP hS
  rw [List.map_cons, hv] at go
  exact va_gets hC.1 hC.2.1 (hC.2.2.2.2.2.1 t ht).1 hS hC.2.2.1 (hC.2.2.2.1 _ hw) (fun _ h => h) hd go
theorem mm_tal (hC : mm_C p G s m args meth c cc own) {t : Nat} (ht : t < 5) (hr : ∀ j, mm_in (mm_tb t j)) (hd : decode cc pc = .ok (.iaload, 1)) (h : mm_imp K (mm_O p l e R s m args below meth c G k0 Q (pc + 1))) : mm_imp (i_tal t K) (mm_O p l e R s m args below meth c G k0 Q pc) := by
  intro ls st σ hk hl hs lsM H locs hL hml hP hS
  unfold i_tal at hk
  split at hk
  · rename_i i a r
    obtain ⟨⟨rfl, h3, h4⟩, hk⟩ := hk
    have hi : mm_in i := mm_iv1 hs
    have hv : mm_ad G (1000000 + t) = G.2.2.2 t := by
      unfold mm_ad
      rw [if_neg (by omega), Nat.add_sub_cancel_left]
    show W p l e R s m args below meth c H locs _ _ Q (F0 m pc lsM (.int (Int32.ofInt i) :: .ref (mm_ad G (1000000 + t)) :: r.map (mm_v G)))
    rw [hv]
    refine va_ti hC.1 hC.2.1 (hC.2.2.2.2.2.1 t ht).2 hS (mm_vpin hi h3 h4) rfl hd ?_
    rw [mm_clamp hi]
    exact h _ _ _ hk hl (mm_ivc (v := .inl (mm_tb t i.toNat)) (hr _) (mm_ivt (mm_ivt hs))) lsM H locs hL hml hP hS
  · exact hk.elim
theorem mm_dup2 (hC : mm_C p G s m args meth c cc own) (hd : decode cc pc = .ok (.dup2, 1)) (h : mm_imp K (mm_O p l e R s m args below meth c G k0 Q (pc + 1))) : mm_imp (i_dup2 K) (mm_O p l e R s m args below meth c G k0 Q pc) := by
  intro ls st σ hk hl hs lsM H locs hL hml hP hS
  unfold i_dup2 at hk
  split at hk
  · rename_i v w r
    exact lv_dup2_11 hC.1 hC.2.1 hd (mm_cat G v) (mm_cat G w) (h _ _ _ hk hl (mm_ivc (mm_iv1 hs) (mm_ivc (mm_iv1 (mm_ivt hs)) hs)) lsM H locs hL hml hP hS)
  · exact hk.elim
theorem mm_Zkept {G : mm_G} {s t : State} {H : Heap} {locs : List Loc} (hZ : mm_Z G s) (hS : va_S (mm_A G) s.heap H locs) (ht : t.heap = H) (hv : s.vm.Alike t.vm) : mm_Z G t := by
  intro i hi
  obtain ⟨h1, h2⟩ := hZ i hi
  rw [ht]
  exact ⟨(h1.kept (fun a ha hA => hS.2.1 a ha hA)).moved hv, (h2.kept (fun a ha hA => hS.2.1 a ha hA)).moved hv⟩
theorem mm_ir (hC : mm_C p G s m args meth c cc own) {σ0 : mm_S} {Post : Option mm_V → mm_S → Prop} {kf : Nat} (hkf : kf = σ0.2.2 + R.cells ∧ mm_ss kf = mm_ss σ0.2.2 + R.slots) (hr : meth.sig.returnType = some .int) (hd : decode cc pc = .ok (.ireturn, 1)) :
    mm_imp (i_ir Post kf) (mm_O p l e R s m args below meth c G σ0.2.2 (MQ below (mm_Qc G σ0 R.cells R.slots Post) args s R.cells R.slots (mm_A G)) pc) := by
  intro ls st σ hk hl hs lsM H locs hL hml hP hS
  unfold i_ir at hk
  split at hk
  · rename_i z
    refine W.widen (k := R.cells) (n := R.slots) (by have := hP.2.2.1; omega) (by have := hP.2.2.2; omega) ?_
    refine W.iret hC.1 hC.2.1 hr (fun t ht hW => ?_) hS.2.2 hd hC.2.2.2.2.2.2.1
    exact ⟨⟨some (.inl z), σ, rfl, mm_iv1 hs, hk.2, ⟨by rw [ht]; exact hP.1, va_K.moved hW.alike hC.2.2.2.2.1, mm_Zkept hC.2.2.2.2.2.1 hS ht hW.alike⟩, by rw [hk.1]; exact hkf.1, by rw [hk.1]; exact hkf.2⟩, hS.F ht⟩
  · exact hk.elim
theorem mm_zr (hC : mm_C p G s m args meth c cc own) {σ0 : mm_S} {Post : Option mm_V → mm_S → Prop} {kf : Nat} (hkf : kf = σ0.2.2 + R.cells ∧ mm_ss kf = mm_ss σ0.2.2 + R.slots) (hr : meth.sig.returnType = some .boolean) (hd : decode cc pc = .ok (.ireturn, 1)) :
    mm_imp (i_zr Post kf) (mm_O p l e R s m args below meth c G σ0.2.2 (MQ below (mm_Qc G σ0 R.cells R.slots Post) args s R.cells R.slots (mm_A G)) pc) := by
  intro ls st σ hk hl hs lsM H locs hL hml hP hS
  unfold i_zr at hk
  split at hk
  · rename_i z
    refine W.widen (k := R.cells) (n := R.slots) (by have := hP.2.2.1; omega) (by have := hP.2.2.2; omega) ?_
    refine W.zret hC.1 hC.2.1 hr (by rcases hk.2.1 with rfl | rfl <;> decide) (fun t ht hW => ?_) hS.2.2 hd hC.2.2.2.2.2.2.1
    exact ⟨⟨some (.inl z), σ, rfl, mm_iv1 hs, hk.2.2, ⟨by rw [ht]; exact hP.1, va_K.moved hW.alike hC.2.2.2.2.1, mm_Zkept hC.2.2.2.2.2.1 hS ht hW.alike⟩, by rw [hk.1]; exact hkf.1, by rw [hk.1]; exact hkf.2⟩, hS.F ht⟩
  · exact hk.elim
theorem mm_vr (hC : mm_C p G s m args meth c cc own) {σ0 : mm_S} {Post : Option mm_V → mm_S → Prop} {kf : Nat} (hkf : kf = σ0.2.2 + R.cells ∧ mm_ss kf = mm_ss σ0.2.2 + R.slots) (hr : meth.sig.returnType = none) (hd : decode cc pc = .ok (.return_, 1)) :
    mm_imp (i_vr Post kf) (mm_O p l e R s m args below meth c G σ0.2.2 (MQ below (mm_Qc G σ0 R.cells R.slots Post) args s R.cells R.slots (mm_A G)) pc) := by
  intro ls st σ hk hl hs lsM H locs hL hml hP hS
  unfold i_vr at hk
  split at hk
  · refine W.widen (k := R.cells) (n := R.slots) (by have := hP.2.2.1; omega) (by have := hP.2.2.2; omega) ?_
    refine W.vret hC.1 hC.2.1 hr (fun t ht hW => ?_) hS.2.2 hd hC.2.2.2.2.2.2.1
    exact ⟨⟨none, σ, rfl, trivial, hk.2, ⟨by rw [ht]; exact hP.1, va_K.moved hW.alike hC.2.2.2.2.1, mm_Zkept hC.2.2.2.2.2.1 hS ht hW.alike⟩, by rw [hk.1]; exact hkf.1, by rw [hk.1]; exact hkf.2⟩, hS.F ht⟩
  · exact hk.elim
end MMD
end
section
/-! calls, switches, the method rule -/
theorem mm_goodAll : ∀ w ∈ lw_gd, goodWord w = true := fun w h => (List.mem_filter.mp h).2
theorem mm_goodW {y : MethodName} {bytes : ByteArray} {maxL : Nat} {ret : Option FieldType} (h : Cond.code y bytes maxL ret ∈ lw_gd) : GoodIn lw_gd (mm_wds y bytes maxL ret) := by
  intro w hw
  have hm : w ∈ lw_gd := by
    rcases List.mem_cons.mp hw with q | q
    · rw [q]; exact h
    · exact q
  exact ⟨hm, good_of_word (mm_goodAll w hm)⟩
theorem mm_blind {G : mm_G} {av : List mm_V} {σ : mm_S} : FrameBlind (mm_Pc G av σ) := by
  intro a U g mk h
  obtain ⟨h1, ⟨h2, h3, h4⟩, h5⟩ := h
  refine ⟨h1, ⟨h2, va_K.moved (u := U) (U := U.calling g mk a) (Vm.Alike.refl U.vm) h3, fun t ht => ?_⟩, h5⟩
  obtain ⟨q1, q2⟩ := h4 t ht
  exact ⟨va_Z.moved (u := U) (U := U.calling g mk a) (Vm.Alike.refl U.vm) q1, va_T.moved (u := U) (U := U.calling g mk a) (Vm.Alike.refl U.vm) q2⟩
section MMC
variable {p : Program} {l : Launch} {e : Env} {R : Room} {s : State} {m : MethodId} {args : Array Value} {below : List Frame} {meth : Method} {c : Code} {G : mm_G} {k0 : Nat} {Q : State → Prop} {cc : ByteArray} {own : String} {pc : Nat} {K : mm_K}
theorem mm_after {σ : mm_S} {mc ms : Nat} {Post : Option mm_V → mm_S → Prop} {H : Heap} {locs : List Loc} {lsM : Array Slot} {ls r : List mm_V} {st0 : List Value} {a : Array Value}
    (hrun : va_Run p l e R s m args below meth c H locs (σ.2.2 - k0) (mm_ss σ.2.2 - mm_ss k0) mc ms (F0 m pc lsM st0) (r.map (mm_v G)) (mm_Qc G σ mc ms Post a) (mm_A G)) (hP : mm_PP G k0 R σ H) (hk0 : mm_ss k0 ≤ mm_ss σ.2.2)
    (hb : σ.2.2 + mc ≤ k0 + R.cells ∧ mm_ss σ.2.2 + ms ≤ mm_ss k0 + R.slots) (hS : va_S (mm_A G) s.heap H locs) (hl : ∀ v ∈ ls, mm_iv v) (hr : ∀ v ∈ r, mm_iv v) (hL : mm_L G lsM ls) (hml : c.maxLocals = ls.length)
    (hpost : ∀ v τ, Post v τ → mm_O p l e R s m args below meth c G k0 Q (pc + 3) ls (v.toList ++ r) τ) : W p l e R s m args below meth c H locs (σ.2.2 - k0) (mm_ss σ.2.2 - mm_ss k0) Q (F0 m pc lsM st0) := by
  intro T hT X
  obtain ⟨v, st₀, t, T', L, h0, X', hLf, e1, e2, ⟨⟨r', τ, hv, hrin, hpo, ⟨hW1, hW2, hW3⟩, hk1, hk2⟩, hz, hkeep⟩, st⟩ := hrun T hT X
  have hv : v = r'.map (mm_v G) := Outcome.returned.inj hv
  subst hv
  rw [h0] at hz hkeep
  have hS' : va_S (mm_A G) s.heap T'.heap (locs ++ L) := by
    refine ⟨Nat.le_trans hS.1 (by rw [e1]; exact hz), fun q q1 q2 => ?_, fun q hq => ?_⟩
    · rw [e1, hkeep q (Nat.lt_of_lt_of_le q1 hS.1) q2]; exact hS.2.1 q q1 q2
    · rcases List.mem_append.mp hq with h | h
      · exact hS.2.2 q h
      · exact hLf q h
  have hiv : ∀ v ∈ r'.toList ++ r, mm_iv v := by
    intro v hv
    rcases List.mem_append.mp hv with h | h
    · cases r' with
      | none => cases h
      | some x => rw [List.mem_singleton.mp h]; exact hrin
    · exact hr v h
  have hc1 : σ.2.2 - k0 + mc = τ.2.2 - k0 := by have := hP.2.1; omega
  have hc2 : mm_ss σ.2.2 - mm_ss k0 + ms = mm_ss τ.2.2 - mm_ss k0 := by omega
  rw [hc1, hc2] at X'
  have go := hpost r' τ hpo hl hiv lsM T'.heap (locs ++ L) hL hml ⟨by rw [e1]; exact hW1, by have := hP.2.1; omega, by omega, by omega⟩ hS' T' rfl X'
  obtain ⟨t2, a1, b1⟩ := go
  refine ⟨t2, st t2 ?_, b1⟩
  have hst : (r'.map (mm_v G)).toList ++ r.map (mm_v G) = (r'.toList ++ r).map (mm_v G) := by
    cases r' <;> simp
  rw [hst]
  exact a1
theorem mm_ssmono {a b : Nat} (h : a ≤ b) : mm_ss a ≤ mm_ss b := by
  induction h with
  | refl => exact Nat.le_refl _
  | step _ ih => exact Nat.le_trans ih (Nat.le_add_right _ _)
theorem mm_preU (hC : mm_C p G s m args meth c cc own) {σ : mm_S} {H : Heap} {locs : List Loc} {av : List mm_V} (hP : mm_P G σ H) (hS : va_S (mm_A G) s.heap H locs) : ∀ U : State, U.heap = H → s.WarmedH U.vm → mm_Pc G av σ (av.map (mm_v G)).toArray U := by
  intro U hU hW
  exact ⟨rfl, ⟨by rw [hU]; exact hP, va_K.moved hW.alike hC.2.2.2.2.1, mm_Zkept hC.2.2.2.2.2.1 hS hU hW.alike⟩, by rw [hU]; exact Nat.le_trans hC.2.2.2.2.2.2.2 hS.1⟩
theorem mm_cv (hC : mm_C p G s m args meth c cc own) {ci n idx N maxL : Nat} {C : String} {Tc : u_T} {ty : Nat → FieldType} {y : MethodName} {bytes : ByteArray} {ret : Option FieldType} {rm : Room} {T : mm_T} (hsp : mm_Sp y bytes maxL ret rm T) (hrm : rm.cells = 0 ∧ rm.slots = 0) (hcl : mm_cl ci C Tc N ty)
    (w1 : Cond.methodLink own idx y ∈ lw_gd) (w2 : Cond.instanceMethod y ∈ lw_gd) (w3 : Cond.selects C y y ∈ lw_gd) (w4 : Cond.code y bytes maxL ret ∈ lw_gd) (w5 : Cond.initialized y.cls ∈ lw_gd)
    (hy : y.cls ≠ "java/lang/invoke/MethodHandle" ∧ y.cls ≠ "java/lang/invoke/VarHandle" ∧ (parseMethodDescriptor y.desc).map (fun d => d.parameters.length) = some n)
    (hR : rm.frames + 1 ≤ R.frames ∧ 8 + (maxL + 11) + rm.locals ≤ R.locals) (hd : decode cc pc = .ok (.invokevirtual idx, 3)) (h : mm_imp K (mm_O p l e R s m args below meth c G k0 Q (pc + 3))) : mm_imp (i_cv ci n T K) (mm_O p l e R s m args below meth c G k0 Q pc) := by
  intro ls st σ hk hl hs lsM H locs hL hml hP hS
  unfold i_cv at hk
  split at hk
  · rename_i a r hst
    obtain ⟨⟨hn, h1, h2, h3⟩, hT⟩ := hk
    have hts := hC.2.2.2.1
    have ha : a < 348 := by have := hP.1.2.2.2; omega
    have hst' : st = st.take n ++ .inr (some a) :: r := by rw [← hst, List.take_append_drop]
    have hav : ∀ v ∈ (.inr (some a) :: (st.take n).reverse : List mm_V), mm_iv v := mm_ivc (v := .inr (some a)) trivial (fun v hv => hs v (List.mem_of_mem_take (List.mem_reverse.mp hv)))
    have hM := hsp l G (.inr (some a) :: (st.take n).reverse) σ _ hav hT
    have hat := hP.1.1 a h1
    rw [mm_Eobj hcl ha h2] at hat
    have hstk : st.map (mm_v G) = (((st.take n).reverse).map (mm_v G)).reverse ++ .ref (G.1 + a) :: r.map (mm_v G) := by
      rw [List.map_reverse, List.reverse_reverse]
      conv => lhs; rw [hst']
      rw [List.map_append, List.map_cons]
      show _ ++ Value.ref (mm_ad G a) :: _ = _
      rw [mm_adw ha]
    have hpre : ∀ U : State, U.heap = H → s.WarmedH U.vm → mm_Pc G (.inr (some a) :: (st.take n).reverse) σ (Value.ref (G.1 + a) :: ((st.take n).reverse).map (mm_v G)).toArray U := by
      intro U hU hW
      have := mm_preU hC (av := .inr (some a) :: (st.take n).reverse) hP.1 hS U hU hW
      rw [List.map_cons, show mm_v G (.inr (some a)) = .ref (G.1 + a) from by show Value.ref (mm_ad G a) = _; rw [mm_adw ha]] at this
      exact this
    refine mm_after (r := r) (va_runV (As := ((st.take n).reverse).map (mm_v G)) (b := G.1 + a) (n := n) (C := C) (nL := ls.length) ⟨hC.1, hC.2.1, hml, hC.2.2.1, hts⟩ hM ⟨callB_of n hts (mm_goodW w4) rfl rfl rfl (hts _ w5) (hts _ w1) hy hR, hts _ w2, hts _ w3⟩ ⟨mm_blind, va_recv hC.2.2.2.2.1 (mm_one hat) hcl.1 (q0 := 0) rfl, hpre⟩ rfl (by simp; omega) hL.1 hstk (lv_room (by rw [mm_catsum]; exact h3)) hd ?_) hP (mm_ssmono hP.2.1) ?_ hS hl (fun v hv => hs v (by rw [hst']; exact List.mem_append_right _ (List.mem_cons_of_mem _ hv))) hL hml (fun v τ hp => h _ _ _ hp)
    · rw [hrm.1, hrm.2]; have := hP.2; omega
    · rw [hrm.1, hrm.2]; have := hP.2; omega
  · exact hk.elim
theorem mm_cs (hC : mm_C p G s m args meth c cc own) {n idx maxL : Nat} {y : MethodName} {bytes : ByteArray} {ret : Option FieldType} {rm : Room} {T : mm_T} (hsp : mm_Sp y bytes maxL ret rm T) (hrm : rm.cells = 0 ∧ rm.slots = 0)
    (w1 : Cond.methodLink own idx y ∈ lw_gd) (w2 : Cond.static y ∈ lw_gd) (w4 : Cond.code y bytes maxL ret ∈ lw_gd) (w5 : Cond.initialized y.cls ∈ lw_gd)
    (hy : y.cls ≠ "java/lang/invoke/MethodHandle" ∧ y.cls ≠ "java/lang/invoke/VarHandle" ∧ (parseMethodDescriptor y.desc).map (fun d => d.parameters.length) = some n)
    (hR : rm.frames + 1 ≤ R.frames ∧ 8 + (maxL + 11) + rm.locals ≤ R.locals) (hd : decode cc pc = .ok (.invokestatic idx, 3)) (h : mm_imp K (mm_O p l e R s m args below meth c G k0 Q (pc + 3))) : mm_imp (i_cs n T K) (mm_O p l e R s m args below meth c G k0 Q pc) := by
  intro ls st σ hk hl hs lsM H locs hL hml hP hS
  obtain ⟨⟨hn, h3⟩, hT⟩ := hk
  have hts := hC.2.2.2.1
  have hav : ∀ v ∈ (st.take n).reverse, mm_iv v := fun v hv => hs v (List.mem_of_mem_take (List.mem_reverse.mp hv))
  have hM := hsp l G (st.take n).reverse σ _ hav hT
  have hstk : st.map (mm_v G) = (((st.take n).reverse).map (mm_v G)).reverse ++ (st.drop n).map (mm_v G) := by
    rw [List.map_reverse, List.reverse_reverse, ← List.map_append, List.take_append_drop]
  refine mm_after (r := st.drop n) (va_runS (As := ((st.take n).reverse).map (mm_v G)) (n := n) (nL := ls.length) ⟨hC.1, hC.2.1, hml, hC.2.2.1, hts⟩ hM ⟨callB_of n hts (mm_goodW w4) rfl rfl rfl (hts _ w5) (hts _ w1) hy hR, hts _ w2⟩ ⟨mm_blind, mm_preU hC hP.1 hS⟩ rfl (by simp; omega) hL.1 hstk (lv_room (by rw [mm_catsum]; exact h3)) hd ?_) hP (mm_ssmono hP.2.1) ?_ hS hl (fun v hv => hs v (List.mem_of_mem_drop hv)) hL hml (fun v τ hp => h _ _ _ hp)
  · rw [hrm.1, hrm.2]; have := hP.2; omega
  · rw [hrm.1, hrm.2]; have := hP.2; omega
theorem mm_ci (hC : mm_C p G s m args meth c cc own) {n idx maxL : Nat} {y : MethodName} {bytes : ByteArray} {rm : Room} {T : mm_T} (hsp : mm_Sp y bytes maxL none rm T) (hy1 : y.name = "<init>")
    (w1 : Cond.methodLink own idx y ∈ lw_gd) (w2 : Cond.instanceMethod y ∈ lw_gd) (w4 : Cond.code y bytes maxL none ∈ lw_gd) (w5 : Cond.initialized y.cls ∈ lw_gd)
    (hy : y.cls ≠ "java/lang/invoke/MethodHandle" ∧ y.cls ≠ "java/lang/invoke/VarHandle" ∧ (parseMethodDescriptor y.desc).map (fun d => d.parameters.length) = some n)
    (hR : rm.frames + 1 ≤ R.frames ∧ 8 + (maxL + 11) + rm.locals ≤ R.locals) (hd : decode cc pc = .ok (.invokespecial idx, 3)) (h : mm_imp K (mm_O p l e R s m args below meth c G k0 Q (pc + 3))) : mm_imp (i_ci k0 R.cells R.slots rm.cells rm.slots n T K) (mm_O p l e R s m args below meth c G k0 Q pc) := by
  intro ls st σ hk hl hs lsM H locs hL hml hP hS
  unfold i_ci at hk
  split at hk
  · rename_i a r hst
    obtain ⟨⟨hn, h1, h3, h4, h5⟩, hT⟩ := hk
    have hts := hC.2.2.2.1
    have ha : a < 348 := by have := hP.1.2.2.2; omega
    have hst' : st = st.take n ++ .inr (some a) :: r := by rw [← hst, List.take_append_drop]
    have hav : ∀ v ∈ (.inr (some a) :: (st.take n).reverse : List mm_V), mm_iv v := mm_ivc (v := .inr (some a)) trivial (fun v hv => hs v (List.mem_of_mem_take (List.mem_reverse.mp hv)))
    have hM := hsp l G (.inr (some a) :: (st.take n).reverse) σ _ hav hT
    have hstk : st.map (mm_v G) = (((st.take n).reverse).map (mm_v G)).reverse ++ .ref (G.1 + a) :: r.map (mm_v G) := by
      rw [List.map_reverse, List.reverse_reverse]
      conv => lhs; rw [hst']
      rw [List.map_append, List.map_cons]
      show _ ++ Value.ref (mm_ad G a) :: _ = _
      rw [mm_adw ha]
    have hpre : ∀ U : State, U.heap = H → s.WarmedH U.vm → mm_Pc G (.inr (some a) :: (st.take n).reverse) σ (Value.ref (G.1 + a) :: ((st.take n).reverse).map (mm_v G)).toArray U := by
      intro U hU hW
      have := mm_preU hC (av := .inr (some a) :: (st.take n).reverse) hP.1 hS U hU hW
      rw [List.map_cons, show mm_v G (.inr (some a)) = .ref (G.1 + a) from by show Value.ref (mm_ad G a) = _; rw [mm_adw ha]] at this
      exact this
    refine mm_after (r := r) (va_runI (As := ((st.take n).reverse).map (mm_v G)) (b := G.1 + a) (n := n) (nL := ls.length) ⟨hC.1, hC.2.1, hml, hC.2.2.1, hts⟩ hM ⟨callB_of n hts (mm_goodW w4) rfl rfl rfl (hts _ w5) (hts _ w1) hy hR, hy1, hts _ w2⟩ ⟨mm_blind, hpre⟩ rfl (by simp; omega) hL.1 hstk (lv_room (by rw [mm_catsum]; exact h3)) hd ?_) hP (mm_ssmono hP.2.1) ⟨h4, h5⟩ hS hl (fun v hv => hs v (by rw [hst']; exact List.mem_append_right _ (List.mem_cons_of_mem _ hv))) hL hml (fun v τ hp => h _ _ _ hp)
    have := mm_ssmono hP.2.1
    have := hP.2
    omega
  · exact hk.elim
theorem mm_min (hC : mm_C p G s m args meth c cc own) {idx : Nat} (w1 : Cond.methodLink own idx Lib.Math.min.name ∈ lw_gd) (w2 : Cond.static Lib.Math.min.name ∈ lw_gd) (w3 : Cond.initialized "java/lang/Math" ∈ lw_gd) (w4 : Cond.code Lib.Math.min.name Lib.Math.min.code 2 (some .int) ∈ lw_gd) (hR : 1 ≤ R.frames ∧ 17 ≤ R.locals) (hd : decode cc pc = .ok (.invokestatic idx, 3)) (h : mm_imp K (mm_O p l e R s m args below meth c G k0 Q (pc + 3))) : mm_imp (i_min K) (mm_O p l e R s m args below meth c G k0 Q pc) := by
  intro ls st σ hk hl hs lsM H locs hL hml hP hS
  unfold i_min at hk
  split at hk
  · rename_i y x r
    have hy : mm_in y := mm_iv1 hs
    have hx : mm_in x := mm_iv1 (mm_ivt hs)
    have hts := hC.2.2.2.1
    refine va_mmin hC.1 hC.2.1 (by rw [hml, hL.1]) hC.2.2.1 (hts _ w1) (hts _ w2) (hts _ w3) (hts _ w4) hR.1 (by rw [mm_catsum]; have := hk.1; omega) (by have := hP.2.2.1; omega) (by have := hP.2.2.2; omega) hd ?_
    have hite : (if Int32.ofInt y < Int32.ofInt x then Int32.ofInt y else Int32.ofInt x) = Int32.ofInt (if y < x then y else x) := by
      by_cases q : y < x
      · rw [if_pos ((mm_lt hy hx).mpr q), if_pos q]
      · rw [if_neg (fun z => q ((mm_lt hy hx).mp z)), if_neg q]
    rw [hite]
    exact h _ _ _ hk.2 hl (mm_ivc (v := .inl (if y < x then y else x)) (by show mm_in _; split <;> assumption) (mm_ivt (mm_ivt hs))) lsM H locs hL hml hP hS
  · exact hk.elim
theorem mm_max (hC : mm_C p G s m args meth c cc own) {idx : Nat} (w1 : Cond.methodLink own idx Lib.Math.max.name ∈ lw_gd) (w2 : Cond.static Lib.Math.max.name ∈ lw_gd) (w3 : Cond.initialized "java/lang/Math" ∈ lw_gd) (w4 : Cond.code Lib.Math.max.name Lib.Math.max.code 2 (some .int) ∈ lw_gd) (hR : 1 ≤ R.frames ∧ 17 ≤ R.locals) (hd : decode cc pc = .ok (.invokestatic idx, 3)) (h : mm_imp K (mm_O p l e R s m args below meth c G k0 Q (pc + 3))) : mm_imp (i_max K) (mm_O p l e R s m args below meth c G k0 Q pc) := by
  intro ls st σ hk hl hs lsM H locs hL hml hP hS
  unfold i_max at hk
  split at hk
  · rename_i y x r
    have hy : mm_in y := mm_iv1 hs
    have hx : mm_in x := mm_iv1 (mm_ivt hs)
    have hts := hC.2.2.2.1
    refine va_mmax hC.1 hC.2.1 (by rw [hml, hL.1]) hC.2.2.1 (hts _ w1) (hts _ w2) (hts _ w3) (hts _ w4) hR.1 (by rw [mm_catsum]; have := hk.1; omega) (by have := hP.2.2.1; omega) (by have := hP.2.2.2; omega) hd ?_
    have hite : (if Int32.ofInt x < Int32.ofInt y then Int32.ofInt y else Int32.ofInt x) = Int32.ofInt (if x < y then y else x) := by
      by_cases q : x < y
      · rw [if_pos ((mm_lt hx hy).mpr q), if_pos q]
      · rw [if_neg (fun z => q ((mm_lt hx hy).mp z)), if_neg q]
    rw [hite]
    exact h _ _ _ hk.2 hl (mm_ivc (v := .inl (if x < y then y else x)) (by show mm_in _; split <;> assumption) (mm_ivt (mm_ivt hs))) lsM H locs hL hml hP hS
  · exact hk.elim
theorem mm_objI (hC : mm_C p G s m args meth c cc own) {idx : Nat} (w1 : Cond.methodLink own idx objectInit ∈ lw_gd) (w2 : Cond.instanceMethod objectInit ∈ lw_gd) (w3 : Cond.code objectInit ⟨#[0xb1]⟩ 1 none ∈ lw_gd) (hR : 1 ≤ R.frames ∧ 16 ≤ R.locals) (hd : decode cc pc = .ok (.invokespecial idx, 3)) (h : mm_imp K (mm_O p l e R s m args below meth c G k0 Q (pc + 3))) : mm_imp (i_oi K) (mm_O p l e R s m args below meth c G k0 Q pc) := by
  intro ls st σ hk hl hs lsM H locs hL hml hP hS
  unfold i_oi at hk
  split at hk
  · rename_i a r
    have hts := hC.2.2.2.1
    exact W.objInit hC.1 hC.2.1 hC.2.2.1 (hts _ w1) (hts _ w2) (hts _ w3) rfl (by rw [hml]; exact hL.1) rfl hd hR.1 (by rw [mm_catsum]; have := hk.1; show 2 * 0 + _ + _ ≤ _; omega) (h _ _ _ hk.2 hl (mm_ivt hs) lsM H locs hL hml hP hS)
  · exact hk.elim
end MMC
end
section
/-! the method rule; switches; arraycopy -/
theorem mm_slv (G : mm_G) (av : List mm_V) : lg_sl (av.map (mm_v G)) = (av.map (mm_v G)).map Slot.val := by
  induction av with
  | nil => rfl
  | cons v av ih =>
    rw [List.map_cons, List.map_cons, ← ih]
    unfold lg_sl
    rw [List.flatMap_cons, if_neg (by rw [mm_cat]; decide)]
    rfl
theorem mm_meth {y : MethodName} {bytes : ByteArray} {maxL : Nat} {ret : Option FieldType} {rm : Room} {T : mm_T} (hy : plainName y.cls = true) (hargs : ∀ av σ Post, T av σ Post → av.length ≤ maxL)
    (body : ∀ (p : Program) (l : Launch) (e : Env) (s : State) (m : MethodId) (args : Array Value) (below : List Frame) (meth : Method) (c : Code) (G : mm_G) (av : List mm_V) (σ : mm_S) (Post : Option mm_V → mm_S → Prop), mm_C p G s m args meth c bytes y.cls → meth.sig.returnType = ret → (meth.name = y.name) → (∀ v ∈ av, mm_iv v) → (∀ a j, mm_in (σ.1 a j)) → σ.2.2 ≤ 348 → T av σ Post →
      mm_O p l e rm s m args below meth c G σ.2.2 (MQ below (mm_Qc G σ rm.cells rm.slots Post) args s rm.cells rm.slots (mm_A G)) 0 (av ++ List.replicate (maxL - av.length) (.inr none)) [] σ) : mm_Sp y bytes maxL ret rm T := by
  intro l G av σ Post hav hT
  have hlen := hargs av σ Post hT
  refine Met.ofW (cc := bytes) (maxL := maxL) (ret := ret) hy rfl ?_
  intro p e s m args below meth c s₁ B hml hv
  obtain ⟨rfl, ⟨hP, hK, hZ⟩, hG⟩ := hv
  have hts : ∀ w ∈ lw_gd, w.before (av.map (mm_v G)).toArray s = true := fun w hw => atoms_spec (ws := mm_wds y bytes maxL ret) B.pre w (List.mem_cons_of_mem _ hw)
  have hC : mm_C p G s m (av.map (mm_v G)).toArray meth c bytes y.cls := ⟨B.exec, B.bytes, findClass_of_methodNamed B.named, hts, hK, hZ, B.notSynchronized, hG⟩
  have hb := body p l e s m _ below meth c G av σ Post hC B.returns (name_of_methodNamed B.named B.method).1 hav hP.2.1 hP.2.2.2 hT
  have hlv := lv_entry (av.map (mm_v G)) (n := maxL) (by rw [mm_slv]; simpa using hlen)
  rw [lg_entry_eq]
  have hll : (av ++ List.replicate (maxL - av.length) (.inr none : mm_V)).length = maxL := by simp; omega
  have go := hb ?_ (fun v hv => by cases hv) ((lg_sl (av.map (mm_v G)) ++ List.replicate (maxL - (lg_sl (av.map (mm_v G))).length) Slot.unset).toArray) s.heap [] ⟨by rw [hll]; exact hlv.1, hlv.2.1, fun i v hi hv => ?_⟩ (by rw [hll]; exact hml) ⟨hP, Nat.le_refl _, Nat.le_add_right _ _, Nat.le_add_right _ _⟩ va_S.rf
  · rw [Nat.sub_self, Nat.sub_self] at go
    exact go
  · intro v hv
    rcases List.mem_append.mp hv with h | h
    · exact hav v h
    · rw [(List.mem_replicate.mp h).2]; trivial
  · by_cases hi2 : i < av.length
    · rw [List.getElem?_append_left hi2] at hi
      rw [List.getElem?_toArray, mm_slv, List.getElem?_append_left (by simpa using hi2)]
      simp [hi]
    · rw [List.getElem?_append_right (by omega)] at hi
      have := List.mem_of_getElem? hi
      exact absurd (List.mem_replicate.mp this).2 hv
section MMSW
variable {p : Program} {l : Launch} {e : Env} {R : Room} {s : State} {m : MethodId} {args : Array Value} {below : List Frame} {meth : Method} {c : Code} {G : mm_G} {k0 : Nat} {Q : State → Prop} {cc : ByteArray} {own : String} {pc : Nat} {K : mm_K}
def mm_tcs (pc : Nat) : Int → List Int → List (Int × Nat)
  | _, [] => []
  | lo, o :: os => (lo, ((pc : Int) + o).toNat) :: mm_tcs pc (lo + 1) os
theorem mm_tcsIn {Ok : Nat → mm_K} {d : Nat} {ls r : List mm_V} {σ : mm_S} {x : Int} : ∀ (os : List Int) (lo : Int), i_sw Ok d (mm_tcs pc lo os) ls (.inl x :: r) σ → (∀ (i : Nat) (o : Int), os[i]? = some o → x = lo + i → Ok ((pc : Int) + o).toNat ls r σ) ∧ ((x < lo ∨ lo + os.length ≤ x) → Ok d ls r σ)
  | [], lo => fun h => ⟨fun i o hi => by simp at hi, fun _ => h⟩
  | o :: os, lo => fun h => by
    obtain ⟨h1, h2⟩ := h
    refine ⟨fun i o' hi hx => ?_, fun hx => ?_⟩
    · cases i with
      | zero =>
        simp at hi
        subst hi
        exact h1 (by simpa using hx)
      | succ i =>
        have h3 := h2 (by omega)
        exact (mm_tcsIn os (lo + 1) h3).1 i o' (by simpa using hi) (by omega)
    · have hne : ¬ x = lo := by
        rcases hx with q | q
        · omega
        · simp at q; omega
      have h3 := h2 hne
      refine (mm_tcsIn os (lo + 1) h3).2 ?_
      rcases hx with q | q
      · left; omega
      · right; simp at q; omega
theorem mm_tsw (hC : mm_C p G s m args meth c cc own) {dflt lo hi : Int} {offs : Array Int} {len d : Nat} {cs : List (Int × Nat)} (hd : decode cc pc = .ok (.tableswitch dflt lo hi offs, len)) (hcs : mm_tcs pc lo offs.toList = cs) (hhi : hi + 1 = lo + offs.size) (hpos : offs.toList.all (fun o => decide (0 ≤ (pc : Int) + o)) = true) (hdf : (pc : Int) + dflt = (d : Int)) : mm_imp (i_sw (mm_O p l e R s m args below meth c G k0 Q) d cs) (mm_O p l e R s m args below meth c G k0 Q pc) := by
  intro ls st σ hk hl hs lsM H locs hL hml hP hS
  subst hcs
  match st, hk, hs with
  | .inl x :: r, hk, hs =>
    have hx : mm_in x := mm_iv1 hs
    obtain ⟨h1, h2⟩ := mm_tcsIn _ _ hk
    by_cases q : x < lo ∨ hi < x
    · refine lv_tableOut hC.1 hC.2.1 hd (by rw [mm_toI hx]; exact q) hdf ?_
      refine h2 ?_ hl (mm_ivt hs) lsM H locs hL hml hP hS
      rcases q with q | q
      · exact Or.inl q
      · right; simp; omega
    · have q1 : ¬ x < lo := fun z => q (Or.inl z)
      have q2 : ¬ hi < x := fun z => q (Or.inr z)
      have hlt : (x - lo).toNat < offs.size := by omega
      have ho : offs[(x - lo).toNat]? = some offs[(x - lo).toNat] := Array.getElem?_eq_getElem hlt
      have hpo := List.all_eq_true.mp hpos (offs[(x - lo).toNat]) (by simp)
      refine lv_tableIn (tgt := ((pc : Int) + offs[(x - lo).toNat]).toNat) hC.1 hC.2.1 hd (by rw [mm_toI hx]; exact q1) (by rw [mm_toI hx]; exact q2) (by rw [mm_toI hx]; exact ho) ?_ ?_
      · have : 0 ≤ (pc : Int) + offs[(x - lo).toNat] := by simpa using hpo
        omega
      · exact h1 (x - lo).toNat _ (by rw [Array.getElem?_toList]; exact ho) (by omega) hl (mm_ivt hs) lsM H locs hL hml hP hS
  | [], hk, hs =>
    cases h : offs.toList with
    | nil => rw [h] at hk; exact hk.elim
    | cons a b => rw [h] at hk; exact hk.elim
  | .inr v :: r, hk, hs =>
    cases h : offs.toList with
    | nil => rw [h] at hk; exact hk.elim
    | cons a b => rw [h] at hk; exact hk.elim
def mm_lcs (pc : Nat) : List (Int × Int) → List (Int × Nat)
  | [] => []
  | (z, o) :: os => (z, ((pc : Int) + o).toNat) :: mm_lcs pc os
theorem mm_lcsIn {Ok : Nat → mm_K} {d : Nat} {dflt : Int} (hdf : (pc : Int) + dflt = (d : Int)) {ls r : List mm_V} {σ : mm_S} {x : Int} : ∀ (os : List (Int × Int)), os.all (fun o => decide (0 ≤ (pc : Int) + o.2)) = true → i_sw Ok d (mm_lcs pc os) ls (.inl x :: r) σ → ∃ t : Nat, (pc : Int) + Op.lookupswitch.offset os dflt x = (t : Int) ∧ Ok t ls r σ
  | [] => fun _ h => ⟨d, hdf, h⟩
  | (z, o) :: os => fun hpos h => by
    obtain ⟨h1, h2⟩ := h
    rw [List.all_cons, Bool.and_eq_true] at hpos
    rw [Op.lookupswitch.offset_cons]
    by_cases q : x = z
    · rw [if_pos q.symm]
      have hp : 0 ≤ (pc : Int) + o := by simpa using hpos.1
      exact ⟨_, by omega, h1 q⟩
    · rw [if_neg (fun w => q w.symm)]
      exact mm_lcsIn hdf os hpos.2 (h2 q)
theorem mm_lsw (hC : mm_C p G s m args meth c cc own) {dflt : Int} {ps : Array (Int × Int)} {len d : Nat} {cs : List (Int × Nat)} (hd : decode cc pc = .ok (.lookupswitch dflt ps, len)) (hcs : mm_lcs pc ps.toList = cs) (hp : (ps.toList.zip (ps.toList.drop 1)).all (fun (a, next) => a.1 < next.1) = true) (hpos : ps.toList.all (fun o => decide (0 ≤ (pc : Int) + o.2)) = true) (hdf : (pc : Int) + dflt = (d : Int)) : mm_imp (i_sw (mm_O p l e R s m args below meth c G k0 Q) d cs) (mm_O p l e R s m args below meth c G k0 Q pc) := by
  intro ls st σ hk hl hs lsM H locs hL hml hP hS
  subst hcs
  match st, hk, hs with
  | .inl x :: r, hk, hs =>
    have hx : mm_in x := mm_iv1 hs
    obtain ⟨t, h1, h2⟩ := mm_lcsIn hdf _ hpos hk
    exact lv_lookup hC.1 hC.2.1 hd hp (by rw [mm_toI hx]) h1 (h2 hl (mm_ivt hs) lsM H locs hL hml hP hS)
  | [], hk, hs =>
    cases h : ps.toList with
    | nil => rw [h] at hk; exact hk.elim
    | cons a b => rw [h] at hk; exact hk.elim
  | .inr v :: r, hk, hs =>
    cases h : ps.toList with
    | nil => rw [h] at hk; exact hk.elim
    | cons a b => rw [h] at hk; exact hk.elim
def mm_ws (G : mm_G) (σ : mm_S) : va_W := (List.range σ.2.2).map (fun a => (G.1 + a, mm_E G σ a))
theorem mm_wsAt {G : mm_G} {σ : mm_S} {a : Nat} (h : a < σ.2.2) : (mm_ws G σ)[a]? = some (G.1 + a, mm_E G σ a) := by simp [mm_ws, h]
theorem mm_wsN {G : mm_G} {σ : mm_S} {a : Nat} {q : Nat × va_E} (h : (mm_ws G σ)[a]? = some q) : a < σ.2.2 ∧ q = (G.1 + a, mm_E G σ a) := by
  have h1 : a < (mm_ws G σ).length := (List.getElem?_eq_some_iff.mp h).1
  have h2 : a < σ.2.2 := by simpa [mm_ws] using h1
  rw [mm_wsAt h2] at h
  exact ⟨h2, (Option.some.inj h).symm⟩
theorem mm_copy (hC : mm_C p G s m args meth c cc own) {idx : Nat} (w1 : Cond.methodLink own idx arraycopyName ∈ lw_gd) (w2 : Cond.native arraycopyName ∈ lw_gd) (w3 : Cond.static arraycopyName ∈ lw_gd) (w4 : Cond.initialized "java/lang/System" ∈ lw_gd) (hR : 1 ≤ R.frames ∧ nativeFrameWords "java/lang/System" "arraycopy" 5 + 11 ≤ R.locals) (hd : decode cc pc = .ok (.invokestatic idx, 3)) (h : mm_imp K (mm_O p l e R s m args below meth c G k0 Q (pc + 3))) : mm_imp (i_cpy K) (mm_O p l e R s m args below meth c G k0 Q pc) := by
  intro ls st σ hk hl hs lsM H locs hL hml hP hS
  unfold i_cpy at hk
  split at hk
  · rename_i n dp b sp a r
    obtain ⟨⟨h1, h2, h3, h4, h5, h6, h7, h8, h9, h10, h11⟩, hk⟩ := hk
    subst h11
    have hts := hC.2.2.2.1
    have hb : b < 348 := by omega
    have ha : a < 348 := by omega
    have hn : mm_in n := mm_iv1 hs
    have hdp : mm_in dp := mm_iv1 (mm_ivt hs)
    have hsp : mm_in sp := mm_iv1 (mm_ivt (mm_ivt (mm_ivt hs)))
    have hPw : va_P G.2.1 vwCl (mm_ws G σ) H := fun k q hq => by
      obtain ⟨q1, q2⟩ := mm_wsN hq
      rw [q2]; exact hP.1.1 k q1
    have hDw : va_D (mm_A G) (mm_ws G σ) := by
      refine ⟨fun i j x y hx hy hxy => ?_, fun k q hq => ?_⟩
      · rw [(mm_wsN hx).2, (mm_wsN hy).2] at hxy
        have : G.1 + i = G.1 + j := hxy
        omega
      · rw [(mm_wsN hq).2]; exact Nat.le_add_right _ _
    have e0 := mm_wsAt (G := G) h1
    have e1 := mm_wsAt (G := G) h2
    rw [mm_Eint h3] at e0
    rw [mm_Eint h4] at e1
    have nn : ∀ z : Int, mm_in z → 0 ≤ z → ¬ Int32.ofInt z < 0 := fun z hz h0 q => by
      rw [mm_0, mm_lt hz mm_in0] at q
      omega
    show W p l e R s m args below meth c H locs _ _ Q (F0 m pc lsM [.int (Int32.ofInt n), .int (Int32.ofInt dp), .ref (mm_ad G b), .int (Int32.ofInt sp), .ref (mm_ad G a)])
    rw [mm_adw ha, mm_adw hb]
    refine va_copyi (D := G.2.1) (cl := vwCl) (ty := .int) hC.1 hC.2.1 (by rw [hml, hL.1]) hC.2.2.1 (hts _ w1) (hts _ w2) (hts _ w3) (hts _ w4) hC.2.2.2.2.1 hPw hDw hS a b 0 0 e0 e1 rfl rfl rfl (nn _ hsp h7) (nn _ hdp h6) (nn _ hn h5) (by rw [mm_clamp hsp, mm_clamp hn]; omega) (by rw [mm_clamp hdp, mm_clamp hn]; omega) (fun _ _ => rfl) hR.1 (by simpa using hR.2) hd (fun H1 locs1 hP1 hD1 hS1 => ?_)
    rw [mm_clamp hsp, mm_clamp hdp, mm_clamp hn] at hP1
    refine h _ _ _ hk hl (fun v hv => by cases hv) lsM H1 locs1 hL hml ⟨⟨fun x hx => ?_, fun x j => ?_, Or.inl h10, hP.1.2.2.2⟩, hP.2⟩ hS1
    · have hx' : x < σ.2.2 := hx
      by_cases q : x = b
      · subst q
        have := hP1 x (G.1 + x, .inl (G.2.2.1 100, (mm_sh x).2, .inl (va_cpy (fun j => Int32.ofInt (σ.1 a j)) (fun j => Int32.ofInt (σ.1 x j)) sp.toNat dp.toNat n.toNat))) (by rw [List.getElem?_set_self (by simp [mm_ws]; exact hx')])
        have hE : mm_E G (mm_cpy σ.1 a x sp.toNat dp.toNat n.toNat, σ.2) x = .inl (G.2.2.1 100, (mm_sh x).2, .inl (va_cpy (fun j => Int32.ofInt (σ.1 a j)) (fun j => Int32.ofInt (σ.1 x j)) sp.toNat dp.toNat n.toNat)) := by
          rw [mm_Eint h4]
          congr 4
          funext j
          simp only [mm_cpy, va_cpy]
          split <;> rename_i q
          · rw [if_pos q.2]
          · rw [if_neg (fun z => q ⟨trivial, z⟩)]
        rw [hE]
        exact this
      · have := hP1 x (G.1 + x, mm_E G σ x) (by rw [List.getElem?_set_ne (fun z => q z.symm)]; exact mm_wsAt hx')
        have hE : mm_E G (mm_cpy σ.1 a b sp.toNat dp.toNat n.toNat, σ.2) x = mm_E G σ x := by
          have h1 : (mm_cpy σ.1 a b sp.toNat dp.toNat n.toNat) x = σ.1 x := by funext i; simp [mm_cpy, q]
          unfold mm_E mm_fv
          simp only [h1]
        rw [hE]
        exact this
    · show mm_in (mm_cpy σ.1 a b sp.toNat dp.toNat n.toNat x j)
      unfold mm_cpy
      split
      · exact hP.1.2.1 _ _
      · exact hP.1.2.1 _ _
  · exact hk.elim
end MMSW
end
section
theorem in_t0 {w : Cond} (h : w ∈ k2_sels lw_privs) : w ∈ lw_tbl := List.mem_append_left _ h
theorem in_t1 {w : Cond} (h : w ∈ tables_1_1) : w ∈ lw_tbl := List.mem_append_right _ (show w ∈ tables_1_1 ++ (tables_1_2 ++ (tables_1_3 ++ (tables_1_4 ++ (tables_1_5)))) from List.mem_append_left _ h)
theorem in_t2 {w : Cond} (h : w ∈ tables_1_2) : w ∈ lw_tbl := List.mem_append_right _ (show w ∈ tables_1_1 ++ (tables_1_2 ++ (tables_1_3 ++ (tables_1_4 ++ (tables_1_5)))) from List.mem_append_right _ (List.mem_append_left _ h))
theorem in_t3 {w : Cond} (h : w ∈ tables_1_3) : w ∈ lw_tbl := List.mem_append_right _ (show w ∈ tables_1_1 ++ (tables_1_2 ++ (tables_1_3 ++ (tables_1_4 ++ (tables_1_5)))) from List.mem_append_right _ (List.mem_append_right _ (List.mem_append_left _ h)))
theorem in_t4 {w : Cond} (h : w ∈ tables_1_4) : w ∈ lw_tbl := List.mem_append_right _ (show w ∈ tables_1_1 ++ (tables_1_2 ++ (tables_1_3 ++ (tables_1_4 ++ (tables_1_5)))) from List.mem_append_right _ (List.mem_append_right _ (List.mem_append_right _ (List.mem_append_left _ h))))
theorem in_t5 {w : Cond} (h : w ∈ tables_1_5) : w ∈ lw_tbl := List.mem_append_right _ (show w ∈ tables_1_1 ++ (tables_1_2 ++ (tables_1_3 ++ (tables_1_4 ++ (tables_1_5)))) from List.mem_append_right _ (List.mem_append_right _ (List.mem_append_right _ (List.mem_append_right _ (h)))))
theorem wd_0 : Cond.selects "PieceSurfaces$Skeleton" yX8_joinFaces yX8_joinFaces ∈ lw_gd := mm_gd (in_t0 (List.mem_of_getElem? (i := 0) rfl)) rfl
theorem wd_1 : Cond.selects "PieceSurfaces$Skeleton" yX8_joinArrows yX8_joinArrows ∈ lw_gd := mm_gd (in_t0 (List.mem_of_getElem? (i := 1) rfl)) rfl
theorem wd_2 : Cond.selects "PieceSurfaces$Skeleton" yX8_measureLines yX8_measureLines ∈ lw_gd := mm_gd (in_t0 (List.mem_of_getElem? (i := 2) rfl)) rfl
theorem wd_3 : Cond.selects "PieceSurfaces$Survey" yX9_isGood yX9_isGood ∈ lw_gd := mm_gd (in_t0 (List.mem_of_getElem? (i := 3) rfl)) rfl
theorem wd_4 : Cond.selects "PieceSurfaces$Survey" yX9_trace yX9_trace ∈ lw_gd := mm_gd (in_t0 (List.mem_of_getElem? (i := 4) rfl)) rfl
theorem wd_5 : Cond.selects "PieceSurfaces$Survey" yX9_joinPieces yX9_joinPieces ∈ lw_gd := mm_gd (in_t0 (List.mem_of_getElem? (i := 5) rfl)) rfl
theorem wd_6 : Cond.selects "PieceSurfaces$Survey" yX9_sideAt yX9_sideAt ∈ lw_gd := mm_gd (in_t0 (List.mem_of_getElem? (i := 6) rfl)) rfl
theorem wd_7 : Cond.selects "PieceSurfaces$Book" yX0_isTrue yX0_isTrue ∈ lw_gd := mm_gd (in_t0 (List.mem_of_getElem? (i := 7) rfl)) rfl
theorem wd_8 : Cond.selects "PieceSurfaces$Matching" yX4_enter yX4_enter ∈ lw_gd := mm_gd (in_t0 (List.mem_of_getElem? (i := 8) rfl)) rfl
theorem wd_9 : Cond.selects "PieceSurfaces" yX11_hasFace yX11_hasFace ∈ lw_gd := mm_gd (in_t0 (List.mem_of_getElem? (i := 9) rfl)) rfl
theorem wd_10 : Cond.selects "PieceSurfaces" yX11_hasBody yX11_hasBody ∈ lw_gd := mm_gd (in_t0 (List.mem_of_getElem? (i := 10) rfl)) rfl
theorem wd_11 : Cond.selects "PieceSurfaces" yX11_hasEdge yX11_hasEdge ∈ lw_gd := mm_gd (in_t0 (List.mem_of_getElem? (i := 11) rfl)) rfl
theorem wd_12 : Cond.selects "PieceSurfaces" yX11_hasSurface yX11_hasSurface ∈ lw_gd := mm_gd (in_t0 (List.mem_of_getElem? (i := 12) rfl)) rfl
theorem wd_13 : Cond.selects "PieceSurfaces$Survey" yX9_type yX9_type ∈ lw_gd := mm_gd (in_t0 (List.mem_of_getElem? (i := 13) rfl)) rfl
theorem wd_14 : Cond.selects "PieceSurfaces$Survey" yX9_splits yX9_splits ∈ lw_gd := mm_gd (in_t0 (List.mem_of_getElem? (i := 14) rfl)) rfl
theorem wd_15 : Cond.selects "PieceSurfaces$Survey" yX9_listUsed yX9_listUsed ∈ lw_gd := mm_gd (in_t0 (List.mem_of_getElem? (i := 15) rfl)) rfl
theorem wd_16 : Cond.selects "PieceSurfaces$Survey" yX9_nextPart yX9_nextPart ∈ lw_gd := mm_gd (in_t0 (List.mem_of_getElem? (i := 16) rfl)) rfl
theorem wd_17 : Cond.selects "PieceSurfaces" yX11_driftOnce yX11_driftOnce ∈ lw_gd := mm_gd (in_t0 (List.mem_of_getElem? (i := 17) rfl)) rfl
theorem wd_18 : Cond.selects "PieceSurfaces" yX11_hasImage yX11_hasImage ∈ lw_gd := mm_gd (in_t0 (List.mem_of_getElem? (i := 18) rfl)) rfl
theorem wd_19 : Cond.selects "PieceSurfacesModel" yX12_unglueAll yX12_unglueAll ∈ lw_gd := mm_gd (in_t0 (List.mem_of_getElem? (i := 19) rfl)) rfl
theorem wd_20 : Cond.selects "PieceSurfacesModel" yX12_freeMany yX12_freeMany ∈ lw_gd := mm_gd (in_t0 (List.mem_of_getElem? (i := 20) rfl)) rfl
theorem wd_21 : Cond.selects "PieceSurfacesModel" yX12_walls yX12_walls ∈ lw_gd := mm_gd (in_t0 (List.mem_of_getElem? (i := 21) rfl)) rfl
theorem wd_22 : Cond.selects "PieceSurfacesModel" yX12_isFree yX12_isFree ∈ lw_gd := mm_gd (in_t0 (List.mem_of_getElem? (i := 22) rfl)) rfl
theorem wd_23 : Cond.selects "PieceSurfacesModel" yX12_points yX12_points ∈ lw_gd := mm_gd (in_t0 (List.mem_of_getElem? (i := 23) rfl)) rfl
theorem wd_24 : Cond.selects "PieceSurfacesModel" yX12_layRoom yX12_layRoom ∈ lw_gd := mm_gd (in_t0 (List.mem_of_getElem? (i := 24) rfl)) rfl
theorem wd_25 : Cond.selects "PieceSurfacesModel" yX12_glueCorners yX12_glueCorners ∈ lw_gd := mm_gd (in_t0 (List.mem_of_getElem? (i := 25) rfl)) rfl
theorem wd_26 : Cond.selects "PieceSurfacesModel" yX12_goesTo yX12_goesTo ∈ lw_gd := mm_gd (in_t0 (List.mem_of_getElem? (i := 26) rfl)) rfl
theorem wd_27 : Cond.selects "PieceSurfacesModel" yX12_lines yX12_lines ∈ lw_gd := mm_gd (in_t0 (List.mem_of_getElem? (i := 27) rfl)) rfl
theorem wd_28 : Cond.selects "PieceSurfacesModel" yX12_bents yX12_bents ∈ lw_gd := mm_gd (in_t0 (List.mem_of_getElem? (i := 28) rfl)) rfl
theorem wd_29 : Cond.selects "PieceSurfacesModel" yX12_bentMany yX12_bentMany ∈ lw_gd := mm_gd (in_t0 (List.mem_of_getElem? (i := 29) rfl)) rfl
theorem wd_30 : Cond.selects "PieceSurfacesModel" yX12_isBent yX12_isBent ∈ lw_gd := mm_gd (in_t0 (List.mem_of_getElem? (i := 30) rfl)) rfl
theorem wd_31 : Cond.selects "PieceSurfacesModel" yX12_goodMany yX12_goodMany ∈ lw_gd := mm_gd (in_t0 (List.mem_of_getElem? (i := 31) rfl)) rfl
theorem wd_32 : Cond.selects "PieceSurfacesModel" yX12_isGood yX12_isGood ∈ lw_gd := mm_gd (in_t0 (List.mem_of_getElem? (i := 32) rfl)) rfl
theorem wd_33 : Cond.selects "PieceSurfacesModel" yX12_layAbout yX12_layAbout ∈ lw_gd := mm_gd (in_t0 (List.mem_of_getElem? (i := 33) rfl)) rfl
theorem wd_34 : Cond.selects "PieceSurfacesModel" yX12_parts yX12_parts ∈ lw_gd := mm_gd (in_t0 (List.mem_of_getElem? (i := 34) rfl)) rfl
theorem wd_35 : Cond.selects "PieceSurfacesModel" yX12_join yX12_join ∈ lw_gd := mm_gd (in_t0 (List.mem_of_getElem? (i := 35) rfl)) rfl
theorem wd_36 : Cond.selects "PieceSurfacesModel" yX12_joinArcs yX12_joinArcs ∈ lw_gd := mm_gd (in_t0 (List.mem_of_getElem? (i := 36) rfl)) rfl
theorem wd_37 : Cond.selects "PieceSurfacesModel" yX12_arcsOf yX12_arcsOf ∈ lw_gd := mm_gd (in_t0 (List.mem_of_getElem? (i := 37) rfl)) rfl
theorem wd_38 : Cond.selects "PieceSurfacesModel" yX12_pieceAt yX12_pieceAt ∈ lw_gd := mm_gd (in_t0 (List.mem_of_getElem? (i := 38) rfl)) rfl
theorem wd_39 : Cond.selects "PieceSurfacesModel" yX12_isThere yX12_isThere ∈ lw_gd := mm_gd (in_t0 (List.mem_of_getElem? (i := 39) rfl)) rfl
theorem wd_40 : Cond.selects "PieceSurfacesModel" yX12_isTwoSided yX12_isTwoSided ∈ lw_gd := mm_gd (in_t0 (List.mem_of_getElem? (i := 40) rfl)) rfl
theorem wd_41 : Cond.selects "PieceSurfacesModel" yX12_euler yX12_euler ∈ lw_gd := mm_gd (in_t0 (List.mem_of_getElem? (i := 41) rfl)) rfl
theorem wd_42 : Cond.selects "PieceSurfacesModel" yX12_allPieces yX12_allPieces ∈ lw_gd := mm_gd (in_t0 (List.mem_of_getElem? (i := 42) rfl)) rfl
theorem wd_43 : Cond.selects "PieceSurfacesModel" yX12_weightOf yX12_weightOf ∈ lw_gd := mm_gd (in_t0 (List.mem_of_getElem? (i := 43) rfl)) rfl
theorem wd_44 : Cond.selects "PieceSurfacesModel" yX12_arcsOfWall yX12_arcsOfWall ∈ lw_gd := mm_gd (in_t0 (List.mem_of_getElem? (i := 44) rfl)) rfl
theorem wd_45 : Cond.selects "PieceSurfacesModel" yX12_border yX12_border ∈ lw_gd := mm_gd (in_t0 (List.mem_of_getElem? (i := 45) rfl)) rfl
theorem wd_46 : Cond.selects "PieceSurfacesModel" yX12_characteristic yX12_characteristic ∈ lw_gd := mm_gd (in_t0 (List.mem_of_getElem? (i := 46) rfl)) rfl
theorem wd_47 : Cond.selects "PieceSurfacesModel" yX12_wrongEntry yX12_wrongEntry ∈ lw_gd := mm_gd (in_t0 (List.mem_of_getElem? (i := 47) rfl)) rfl
theorem wd_48 : Cond.selects "PieceSurfacesModel" yX12_isSurface yX12_isSurface ∈ lw_gd := mm_gd (in_t0 (List.mem_of_getElem? (i := 48) rfl)) rfl
theorem wd_49 : Cond.selects "PieceSurfacesModel" yX12_isWell yX12_isWell ∈ lw_gd := mm_gd (in_t0 (List.mem_of_getElem? (i := 49) rfl)) rfl
theorem wd_50 : Cond.selects "PieceSurfacesModel" yX12_meets yX12_meets ∈ lw_gd := mm_gd (in_t0 (List.mem_of_getElem? (i := 50) rfl)) rfl
theorem wd_51 : Cond.selects "PieceSurfacesModel" yX12_crosses yX12_crosses ∈ lw_gd := mm_gd (in_t0 (List.mem_of_getElem? (i := 51) rfl)) rfl
theorem wd_52 : Cond.selects "PieceSurfacesModel" yX12_isBody yX12_isBody ∈ lw_gd := mm_gd (in_t0 (List.mem_of_getElem? (i := 52) rfl)) rfl
theorem wd_53 : Cond.selects "PieceSurfacesModel" yX12_aroundOf yX12_aroundOf ∈ lw_gd := mm_gd (in_t0 (List.mem_of_getElem? (i := 53) rfl)) rfl
theorem wd_54 : Cond.selects "PieceSurfacesModel" yX12_ofWell yX12_ofWell ∈ lw_gd := mm_gd (in_t0 (List.mem_of_getElem? (i := 54) rfl)) rfl
theorem wd_55 : Cond.selects "PieceSurfacesModel" yX12_name yX12_name ∈ lw_gd := mm_gd (in_t0 (List.mem_of_getElem? (i := 55) rfl)) rfl
theorem wd_56 : Cond.selects "PieceSurfacesModel" yX12_split yX12_split ∈ lw_gd := mm_gd (in_t0 (List.mem_of_getElem? (i := 56) rfl)) rfl
theorem wd_57 : Cond.selects "PieceSurfacesModel" yX12_remember yX12_remember ∈ lw_gd := mm_gd (in_t0 (List.mem_of_getElem? (i := 57) rfl)) rfl
theorem wd_58 : Cond.selects "PieceSurfacesModel" yX12_copyRow yX12_copyRow ∈ lw_gd := mm_gd (in_t0 (List.mem_of_getElem? (i := 58) rfl)) rfl
theorem wd_59 : Cond.selects "PieceSurfacesModel" yX12_mayGlue yX12_mayGlue ∈ lw_gd := mm_gd (in_t0 (List.mem_of_getElem? (i := 59) rfl)) rfl
theorem wd_60 : Cond.selects "PieceSurfacesModel" yX12_glueTo yX12_glueTo ∈ lw_gd := mm_gd (in_t0 (List.mem_of_getElem? (i := 60) rfl)) rfl
theorem wd_61 : Cond.selects "PieceSurfacesModel" yX12_newSurface yX12_newSurface ∈ lw_gd := mm_gd (in_t0 (List.mem_of_getElem? (i := 61) rfl)) rfl
theorem wd_62 : Cond.selects "PieceSurfacesModel" yX12_chance yX12_chance ∈ lw_gd := mm_gd (in_t0 (List.mem_of_getElem? (i := 62) rfl)) rfl
theorem wd_63 : Cond.selects "PieceSurfacesModel" yX12_draw yX12_draw ∈ lw_gd := mm_gd (in_t0 (List.mem_of_getElem? (i := 63) rfl)) rfl
theorem wd_64 : Cond.initialized "PieceSurfacesLaw" ∈ lw_gd := mm_gd (in_t1 (List.mem_of_getElem? (i := 0) rfl)) rfl
theorem wd_65 : Cond.initialized "PieceSurfaces" ∈ lw_gd := mm_gd (in_t1 (List.mem_of_getElem? (i := 1) rfl)) rfl
theorem wd_66 : Cond.initialized "PieceSurfaces$Survey" ∈ lw_gd := mm_gd (in_t1 (List.mem_of_getElem? (i := 2) rfl)) rfl
theorem wd_67 : Cond.initialized "PieceSurfaces$World" ∈ lw_gd := mm_gd (in_t1 (List.mem_of_getElem? (i := 3) rfl)) rfl
theorem wd_68 : Cond.initialized "PieceSurfaces$Sheet" ∈ lw_gd := mm_gd (in_t1 (List.mem_of_getElem? (i := 4) rfl)) rfl
theorem wd_69 : Cond.initialized "java/util/Arrays" ∈ lw_gd := mm_gd (in_t1 (List.mem_of_getElem? (i := 5) rfl)) rfl
theorem wd_70 : Cond.initialized "PieceSurfaces$Skeleton" ∈ lw_gd := mm_gd (in_t1 (List.mem_of_getElem? (i := 6) rfl)) rfl
theorem wd_71 : Cond.initialized "PieceSurfaces$Classes" ∈ lw_gd := mm_gd (in_t1 (List.mem_of_getElem? (i := 7) rfl)) rfl
theorem wd_72 : Cond.initialized "PieceSurfaces$Matching" ∈ lw_gd := mm_gd (in_t1 (List.mem_of_getElem? (i := 8) rfl)) rfl
theorem wd_73 : Cond.initialized "PieceSurfaces$Past" ∈ lw_gd := mm_gd (in_t1 (List.mem_of_getElem? (i := 9) rfl)) rfl
theorem wd_74 : Cond.initialized "PieceSurfaces$Book" ∈ lw_gd := mm_gd (in_t1 (List.mem_of_getElem? (i := 10) rfl)) rfl
theorem wd_75 : Cond.initialized "PieceSurfaces$Dice" ∈ lw_gd := mm_gd (in_t1 (List.mem_of_getElem? (i := 11) rfl)) rfl
theorem wd_76 : Cond.initialized "PieceSurfaces$Image" ∈ lw_gd := mm_gd (in_t1 (List.mem_of_getElem? (i := 12) rfl)) rfl
theorem wd_77 : Cond.initialized "PieceSurfacesModel" ∈ lw_gd := mm_gd (in_t1 (List.mem_of_getElem? (i := 13) rfl)) rfl
theorem wd_78 : Cond.initialized "java/lang/Math" ∈ lw_gd := mm_gd (in_t1 (List.mem_of_getElem? (i := 14) rfl)) rfl
theorem wd_79 : Cond.initialized "PieceSurfaces$Shape" ∈ lw_gd := mm_gd (in_t1 (List.mem_of_getElem? (i := 15) rfl)) rfl
theorem wd_80 : Cond.initialized "java/lang/System" ∈ lw_gd := mm_gd (in_t1 (List.mem_of_getElem? (i := 16) rfl)) rfl
theorem wd_81 : Cond.classLink "PieceSurfacesLaw" 7 "PieceSurfaces" ∈ lw_gd := mm_gd (in_t1 (List.mem_of_getElem? (i := 17) rfl)) rfl
theorem wd_82 : Cond.instantiable "PieceSurfaces" 7 ∈ lw_gd := mm_gd (in_t1 (List.mem_of_getElem? (i := 18) rfl)) rfl
theorem wd_83 : Cond.methodLink "PieceSurfacesLaw" 9 yX11_init ∈ lw_gd := mm_gd (in_t1 (List.mem_of_getElem? (i := 19) rfl)) rfl
theorem wd_84 : Cond.instanceMethod yX11_init ∈ lw_gd := mm_gd (in_t1 (List.mem_of_getElem? (i := 20) rfl)) rfl
theorem wd_85 : Cond.code yX11_init prog_1_method_1_code 2 none ∈ lw_gd := mm_gd (in_t1 (List.mem_of_getElem? (i := 21) rfl)) rfl
theorem wd_86 : Cond.methodLink "PieceSurfaces" 1 ⟨"java/lang/Object", "<init>", "()V"⟩ ∈ lw_gd := mm_gd (in_t1 (List.mem_of_getElem? (i := 22) rfl)) rfl
theorem wd_87 : Cond.instanceMethod ⟨"java/lang/Object", "<init>", "()V"⟩ ∈ lw_gd := mm_gd (in_t1 (List.mem_of_getElem? (i := 23) rfl)) rfl
theorem wd_88 : Cond.code objectInit ⟨#[0xb1]⟩ 1 none ∈ lw_gd := mm_gd (in_t1 (List.mem_of_getElem? (i := 24) rfl)) rfl
theorem wd_89 : Cond.classLink "PieceSurfaces" 7 "PieceSurfaces$Survey" ∈ lw_gd := mm_gd (in_t1 (List.mem_of_getElem? (i := 25) rfl)) rfl
theorem wd_90 : Cond.instantiable "PieceSurfaces$Survey" 12 ∈ lw_gd := mm_gd (in_t1 (List.mem_of_getElem? (i := 26) rfl)) rfl
theorem wd_91 : Cond.methodLink "PieceSurfaces" 9 yX9_init ∈ lw_gd := mm_gd (in_t1 (List.mem_of_getElem? (i := 27) rfl)) rfl
theorem wd_92 : Cond.instanceMethod yX9_init ∈ lw_gd := mm_gd (in_t1 (List.mem_of_getElem? (i := 28) rfl)) rfl
theorem wd_93 : Cond.code yX9_init prog_11_method_1_code 1 none ∈ lw_gd := mm_gd (in_t1 (List.mem_of_getElem? (i := 29) rfl)) rfl
theorem wd_94 : Cond.methodLink "PieceSurfaces$Survey" 3 ⟨"java/lang/Object", "<init>", "()V"⟩ ∈ lw_gd := mm_gd (in_t1 (List.mem_of_getElem? (i := 30) rfl)) rfl
theorem wd_95 : Cond.classLink "PieceSurfaces$Survey" 9 "PieceSurfaces$World" ∈ lw_gd := mm_gd (in_t1 (List.mem_of_getElem? (i := 31) rfl)) rfl
theorem wd_96 : Cond.instantiable "PieceSurfaces$World" 5 ∈ lw_gd := mm_gd (in_t1 (List.mem_of_getElem? (i := 32) rfl)) rfl
theorem wd_97 : Cond.methodLink "PieceSurfaces$Survey" 11 yX10_init ∈ lw_gd := mm_gd (in_t1 (List.mem_of_getElem? (i := 33) rfl)) rfl
theorem wd_98 : Cond.instanceMethod yX10_init ∈ lw_gd := mm_gd (in_t1 (List.mem_of_getElem? (i := 34) rfl)) rfl
theorem wd_99 : Cond.code yX10_init prog_12_method_1_code 2 none ∈ lw_gd := mm_gd (in_t1 (List.mem_of_getElem? (i := 35) rfl)) rfl
theorem wd_100 : Cond.methodLink "PieceSurfaces$World" 3 ⟨"java/lang/Object", "<init>", "()V"⟩ ∈ lw_gd := mm_gd (in_t1 (List.mem_of_getElem? (i := 36) rfl)) rfl
theorem wd_101 : Cond.classLink "PieceSurfaces$World" 20 "PieceSurfaces$Sheet" ∈ lw_gd := mm_gd (in_t1 (List.mem_of_getElem? (i := 37) rfl)) rfl
theorem wd_103 : Cond.instantiable "PieceSurfaces$Sheet" 1 ∈ lw_gd := mm_gd (in_t1 (List.mem_of_getElem? (i := 39) rfl)) rfl
theorem wd_104 : Cond.methodLink "PieceSurfaces$World" 26 yX7_init ∈ lw_gd := mm_gd (in_t1 (List.mem_of_getElem? (i := 40) rfl)) rfl
theorem wd_105 : Cond.instanceMethod yX7_init ∈ lw_gd := mm_gd (in_t1 (List.mem_of_getElem? (i := 41) rfl)) rfl
theorem wd_106 : Cond.code yX7_init prog_9_method_1_code 1 none ∈ lw_gd := mm_gd (in_t1 (List.mem_of_getElem? (i := 42) rfl)) rfl
theorem wd_107 : Cond.methodLink "PieceSurfaces$Sheet" 1 ⟨"java/lang/Object", "<init>", "()V"⟩ ∈ lw_gd := mm_gd (in_t1 (List.mem_of_getElem? (i := 43) rfl)) rfl
theorem wd_108 : Cond.fieldLink "PieceSurfaces$Sheet" 9 "PieceSurfaces$Sheet" "numbers" "[I" ∈ lw_gd := mm_gd (in_t1 (List.mem_of_getElem? (i := 44) rfl)) rfl
theorem wd_109 : Cond.fieldLink "PieceSurfaces$Matching" 43 "PieceSurfaces$Sheet" "numbers" "[I" ∈ lw_gd := mm_gd (in_t1 (List.mem_of_getElem? (i := 45) rfl)) rfl
theorem wd_110 : Cond.fieldLink "PieceSurfaces" 142 "PieceSurfaces$Sheet" "numbers" "[I" ∈ lw_gd := mm_gd (in_t1 (List.mem_of_getElem? (i := 46) rfl)) rfl
theorem wd_111 : Cond.fieldLink "PieceSurfaces$Survey" 129 "PieceSurfaces$Sheet" "numbers" "[I" ∈ lw_gd := mm_gd (in_t1 (List.mem_of_getElem? (i := 47) rfl)) rfl
theorem wd_115 : Cond.arrayClass .int ∈ lw_gd := mm_gd (in_t1 (List.mem_of_getElem? (i := 51) rfl)) rfl
theorem wd_116 : Cond.methodLink "PieceSurfaces$World" 31 yJ7_fill_53178 ∈ lw_gd := mm_gd (in_t1 (List.mem_of_getElem? (i := 52) rfl)) rfl
theorem wd_117 : Cond.static yJ7_fill_53178 ∈ lw_gd := mm_gd (in_t1 (List.mem_of_getElem? (i := 53) rfl)) rfl
theorem wd_118 : Cond.code yJ7_fill_53178 prog_17_method_103_code 4 none ∈ lw_gd := mm_gd (in_t1 (List.mem_of_getElem? (i := 54) rfl)) rfl
theorem wd_119 : Cond.fieldLink "PieceSurfaces$World" 27 "PieceSurfaces$World" "many" "I" ∈ lw_gd := mm_gd (in_t1 (List.mem_of_getElem? (i := 55) rfl)) rfl
theorem wd_120 : Cond.fieldLink "PieceSurfaces$Skeleton" 39 "PieceSurfaces$World" "many" "I" ∈ lw_gd := mm_gd (in_t1 (List.mem_of_getElem? (i := 56) rfl)) rfl
theorem wd_121 : Cond.fieldLink "PieceSurfaces" 56 "PieceSurfaces$World" "many" "I" ∈ lw_gd := mm_gd (in_t1 (List.mem_of_getElem? (i := 57) rfl)) rfl
theorem wd_122 : Cond.fieldLink "PieceSurfaces$Survey" 163 "PieceSurfaces$World" "many" "I" ∈ lw_gd := mm_gd (in_t1 (List.mem_of_getElem? (i := 58) rfl)) rfl
theorem wd_123 : Cond.fieldLink "PieceSurfaces$World" 37 "PieceSurfaces$World" "count" "I" ∈ lw_gd := mm_gd (in_t1 (List.mem_of_getElem? (i := 59) rfl)) rfl
theorem wd_124 : Cond.fieldLink "PieceSurfaces" 66 "PieceSurfaces$World" "count" "I" ∈ lw_gd := mm_gd (in_t1 (List.mem_of_getElem? (i := 60) rfl)) rfl
theorem wd_125 : Cond.fieldLink "PieceSurfaces$Book" 28 "PieceSurfaces$World" "count" "I" ∈ lw_gd := mm_gd (in_t1 (List.mem_of_getElem? (i := 61) rfl)) rfl
theorem wd_126 : Cond.fieldLink "PieceSurfaces$World" 11 "PieceSurfaces$World" "partner" "[I" ∈ lw_gd := mm_gd (in_t1 (List.mem_of_getElem? (i := 62) rfl)) rfl
theorem wd_127 : Cond.fieldLink "PieceSurfaces$Matching" 33 "PieceSurfaces$World" "partner" "[I" ∈ lw_gd := mm_gd (in_t1 (List.mem_of_getElem? (i := 63) rfl)) rfl
theorem wd_128 : Cond.fieldLink "PieceSurfaces" 102 "PieceSurfaces$World" "partner" "[I" ∈ lw_gd := mm_gd (in_t1 (List.mem_of_getElem? (i := 64) rfl)) rfl
theorem wd_129 : Cond.fieldLink "PieceSurfaces$Survey" 119 "PieceSurfaces$World" "partner" "[I" ∈ lw_gd := mm_gd (in_t1 (List.mem_of_getElem? (i := 65) rfl)) rfl
theorem wd_130 : Cond.fieldLink "PieceSurfaces$World" 17 "PieceSurfaces$World" "way" "[I" ∈ lw_gd := mm_gd (in_t1 (List.mem_of_getElem? (i := 66) rfl)) rfl
theorem wd_131 : Cond.fieldLink "PieceSurfaces" 106 "PieceSurfaces$World" "way" "[I" ∈ lw_gd := mm_gd (in_t1 (List.mem_of_getElem? (i := 67) rfl)) rfl
theorem wd_132 : Cond.fieldLink "PieceSurfaces$World" 22 "PieceSurfaces$World" "sheets" "[LPieceSurfaces$Sheet;" ∈ lw_gd := mm_gd (in_t1 (List.mem_of_getElem? (i := 68) rfl)) rfl
theorem wd_133 : Cond.fieldLink "PieceSurfaces$Book" 31 "PieceSurfaces$World" "sheets" "[LPieceSurfaces$Sheet;" ∈ lw_gd := mm_gd (in_t1 (List.mem_of_getElem? (i := 69) rfl)) rfl
theorem wd_134 : Cond.fieldLink "PieceSurfaces" 138 "PieceSurfaces$World" "sheets" "[LPieceSurfaces$Sheet;" ∈ lw_gd := mm_gd (in_t1 (List.mem_of_getElem? (i := 70) rfl)) rfl
theorem wd_146 : Cond.classLink "PieceSurfaces$Survey" 18 "PieceSurfaces$Skeleton" ∈ lw_gd := mm_gd (in_t1 (List.mem_of_getElem? (i := 82) rfl)) rfl
theorem wd_147 : Cond.instantiable "PieceSurfaces$Skeleton" 9 ∈ lw_gd := mm_gd (in_t1 (List.mem_of_getElem? (i := 83) rfl)) rfl
theorem wd_148 : Cond.methodLink "PieceSurfaces$Survey" 20 yX8_init ∈ lw_gd := mm_gd (in_t1 (List.mem_of_getElem? (i := 84) rfl)) rfl
theorem wd_149 : Cond.instanceMethod yX8_init ∈ lw_gd := mm_gd (in_t1 (List.mem_of_getElem? (i := 85) rfl)) rfl
theorem wd_150 : Cond.code yX8_init prog_10_method_1_code 1 none ∈ lw_gd := mm_gd (in_t1 (List.mem_of_getElem? (i := 86) rfl)) rfl
theorem wd_151 : Cond.methodLink "PieceSurfaces$Skeleton" 1 ⟨"java/lang/Object", "<init>", "()V"⟩ ∈ lw_gd := mm_gd (in_t1 (List.mem_of_getElem? (i := 87) rfl)) rfl
theorem wd_152 : Cond.classLink "PieceSurfaces$Skeleton" 7 "PieceSurfaces$Classes" ∈ lw_gd := mm_gd (in_t1 (List.mem_of_getElem? (i := 88) rfl)) rfl
theorem wd_153 : Cond.instantiable "PieceSurfaces$Classes" 2 ∈ lw_gd := mm_gd (in_t1 (List.mem_of_getElem? (i := 89) rfl)) rfl
theorem wd_154 : Cond.methodLink "PieceSurfaces$Skeleton" 11 yX1_init ∈ lw_gd := mm_gd (in_t1 (List.mem_of_getElem? (i := 90) rfl)) rfl
theorem wd_155 : Cond.instanceMethod yX1_init ∈ lw_gd := mm_gd (in_t1 (List.mem_of_getElem? (i := 91) rfl)) rfl
theorem wd_156 : Cond.code yX1_init prog_3_method_1_code 2 none ∈ lw_gd := mm_gd (in_t1 (List.mem_of_getElem? (i := 92) rfl)) rfl
theorem wd_157 : Cond.methodLink "PieceSurfaces$Classes" 1 ⟨"java/lang/Object", "<init>", "()V"⟩ ∈ lw_gd := mm_gd (in_t1 (List.mem_of_getElem? (i := 93) rfl)) rfl
theorem wd_158 : Cond.fieldLink "PieceSurfaces$Classes" 7 "PieceSurfaces$Classes" "up" "[I" ∈ lw_gd := mm_gd (in_t1 (List.mem_of_getElem? (i := 94) rfl)) rfl
theorem wd_159 : Cond.fieldLink "PieceSurfaces$Classes" 19 "PieceSurfaces$Classes" "size" "I" ∈ lw_gd := mm_gd (in_t1 (List.mem_of_getElem? (i := 95) rfl)) rfl
theorem wd_165 : Cond.fieldLink "PieceSurfaces$Skeleton" 14 "PieceSurfaces$Skeleton" "corners" "LPieceSurfaces$Classes;" ∈ lw_gd := mm_gd (in_t1 (List.mem_of_getElem? (i := 101) rfl)) rfl
theorem wd_166 : Cond.fieldLink "PieceSurfaces$Skeleton" 20 "PieceSurfaces$Skeleton" "edges" "LPieceSurfaces$Classes;" ∈ lw_gd := mm_gd (in_t1 (List.mem_of_getElem? (i := 102) rfl)) rfl
theorem wd_167 : Cond.fieldLink "PieceSurfaces$Skeleton" 23 "PieceSurfaces$Skeleton" "arrows" "LPieceSurfaces$Classes;" ∈ lw_gd := mm_gd (in_t1 (List.mem_of_getElem? (i := 103) rfl)) rfl
theorem wd_168 : Cond.fieldLink "PieceSurfaces$Skeleton" 26 "PieceSurfaces$Skeleton" "vertexOf" "[I" ∈ lw_gd := mm_gd (in_t1 (List.mem_of_getElem? (i := 104) rfl)) rfl
theorem wd_169 : Cond.fieldLink "PieceSurfaces" 113 "PieceSurfaces$Skeleton" "vertexOf" "[I" ∈ lw_gd := mm_gd (in_t1 (List.mem_of_getElem? (i := 105) rfl)) rfl
theorem wd_170 : Cond.fieldLink "PieceSurfaces$Survey" 166 "PieceSurfaces$Skeleton" "vertexOf" "[I" ∈ lw_gd := mm_gd (in_t1 (List.mem_of_getElem? (i := 106) rfl)) rfl
theorem wd_171 : Cond.fieldLink "PieceSurfaces$Skeleton" 30 "PieceSurfaces$Skeleton" "lineOf" "[I" ∈ lw_gd := mm_gd (in_t1 (List.mem_of_getElem? (i := 107) rfl)) rfl
theorem wd_172 : Cond.fieldLink "PieceSurfaces" 119 "PieceSurfaces$Skeleton" "lineOf" "[I" ∈ lw_gd := mm_gd (in_t1 (List.mem_of_getElem? (i := 108) rfl)) rfl
theorem wd_173 : Cond.fieldLink "PieceSurfaces$Skeleton" 33 "PieceSurfaces$Skeleton" "degree" "[I" ∈ lw_gd := mm_gd (in_t1 (List.mem_of_getElem? (i := 109) rfl)) rfl
theorem wd_174 : Cond.fieldLink "PieceSurfaces" 122 "PieceSurfaces$Skeleton" "degree" "[I" ∈ lw_gd := mm_gd (in_t1 (List.mem_of_getElem? (i := 110) rfl)) rfl
theorem wd_175 : Cond.fieldLink "PieceSurfaces$Skeleton" 36 "PieceSurfaces$Skeleton" "firstEdge" "[I" ∈ lw_gd := mm_gd (in_t1 (List.mem_of_getElem? (i := 111) rfl)) rfl
theorem wd_176 : Cond.fieldLink "PieceSurfaces$Survey" 109 "PieceSurfaces$Skeleton" "firstEdge" "[I" ∈ lw_gd := mm_gd (in_t1 (List.mem_of_getElem? (i := 112) rfl)) rfl
theorem wd_177 : Cond.fieldLink "PieceSurfaces$Skeleton" 64 "PieceSurfaces$Skeleton" "vertices" "I" ∈ lw_gd := mm_gd (in_t1 (List.mem_of_getElem? (i := 113) rfl)) rfl
theorem wd_178 : Cond.fieldLink "PieceSurfaces" 78 "PieceSurfaces$Skeleton" "vertices" "I" ∈ lw_gd := mm_gd (in_t1 (List.mem_of_getElem? (i := 114) rfl)) rfl
theorem wd_179 : Cond.fieldLink "PieceSurfaces$Survey" 173 "PieceSurfaces$Skeleton" "vertices" "I" ∈ lw_gd := mm_gd (in_t1 (List.mem_of_getElem? (i := 115) rfl)) rfl
theorem wd_180 : Cond.fieldLink "PieceSurfaces$Skeleton" 67 "PieceSurfaces$Skeleton" "lines" "I" ∈ lw_gd := mm_gd (in_t1 (List.mem_of_getElem? (i := 116) rfl)) rfl
theorem wd_181 : Cond.fieldLink "PieceSurfaces" 81 "PieceSurfaces$Skeleton" "lines" "I" ∈ lw_gd := mm_gd (in_t1 (List.mem_of_getElem? (i := 117) rfl)) rfl
theorem wd_182 : Cond.fieldLink "PieceSurfaces$Survey" 106 "PieceSurfaces$Skeleton" "lines" "I" ∈ lw_gd := mm_gd (in_t1 (List.mem_of_getElem? (i := 118) rfl)) rfl
theorem wd_202 : Cond.classLink "PieceSurfaces$Survey" 25 "PieceSurfaces$Matching" ∈ lw_gd := mm_gd (in_t1 (List.mem_of_getElem? (i := 138) rfl)) rfl
theorem wd_203 : Cond.instantiable "PieceSurfaces$Matching" 2 ∈ lw_gd := mm_gd (in_t1 (List.mem_of_getElem? (i := 139) rfl)) rfl
theorem wd_204 : Cond.methodLink "PieceSurfaces$Survey" 27 yX4_init ∈ lw_gd := mm_gd (in_t1 (List.mem_of_getElem? (i := 140) rfl)) rfl
theorem wd_205 : Cond.instanceMethod yX4_init ∈ lw_gd := mm_gd (in_t1 (List.mem_of_getElem? (i := 141) rfl)) rfl
theorem wd_206 : Cond.code yX4_init prog_6_method_1_code 1 none ∈ lw_gd := mm_gd (in_t1 (List.mem_of_getElem? (i := 142) rfl)) rfl
theorem wd_207 : Cond.methodLink "PieceSurfaces$Matching" 1 ⟨"java/lang/Object", "<init>", "()V"⟩ ∈ lw_gd := mm_gd (in_t1 (List.mem_of_getElem? (i := 143) rfl)) rfl
theorem wd_208 : Cond.fieldLink "PieceSurfaces$Matching" 9 "PieceSurfaces$Matching" "terms" "[I" ∈ lw_gd := mm_gd (in_t1 (List.mem_of_getElem? (i := 144) rfl)) rfl
theorem wd_209 : Cond.fieldLink "PieceSurfaces$Matching" 15 "PieceSurfaces$Matching" "count" "I" ∈ lw_gd := mm_gd (in_t1 (List.mem_of_getElem? (i := 145) rfl)) rfl
theorem wd_215 : Cond.classLink "PieceSurfaces$Survey" 32 "PieceSurfaces$Classes" ∈ lw_gd := mm_gd (in_t1 (List.mem_of_getElem? (i := 151) rfl)) rfl
theorem wd_216 : Cond.methodLink "PieceSurfaces$Survey" 36 yX1_init ∈ lw_gd := mm_gd (in_t1 (List.mem_of_getElem? (i := 152) rfl)) rfl
theorem wd_217 : Cond.classLink "PieceSurfaces$Survey" 50 "PieceSurfaces$Sheet" ∈ lw_gd := mm_gd (in_t1 (List.mem_of_getElem? (i := 153) rfl)) rfl
theorem wd_218 : Cond.methodLink "PieceSurfaces$Survey" 52 yX7_init ∈ lw_gd := mm_gd (in_t1 (List.mem_of_getElem? (i := 154) rfl)) rfl
theorem wd_219 : Cond.fieldLink "PieceSurfaces$Survey" 12 "PieceSurfaces$Survey" "world" "LPieceSurfaces$World;" ∈ lw_gd := mm_gd (in_t1 (List.mem_of_getElem? (i := 155) rfl)) rfl
theorem wd_220 : Cond.fieldLink "PieceSurfaces" 16 "PieceSurfaces$Survey" "world" "LPieceSurfaces$World;" ∈ lw_gd := mm_gd (in_t1 (List.mem_of_getElem? (i := 156) rfl)) rfl
theorem wd_221 : Cond.fieldLink "PieceSurfaces$Survey" 21 "PieceSurfaces$Survey" "skeleton" "LPieceSurfaces$Skeleton;" ∈ lw_gd := mm_gd (in_t1 (List.mem_of_getElem? (i := 157) rfl)) rfl
theorem wd_222 : Cond.fieldLink "PieceSurfaces" 21 "PieceSurfaces$Survey" "skeleton" "LPieceSurfaces$Skeleton;" ∈ lw_gd := mm_gd (in_t1 (List.mem_of_getElem? (i := 158) rfl)) rfl
theorem wd_223 : Cond.fieldLink "PieceSurfaces$Survey" 28 "PieceSurfaces$Survey" "matching" "LPieceSurfaces$Matching;" ∈ lw_gd := mm_gd (in_t1 (List.mem_of_getElem? (i := 159) rfl)) rfl
theorem wd_224 : Cond.fieldLink "PieceSurfaces$Survey" 39 "PieceSurfaces$Survey" "joined" "LPieceSurfaces$Classes;" ∈ lw_gd := mm_gd (in_t1 (List.mem_of_getElem? (i := 160) rfl)) rfl
theorem wd_225 : Cond.fieldLink "PieceSurfaces$Survey" 43 "PieceSurfaces$Survey" "sides" "LPieceSurfaces$Classes;" ∈ lw_gd := mm_gd (in_t1 (List.mem_of_getElem? (i := 161) rfl)) rfl
theorem wd_226 : Cond.fieldLink "PieceSurfaces$Survey" 46 "PieceSurfaces$Survey" "start" "[I" ∈ lw_gd := mm_gd (in_t1 (List.mem_of_getElem? (i := 162) rfl)) rfl
theorem wd_227 : Cond.fieldLink "PieceSurfaces$Survey" 53 "PieceSurfaces$Survey" "link" "LPieceSurfaces$Sheet;" ∈ lw_gd := mm_gd (in_t1 (List.mem_of_getElem? (i := 163) rfl)) rfl
theorem wd_228 : Cond.fieldLink "PieceSurfaces$Survey" 57 "PieceSurfaces$Survey" "part" "LPieceSurfaces$Sheet;" ∈ lw_gd := mm_gd (in_t1 (List.mem_of_getElem? (i := 164) rfl)) rfl
theorem wd_229 : Cond.fieldLink "PieceSurfaces$Survey" 60 "PieceSurfaces$Survey" "used" "[I" ∈ lw_gd := mm_gd (in_t1 (List.mem_of_getElem? (i := 165) rfl)) rfl
theorem wd_230 : Cond.fieldLink "PieceSurfaces$Survey" 191 "PieceSurfaces$Survey" "usedCount" "I" ∈ lw_gd := mm_gd (in_t1 (List.mem_of_getElem? (i := 166) rfl)) rfl
theorem wd_231 : Cond.fieldLink "PieceSurfaces$Survey" 95 "PieceSurfaces$Survey" "components" "I" ∈ lw_gd := mm_gd (in_t1 (List.mem_of_getElem? (i := 167) rfl)) rfl
theorem wd_232 : Cond.fieldLink "PieceSurfaces$Survey" 99 "PieceSurfaces$Survey" "twoSided" "I" ∈ lw_gd := mm_gd (in_t1 (List.mem_of_getElem? (i := 168) rfl)) rfl
theorem wd_258 : Cond.classLink "PieceSurfaces" 26 "PieceSurfaces$Past" ∈ lw_gd := mm_gd (in_t1 (List.mem_of_getElem? (i := 194) rfl)) rfl
theorem wd_259 : Cond.instantiable "PieceSurfaces$Past" 3 ∈ lw_gd := mm_gd (in_t1 (List.mem_of_getElem? (i := 195) rfl)) rfl
theorem wd_260 : Cond.methodLink "PieceSurfaces" 28 yX5_init ∈ lw_gd := mm_gd (in_t1 (List.mem_of_getElem? (i := 196) rfl)) rfl
theorem wd_261 : Cond.instanceMethod yX5_init ∈ lw_gd := mm_gd (in_t1 (List.mem_of_getElem? (i := 197) rfl)) rfl
theorem wd_262 : Cond.code yX5_init prog_7_method_1_code 2 none ∈ lw_gd := mm_gd (in_t1 (List.mem_of_getElem? (i := 198) rfl)) rfl
theorem wd_263 : Cond.methodLink "PieceSurfaces$Past" 1 ⟨"java/lang/Object", "<init>", "()V"⟩ ∈ lw_gd := mm_gd (in_t1 (List.mem_of_getElem? (i := 199) rfl)) rfl
theorem wd_264 : Cond.classLink "PieceSurfaces$Past" 9 "PieceSurfaces$World" ∈ lw_gd := mm_gd (in_t1 (List.mem_of_getElem? (i := 200) rfl)) rfl
theorem wd_266 : Cond.methodLink "PieceSurfaces$Past" 17 yX10_init ∈ lw_gd := mm_gd (in_t1 (List.mem_of_getElem? (i := 202) rfl)) rfl
theorem wd_267 : Cond.fieldLink "PieceSurfaces$Past" 11 "PieceSurfaces$Past" "ring" "[LPieceSurfaces$World;" ∈ lw_gd := mm_gd (in_t1 (List.mem_of_getElem? (i := 203) rfl)) rfl
theorem wd_268 : Cond.fieldLink "PieceSurfaces$Past" 18 "PieceSurfaces$Past" "next" "I" ∈ lw_gd := mm_gd (in_t1 (List.mem_of_getElem? (i := 204) rfl)) rfl
theorem wd_269 : Cond.fieldLink "PieceSurfaces$Past" 26 "PieceSurfaces$Past" "count" "I" ∈ lw_gd := mm_gd (in_t1 (List.mem_of_getElem? (i := 205) rfl)) rfl
theorem wd_270 : Cond.fieldLink "PieceSurfaces" 70 "PieceSurfaces$Past" "count" "I" ∈ lw_gd := mm_gd (in_t1 (List.mem_of_getElem? (i := 206) rfl)) rfl
theorem wd_278 : Cond.classLink "PieceSurfaces" 33 "PieceSurfaces$Book" ∈ lw_gd := mm_gd (in_t1 (List.mem_of_getElem? (i := 214) rfl)) rfl
theorem wd_279 : Cond.instantiable "PieceSurfaces$Book" 3 ∈ lw_gd := mm_gd (in_t1 (List.mem_of_getElem? (i := 215) rfl)) rfl
theorem wd_280 : Cond.methodLink "PieceSurfaces" 35 yX0_init ∈ lw_gd := mm_gd (in_t1 (List.mem_of_getElem? (i := 216) rfl)) rfl
theorem wd_281 : Cond.instanceMethod yX0_init ∈ lw_gd := mm_gd (in_t1 (List.mem_of_getElem? (i := 217) rfl)) rfl
theorem wd_282 : Cond.code yX0_init prog_2_method_1_code 1 none ∈ lw_gd := mm_gd (in_t1 (List.mem_of_getElem? (i := 218) rfl)) rfl
theorem wd_283 : Cond.methodLink "PieceSurfaces$Book" 3 ⟨"java/lang/Object", "<init>", "()V"⟩ ∈ lw_gd := mm_gd (in_t1 (List.mem_of_getElem? (i := 219) rfl)) rfl
theorem wd_284 : Cond.fieldLink "PieceSurfaces$Book" 11 "PieceSurfaces$Book" "surfaces" "[I" ∈ lw_gd := mm_gd (in_t1 (List.mem_of_getElem? (i := 220) rfl)) rfl
theorem wd_285 : Cond.fieldLink "PieceSurfaces$Book" 17 "PieceSurfaces$Book" "values" "[I" ∈ lw_gd := mm_gd (in_t1 (List.mem_of_getElem? (i := 221) rfl)) rfl
theorem wd_286 : Cond.fieldLink "PieceSurfaces$Book" 20 "PieceSurfaces$Book" "count" "I" ∈ lw_gd := mm_gd (in_t1 (List.mem_of_getElem? (i := 222) rfl)) rfl
theorem wd_287 : Cond.fieldLink "PieceSurfaces" 69 "PieceSurfaces$Book" "count" "I" ∈ lw_gd := mm_gd (in_t1 (List.mem_of_getElem? (i := 223) rfl)) rfl
theorem wd_295 : Cond.classLink "PieceSurfaces" 40 "PieceSurfaces$Dice" ∈ lw_gd := mm_gd (in_t1 (List.mem_of_getElem? (i := 231) rfl)) rfl
theorem wd_296 : Cond.instantiable "PieceSurfaces$Dice" 1 ∈ lw_gd := mm_gd (in_t1 (List.mem_of_getElem? (i := 232) rfl)) rfl
theorem wd_298 : Cond.instanceMethod yX2_init ∈ lw_gd := mm_gd (in_t1 (List.mem_of_getElem? (i := 234) rfl)) rfl
theorem wd_299 : Cond.code yX2_init prog_4_method_1_code 1 none ∈ lw_gd := mm_gd (in_t1 (List.mem_of_getElem? (i := 235) rfl)) rfl
theorem wd_300 : Cond.methodLink "PieceSurfaces$Dice" 1 ⟨"java/lang/Object", "<init>", "()V"⟩ ∈ lw_gd := mm_gd (in_t1 (List.mem_of_getElem? (i := 236) rfl)) rfl
theorem wd_301 : Cond.fieldLink "PieceSurfaces$Dice" 9 "PieceSurfaces$Dice" "state" "I" ∈ lw_gd := mm_gd (in_t1 (List.mem_of_getElem? (i := 237) rfl)) rfl
theorem wd_302 : Cond.fieldLink "PieceSurfaces$Image" 20 "PieceSurfaces$Dice" "state" "I" ∈ lw_gd := mm_gd (in_t1 (List.mem_of_getElem? (i := 238) rfl)) rfl
theorem wd_303 : Cond.fieldLink "PieceSurfaces" 226 "PieceSurfaces$Dice" "state" "I" ∈ lw_gd := mm_gd (in_t1 (List.mem_of_getElem? (i := 239) rfl)) rfl
theorem wd_307 : Cond.classLink "PieceSurfaces" 49 "PieceSurfaces$Image" ∈ lw_gd := mm_gd (in_t2 (List.mem_of_getElem? (i := 3) rfl)) rfl
theorem wd_309 : Cond.instantiable "PieceSurfaces$Image" 3 ∈ lw_gd := mm_gd (in_t2 (List.mem_of_getElem? (i := 5) rfl)) rfl
theorem wd_310 : Cond.methodLink "PieceSurfaces" 55 yX3_init ∈ lw_gd := mm_gd (in_t2 (List.mem_of_getElem? (i := 6) rfl)) rfl
theorem wd_311 : Cond.instanceMethod yX3_init ∈ lw_gd := mm_gd (in_t2 (List.mem_of_getElem? (i := 7) rfl)) rfl
theorem wd_312 : Cond.code yX3_init prog_5_method_1_code 1 none ∈ lw_gd := mm_gd (in_t2 (List.mem_of_getElem? (i := 8) rfl)) rfl
theorem wd_313 : Cond.methodLink "PieceSurfaces$Image" 1 ⟨"java/lang/Object", "<init>", "()V"⟩ ∈ lw_gd := mm_gd (in_t2 (List.mem_of_getElem? (i := 9) rfl)) rfl
theorem wd_314 : Cond.classLink "PieceSurfaces$Image" 7 "PieceSurfaces$World" ∈ lw_gd := mm_gd (in_t2 (List.mem_of_getElem? (i := 10) rfl)) rfl
theorem wd_315 : Cond.methodLink "PieceSurfaces$Image" 9 yX10_init ∈ lw_gd := mm_gd (in_t2 (List.mem_of_getElem? (i := 11) rfl)) rfl
theorem wd_316 : Cond.fieldLink "PieceSurfaces$Image" 10 "PieceSurfaces$Image" "world" "LPieceSurfaces$World;" ∈ lw_gd := mm_gd (in_t2 (List.mem_of_getElem? (i := 12) rfl)) rfl
theorem wd_317 : Cond.fieldLink "PieceSurfaces$Image" 26 "PieceSurfaces$Image" "state" "I" ∈ lw_gd := mm_gd (in_t2 (List.mem_of_getElem? (i := 13) rfl)) rfl
theorem wd_318 : Cond.fieldLink "PieceSurfaces$Image" 27 "PieceSurfaces$Image" "saved" "Z" ∈ lw_gd := mm_gd (in_t2 (List.mem_of_getElem? (i := 14) rfl)) rfl
theorem wd_319 : Cond.fieldLink "PieceSurfaces" 236 "PieceSurfaces$Image" "saved" "Z" ∈ lw_gd := mm_gd (in_t2 (List.mem_of_getElem? (i := 15) rfl)) rfl
theorem wd_327 : Cond.fieldLink "PieceSurfaces" 20 "PieceSurfaces" "world" "LPieceSurfaces$World;" ∈ lw_gd := mm_gd (in_t2 (List.mem_of_getElem? (i := 23) rfl)) rfl
theorem wd_328 : Cond.fieldLink "PieceSurfaces" 25 "PieceSurfaces" "skeleton" "LPieceSurfaces$Skeleton;" ∈ lw_gd := mm_gd (in_t2 (List.mem_of_getElem? (i := 24) rfl)) rfl
theorem wd_329 : Cond.fieldLink "PieceSurfaces" 10 "PieceSurfaces" "survey" "LPieceSurfaces$Survey;" ∈ lw_gd := mm_gd (in_t2 (List.mem_of_getElem? (i := 25) rfl)) rfl
theorem wd_330 : Cond.fieldLink "PieceSurfaces" 29 "PieceSurfaces" "past" "LPieceSurfaces$Past;" ∈ lw_gd := mm_gd (in_t2 (List.mem_of_getElem? (i := 26) rfl)) rfl
theorem wd_331 : Cond.fieldLink "PieceSurfaces" 36 "PieceSurfaces" "book" "LPieceSurfaces$Book;" ∈ lw_gd := mm_gd (in_t2 (List.mem_of_getElem? (i := 27) rfl)) rfl
theorem wd_332 : Cond.fieldLink "PieceSurfaces" 43 "PieceSurfaces" "dice" "LPieceSurfaces$Dice;" ∈ lw_gd := mm_gd (in_t2 (List.mem_of_getElem? (i := 28) rfl)) rfl
theorem wd_333 : Cond.fieldLink "PieceSurfaces" 51 "PieceSurfaces" "images" "[LPieceSurfaces$Image;" ∈ lw_gd := mm_gd (in_t2 (List.mem_of_getElem? (i := 29) rfl)) rfl
theorem wd_349 : Cond.methodLink "PieceSurfacesLaw" 13 yX11_told ∈ lw_gd := mm_gd (in_t2 (List.mem_of_getElem? (i := 45) rfl)) rfl
theorem wd_350 : Cond.instanceMethod yX11_told ∈ lw_gd := mm_gd (in_t2 (List.mem_of_getElem? (i := 46) rfl)) rfl
theorem wd_351 : Cond.selects "PieceSurfaces" yX11_told yX11_told ∈ lw_gd := mm_gd (in_t2 (List.mem_of_getElem? (i := 47) rfl)) rfl
theorem wd_352 : Cond.code yX11_told prog_1_method_2_code 2 (some FieldType.int) ∈ lw_gd := mm_gd (in_t2 (List.mem_of_getElem? (i := 48) rfl)) rfl
theorem wd_353 : Cond.methodLink "PieceSurfaces" 62 yX10_freeFaces ∈ lw_gd := mm_gd (in_t2 (List.mem_of_getElem? (i := 49) rfl)) rfl
theorem wd_354 : Cond.instanceMethod yX10_freeFaces ∈ lw_gd := mm_gd (in_t2 (List.mem_of_getElem? (i := 50) rfl)) rfl
theorem wd_355 : Cond.selects "PieceSurfaces$World" yX10_freeFaces yX10_freeFaces ∈ lw_gd := mm_gd (in_t2 (List.mem_of_getElem? (i := 51) rfl)) rfl
theorem wd_356 : Cond.code yX10_freeFaces prog_12_method_5_code 3 (some FieldType.int) ∈ lw_gd := mm_gd (in_t2 (List.mem_of_getElem? (i := 52) rfl)) rfl
theorem wd_357 : Cond.methodLink "PieceSurfaces$World" 50 yX10_faces ∈ lw_gd := mm_gd (in_t2 (List.mem_of_getElem? (i := 53) rfl)) rfl
theorem wd_358 : Cond.instanceMethod yX10_faces ∈ lw_gd := mm_gd (in_t2 (List.mem_of_getElem? (i := 54) rfl)) rfl
theorem wd_359 : Cond.selects "PieceSurfaces$World" yX10_faces yX10_faces ∈ lw_gd := mm_gd (in_t2 (List.mem_of_getElem? (i := 55) rfl)) rfl
theorem wd_360 : Cond.code yX10_faces prog_12_method_4_code 1 (some FieldType.int) ∈ lw_gd := mm_gd (in_t2 (List.mem_of_getElem? (i := 56) rfl)) rfl
theorem wd_361 : Cond.constant "PieceSurfaces" 71 (Int32.ofInt (-1000000002)) ∈ lw_gd := mm_gd (in_t2 (List.mem_of_getElem? (i := 57) rfl)) rfl
theorem wd_362 : Cond.methodLink "PieceSurfaces" 72 yX8_read ∈ lw_gd := mm_gd (in_t2 (List.mem_of_getElem? (i := 58) rfl)) rfl
theorem wd_363 : Cond.instanceMethod yX8_read ∈ lw_gd := mm_gd (in_t2 (List.mem_of_getElem? (i := 59) rfl)) rfl
theorem wd_364 : Cond.selects "PieceSurfaces$Skeleton" yX8_read yX8_read ∈ lw_gd := mm_gd (in_t2 (List.mem_of_getElem? (i := 60) rfl)) rfl
theorem wd_365 : Cond.code yX8_read prog_10_method_2_code 3 none ∈ lw_gd := mm_gd (in_t2 (List.mem_of_getElem? (i := 61) rfl)) rfl
theorem wd_366 : Cond.methodLink "PieceSurfaces$Skeleton" 45 yX1_begin ∈ lw_gd := mm_gd (in_t2 (List.mem_of_getElem? (i := 62) rfl)) rfl
theorem wd_367 : Cond.instanceMethod yX1_begin ∈ lw_gd := mm_gd (in_t2 (List.mem_of_getElem? (i := 63) rfl)) rfl
theorem wd_368 : Cond.selects "PieceSurfaces$Classes" yX1_begin yX1_begin ∈ lw_gd := mm_gd (in_t2 (List.mem_of_getElem? (i := 64) rfl)) rfl
theorem wd_369 : Cond.code yX1_begin prog_3_method_2_code 3 none ∈ lw_gd := mm_gd (in_t2 (List.mem_of_getElem? (i := 65) rfl)) rfl
theorem wd_370 : Cond.methodLink "PieceSurfaces$Classes" 13 yJ9_min_7cf53 ∈ lw_gd := mm_gd (in_t2 (List.mem_of_getElem? (i := 66) rfl)) rfl
theorem wd_371 : Cond.static yJ9_min_7cf53 ∈ lw_gd := mm_gd (in_t2 (List.mem_of_getElem? (i := 67) rfl)) rfl
theorem wd_372 : Cond.code yJ9_min_7cf53 prog_15_method_69_code 2 (some FieldType.int) ∈ lw_gd := mm_gd (in_t2 (List.mem_of_getElem? (i := 68) rfl)) rfl
theorem wd_373 : Cond.methodLink "PieceSurfaces$Skeleton" 48 yX10_faces ∈ lw_gd := mm_gd (in_t2 (List.mem_of_getElem? (i := 69) rfl)) rfl
theorem wd_374 : Cond.methodLink "PieceSurfaces$Skeleton" 52 yX10_leads ∈ lw_gd := mm_gd (in_t2 (List.mem_of_getElem? (i := 70) rfl)) rfl
theorem wd_375 : Cond.instanceMethod yX10_leads ∈ lw_gd := mm_gd (in_t2 (List.mem_of_getElem? (i := 71) rfl)) rfl
theorem wd_376 : Cond.selects "PieceSurfaces$World" yX10_leads yX10_leads ∈ lw_gd := mm_gd (in_t2 (List.mem_of_getElem? (i := 72) rfl)) rfl
theorem wd_377 : Cond.code yX10_leads prog_12_method_9_code 2 (some FieldType.boolean) ∈ lw_gd := mm_gd (in_t2 (List.mem_of_getElem? (i := 73) rfl)) rfl
theorem wd_378 : Cond.methodLink "PieceSurfaces$Skeleton" 56 yX8_joinFaces ∈ lw_gd := mm_gd (in_t2 (List.mem_of_getElem? (i := 74) rfl)) rfl
theorem wd_380 : Cond.instanceMethod yX8_joinFaces ∈ lw_gd := mm_gd (in_t2 (List.mem_of_getElem? (i := 76) rfl)) rfl
theorem wd_381 : Cond.code yX8_joinFaces prog_10_method_3_code 9 none ∈ lw_gd := mm_gd (in_t2 (List.mem_of_getElem? (i := 77) rfl)) rfl
theorem wd_382 : Cond.methodLink "PieceSurfaces$Skeleton" 73 yX10_across ∈ lw_gd := mm_gd (in_t2 (List.mem_of_getElem? (i := 78) rfl)) rfl
theorem wd_383 : Cond.instanceMethod yX10_across ∈ lw_gd := mm_gd (in_t2 (List.mem_of_getElem? (i := 79) rfl)) rfl
theorem wd_384 : Cond.selects "PieceSurfaces$World" yX10_across yX10_across ∈ lw_gd := mm_gd (in_t2 (List.mem_of_getElem? (i := 80) rfl)) rfl
theorem wd_385 : Cond.code yX10_across prog_12_method_10_code 7 (some FieldType.int) ∈ lw_gd := mm_gd (in_t2 (List.mem_of_getElem? (i := 81) rfl)) rfl
theorem wd_386 : Cond.fieldLink "PieceSurfaces$World" 57 "PieceSurfaces$Shape" "WAYS" "[I" ∈ lw_gd := mm_gd (in_t2 (List.mem_of_getElem? (i := 82) rfl)) rfl
theorem wd_388 : Cond.methodLink "PieceSurfaces$Skeleton" 77 yX1_join ∈ lw_gd := mm_gd (in_t2 (List.mem_of_getElem? (i := 84) rfl)) rfl
theorem wd_389 : Cond.instanceMethod yX1_join ∈ lw_gd := mm_gd (in_t2 (List.mem_of_getElem? (i := 85) rfl)) rfl
theorem wd_390 : Cond.selects "PieceSurfaces$Classes" yX1_join yX1_join ∈ lw_gd := mm_gd (in_t2 (List.mem_of_getElem? (i := 86) rfl)) rfl
theorem wd_391 : Cond.code yX1_join prog_3_method_4_code 5 none ∈ lw_gd := mm_gd (in_t2 (List.mem_of_getElem? (i := 87) rfl)) rfl
theorem wd_392 : Cond.methodLink "PieceSurfaces$Classes" 23 yX1_least ∈ lw_gd := mm_gd (in_t2 (List.mem_of_getElem? (i := 88) rfl)) rfl
theorem wd_393 : Cond.instanceMethod yX1_least ∈ lw_gd := mm_gd (in_t2 (List.mem_of_getElem? (i := 89) rfl)) rfl
theorem wd_394 : Cond.selects "PieceSurfaces$Classes" yX1_least yX1_least ∈ lw_gd := mm_gd (in_t2 (List.mem_of_getElem? (i := 90) rfl)) rfl
theorem wd_395 : Cond.code yX1_least prog_3_method_3_code 4 (some FieldType.int) ∈ lw_gd := mm_gd (in_t2 (List.mem_of_getElem? (i := 91) rfl)) rfl
theorem wd_396 : Cond.methodLink "PieceSurfaces$Skeleton" 81 yX8_joinArrows ∈ lw_gd := mm_gd (in_t2 (List.mem_of_getElem? (i := 92) rfl)) rfl
theorem wd_398 : Cond.instanceMethod yX8_joinArrows ∈ lw_gd := mm_gd (in_t2 (List.mem_of_getElem? (i := 94) rfl)) rfl
theorem wd_399 : Cond.code yX8_joinArrows prog_10_method_4_code 3 none ∈ lw_gd := mm_gd (in_t2 (List.mem_of_getElem? (i := 95) rfl)) rfl
theorem wd_400 : Cond.methodLink "PieceSurfaces$Skeleton" 84 yX8_edgeOf ∈ lw_gd := mm_gd (in_t2 (List.mem_of_getElem? (i := 96) rfl)) rfl
theorem wd_401 : Cond.static yX8_edgeOf ∈ lw_gd := mm_gd (in_t2 (List.mem_of_getElem? (i := 97) rfl)) rfl
theorem wd_402 : Cond.code yX8_edgeOf prog_10_method_5_code 1 (some FieldType.int) ∈ lw_gd := mm_gd (in_t2 (List.mem_of_getElem? (i := 98) rfl)) rfl
theorem wd_403 : Cond.fieldLink "PieceSurfaces$Skeleton" 88 "PieceSurfaces$Shape" "EDGE" "[I" ∈ lw_gd := mm_gd (in_t2 (List.mem_of_getElem? (i := 99) rfl)) rfl
theorem wd_405 : Cond.methodLink "PieceSurfaces$Skeleton" 60 yX1_numberThem ∈ lw_gd := mm_gd (in_t2 (List.mem_of_getElem? (i := 101) rfl)) rfl
theorem wd_406 : Cond.instanceMethod yX1_numberThem ∈ lw_gd := mm_gd (in_t2 (List.mem_of_getElem? (i := 102) rfl)) rfl
theorem wd_407 : Cond.selects "PieceSurfaces$Classes" yX1_numberThem yX1_numberThem ∈ lw_gd := mm_gd (in_t2 (List.mem_of_getElem? (i := 103) rfl)) rfl
theorem wd_408 : Cond.code yX1_numberThem prog_3_method_6_code 5 (some FieldType.int) ∈ lw_gd := mm_gd (in_t2 (List.mem_of_getElem? (i := 104) rfl)) rfl
theorem wd_409 : Cond.methodLink "PieceSurfaces$Skeleton" 70 yX8_measureLines ∈ lw_gd := mm_gd (in_t2 (List.mem_of_getElem? (i := 105) rfl)) rfl
theorem wd_411 : Cond.instanceMethod yX8_measureLines ∈ lw_gd := mm_gd (in_t2 (List.mem_of_getElem? (i := 107) rfl)) rfl
theorem wd_412 : Cond.code yX8_measureLines prog_10_method_6_code 3 none ∈ lw_gd := mm_gd (in_t2 (List.mem_of_getElem? (i := 108) rfl)) rfl
theorem wd_413 : Cond.methodLink "PieceSurfaces$Skeleton" 91 yJ7_fill_53178 ∈ lw_gd := mm_gd (in_t2 (List.mem_of_getElem? (i := 109) rfl)) rfl
theorem wd_414 : Cond.methodLink "PieceSurfaces" 84 yX8_reversedLines ∈ lw_gd := mm_gd (in_t2 (List.mem_of_getElem? (i := 110) rfl)) rfl
theorem wd_415 : Cond.instanceMethod yX8_reversedLines ∈ lw_gd := mm_gd (in_t2 (List.mem_of_getElem? (i := 111) rfl)) rfl
theorem wd_416 : Cond.selects "PieceSurfaces$Skeleton" yX8_reversedLines yX8_reversedLines ∈ lw_gd := mm_gd (in_t2 (List.mem_of_getElem? (i := 112) rfl)) rfl
theorem wd_417 : Cond.code yX8_reversedLines prog_10_method_8_code 3 (some FieldType.int) ∈ lw_gd := mm_gd (in_t2 (List.mem_of_getElem? (i := 113) rfl)) rfl
theorem wd_418 : Cond.methodLink "PieceSurfaces$Skeleton" 106 yX8_isReversed ∈ lw_gd := mm_gd (in_t2 (List.mem_of_getElem? (i := 114) rfl)) rfl
theorem wd_419 : Cond.instanceMethod yX8_isReversed ∈ lw_gd := mm_gd (in_t2 (List.mem_of_getElem? (i := 115) rfl)) rfl
theorem wd_420 : Cond.selects "PieceSurfaces$Skeleton" yX8_isReversed yX8_isReversed ∈ lw_gd := mm_gd (in_t2 (List.mem_of_getElem? (i := 116) rfl)) rfl
theorem wd_421 : Cond.code yX8_isReversed prog_10_method_7_code 6 (some FieldType.boolean) ∈ lw_gd := mm_gd (in_t2 (List.mem_of_getElem? (i := 117) rfl)) rfl
theorem wd_422 : Cond.fieldLink "PieceSurfaces$Skeleton" 97 "PieceSurfaces$Shape" "LOW" "[I" ∈ lw_gd := mm_gd (in_t2 (List.mem_of_getElem? (i := 118) rfl)) rfl
theorem wd_424 : Cond.fieldLink "PieceSurfaces$Skeleton" 100 "PieceSurfaces$Shape" "HIGH" "[I" ∈ lw_gd := mm_gd (in_t2 (List.mem_of_getElem? (i := 120) rfl)) rfl
theorem wd_426 : Cond.methodLink "PieceSurfaces$Skeleton" 103 yX1_least ∈ lw_gd := mm_gd (in_t2 (List.mem_of_getElem? (i := 122) rfl)) rfl
theorem wd_427 : Cond.methodLink "PieceSurfaces" 87 yX9_goodVertices ∈ lw_gd := mm_gd (in_t2 (List.mem_of_getElem? (i := 123) rfl)) rfl
theorem wd_428 : Cond.instanceMethod yX9_goodVertices ∈ lw_gd := mm_gd (in_t2 (List.mem_of_getElem? (i := 124) rfl)) rfl
theorem wd_429 : Cond.selects "PieceSurfaces$Survey" yX9_goodVertices yX9_goodVertices ∈ lw_gd := mm_gd (in_t2 (List.mem_of_getElem? (i := 125) rfl)) rfl
theorem wd_430 : Cond.code yX9_goodVertices prog_11_method_13_code 3 (some FieldType.int) ∈ lw_gd := mm_gd (in_t2 (List.mem_of_getElem? (i := 126) rfl)) rfl
theorem wd_431 : Cond.methodLink "PieceSurfaces$Survey" 176 yX9_isGood ∈ lw_gd := mm_gd (in_t2 (List.mem_of_getElem? (i := 127) rfl)) rfl
theorem wd_433 : Cond.instanceMethod yX9_isGood ∈ lw_gd := mm_gd (in_t2 (List.mem_of_getElem? (i := 129) rfl)) rfl
theorem wd_434 : Cond.code yX9_isGood prog_11_method_12_code 3 (some FieldType.boolean) ∈ lw_gd := mm_gd (in_t2 (List.mem_of_getElem? (i := 130) rfl)) rfl
theorem wd_435 : Cond.methodLink "PieceSurfaces$Survey" 169 yX9_fillLink ∈ lw_gd := mm_gd (in_t2 (List.mem_of_getElem? (i := 131) rfl)) rfl
theorem wd_436 : Cond.instanceMethod yX9_fillLink ∈ lw_gd := mm_gd (in_t2 (List.mem_of_getElem? (i := 132) rfl)) rfl
theorem wd_437 : Cond.selects "PieceSurfaces$Survey" yX9_fillLink yX9_fillLink ∈ lw_gd := mm_gd (in_t2 (List.mem_of_getElem? (i := 133) rfl)) rfl
theorem wd_438 : Cond.code yX9_fillLink prog_11_method_11_code 4 none ∈ lw_gd := mm_gd (in_t2 (List.mem_of_getElem? (i := 134) rfl)) rfl
theorem wd_439 : Cond.methodLink "PieceSurfaces$Survey" 160 yX7_clear ∈ lw_gd := mm_gd (in_t2 (List.mem_of_getElem? (i := 135) rfl)) rfl
theorem wd_440 : Cond.instanceMethod yX7_clear ∈ lw_gd := mm_gd (in_t2 (List.mem_of_getElem? (i := 136) rfl)) rfl
theorem wd_441 : Cond.selects "PieceSurfaces$Sheet" yX7_clear yX7_clear ∈ lw_gd := mm_gd (in_t2 (List.mem_of_getElem? (i := 137) rfl)) rfl
theorem wd_442 : Cond.code yX7_clear prog_9_method_2_code 1 none ∈ lw_gd := mm_gd (in_t2 (List.mem_of_getElem? (i := 138) rfl)) rfl
theorem wd_443 : Cond.methodLink "PieceSurfaces$Sheet" 15 yJ7_fill_53178 ∈ lw_gd := mm_gd (in_t2 (List.mem_of_getElem? (i := 139) rfl)) rfl
theorem wd_444 : Cond.methodLink "PieceSurfaces$Survey" 91 yX9_trace ∈ lw_gd := mm_gd (in_t2 (List.mem_of_getElem? (i := 140) rfl)) rfl
theorem wd_446 : Cond.instanceMethod yX9_trace ∈ lw_gd := mm_gd (in_t2 (List.mem_of_getElem? (i := 142) rfl)) rfl
theorem wd_447 : Cond.code yX9_trace prog_11_method_8_code 4 none ∈ lw_gd := mm_gd (in_t2 (List.mem_of_getElem? (i := 143) rfl)) rfl
theorem wd_448 : Cond.methodLink "PieceSurfaces$Survey" 132 yX1_begin ∈ lw_gd := mm_gd (in_t2 (List.mem_of_getElem? (i := 144) rfl)) rfl
theorem wd_449 : Cond.methodLink "PieceSurfaces$Survey" 116 yX10_faces ∈ lw_gd := mm_gd (in_t2 (List.mem_of_getElem? (i := 145) rfl)) rfl
theorem wd_450 : Cond.methodLink "PieceSurfaces$Survey" 122 yX10_leads ∈ lw_gd := mm_gd (in_t2 (List.mem_of_getElem? (i := 146) rfl)) rfl
theorem wd_451 : Cond.methodLink "PieceSurfaces$Survey" 135 yX9_joinPieces ∈ lw_gd := mm_gd (in_t2 (List.mem_of_getElem? (i := 147) rfl)) rfl
theorem wd_453 : Cond.instanceMethod yX9_joinPieces ∈ lw_gd := mm_gd (in_t2 (List.mem_of_getElem? (i := 149) rfl)) rfl
theorem wd_454 : Cond.code yX9_joinPieces prog_11_method_9_code 9 none ∈ lw_gd := mm_gd (in_t2 (List.mem_of_getElem? (i := 150) rfl)) rfl
theorem wd_455 : Cond.methodLink "PieceSurfaces$Survey" 142 yX10_across ∈ lw_gd := mm_gd (in_t2 (List.mem_of_getElem? (i := 151) rfl)) rfl
theorem wd_456 : Cond.methodLink "PieceSurfaces$Survey" 145 yX7_arcsAt ∈ lw_gd := mm_gd (in_t2 (List.mem_of_getElem? (i := 152) rfl)) rfl
theorem wd_457 : Cond.instanceMethod yX7_arcsAt ∈ lw_gd := mm_gd (in_t2 (List.mem_of_getElem? (i := 153) rfl)) rfl
theorem wd_458 : Cond.selects "PieceSurfaces$Sheet" yX7_arcsAt yX7_arcsAt ∈ lw_gd := mm_gd (in_t2 (List.mem_of_getElem? (i := 154) rfl)) rfl
theorem wd_459 : Cond.code yX7_arcsAt prog_9_method_8_code 4 (some FieldType.int) ∈ lw_gd := mm_gd (in_t2 (List.mem_of_getElem? (i := 155) rfl)) rfl
theorem wd_460 : Cond.methodLink "PieceSurfaces$Sheet" 33 yX6_together ∈ lw_gd := mm_gd (in_t2 (List.mem_of_getElem? (i := 156) rfl)) rfl
theorem wd_461 : Cond.static yX6_together ∈ lw_gd := mm_gd (in_t2 (List.mem_of_getElem? (i := 157) rfl)) rfl
theorem wd_462 : Cond.code yX6_together prog_8_method_2_code 2 (some FieldType.int) ∈ lw_gd := mm_gd (in_t2 (List.mem_of_getElem? (i := 158) rfl)) rfl
theorem wd_463 : Cond.methodLink "PieceSurfaces$Survey" 149 yX9_sideAt ∈ lw_gd := mm_gd (in_t2 (List.mem_of_getElem? (i := 159) rfl)) rfl
theorem wd_465 : Cond.instanceMethod yX9_sideAt ∈ lw_gd := mm_gd (in_t2 (List.mem_of_getElem? (i := 161) rfl)) rfl
theorem wd_466 : Cond.code yX9_sideAt prog_11_method_10_code 10 (some FieldType.int) ∈ lw_gd := mm_gd (in_t2 (List.mem_of_getElem? (i := 162) rfl)) rfl
theorem wd_467 : Cond.methodLink "PieceSurfaces$Survey" 157 yX6_together ∈ lw_gd := mm_gd (in_t2 (List.mem_of_getElem? (i := 163) rfl)) rfl
theorem wd_468 : Cond.methodLink "PieceSurfaces$Survey" 153 yX1_join ∈ lw_gd := mm_gd (in_t2 (List.mem_of_getElem? (i := 164) rfl)) rfl
theorem wd_469 : Cond.methodLink "PieceSurfaces$Survey" 139 yX1_countClasses ∈ lw_gd := mm_gd (in_t2 (List.mem_of_getElem? (i := 165) rfl)) rfl
theorem wd_470 : Cond.instanceMethod yX1_countClasses ∈ lw_gd := mm_gd (in_t2 (List.mem_of_getElem? (i := 166) rfl)) rfl
theorem wd_471 : Cond.selects "PieceSurfaces$Classes" yX1_countClasses yX1_countClasses ∈ lw_gd := mm_gd (in_t2 (List.mem_of_getElem? (i := 167) rfl)) rfl
theorem wd_472 : Cond.code yX1_countClasses prog_3_method_5_code 3 (some FieldType.int) ∈ lw_gd := mm_gd (in_t2 (List.mem_of_getElem? (i := 168) rfl)) rfl
theorem wd_473 : Cond.methodLink "PieceSurfaces$Survey" 82 yX9_boundary ∈ lw_gd := mm_gd (in_t2 (List.mem_of_getElem? (i := 169) rfl)) rfl
theorem wd_474 : Cond.instanceMethod yX9_boundary ∈ lw_gd := mm_gd (in_t2 (List.mem_of_getElem? (i := 170) rfl)) rfl
theorem wd_475 : Cond.selects "PieceSurfaces$Survey" yX9_boundary yX9_boundary ∈ lw_gd := mm_gd (in_t2 (List.mem_of_getElem? (i := 171) rfl)) rfl
theorem wd_476 : Cond.code yX9_boundary prog_11_method_6_code 4 (some FieldType.int) ∈ lw_gd := mm_gd (in_t2 (List.mem_of_getElem? (i := 172) rfl)) rfl
theorem wd_477 : Cond.methodLink "PieceSurfaces$Survey" 126 yX7_arcsOn ∈ lw_gd := mm_gd (in_t2 (List.mem_of_getElem? (i := 173) rfl)) rfl
theorem wd_478 : Cond.instanceMethod yX7_arcsOn ∈ lw_gd := mm_gd (in_t2 (List.mem_of_getElem? (i := 174) rfl)) rfl
theorem wd_479 : Cond.selects "PieceSurfaces$Sheet" yX7_arcsOn yX7_arcsOn ∈ lw_gd := mm_gd (in_t2 (List.mem_of_getElem? (i := 175) rfl)) rfl
theorem wd_480 : Cond.code yX7_arcsOn prog_9_method_9_code 5 (some FieldType.int) ∈ lw_gd := mm_gd (in_t2 (List.mem_of_getElem? (i := 176) rfl)) rfl
theorem wd_481 : Cond.methodLink "PieceSurfaces$Sheet" 36 yX7_arcsAt ∈ lw_gd := mm_gd (in_t2 (List.mem_of_getElem? (i := 177) rfl)) rfl
theorem wd_482 : Cond.methodLink "PieceSurfaces$Survey" 78 yX9_characteristic ∈ lw_gd := mm_gd (in_t2 (List.mem_of_getElem? (i := 178) rfl)) rfl
theorem wd_483 : Cond.instanceMethod yX9_characteristic ∈ lw_gd := mm_gd (in_t2 (List.mem_of_getElem? (i := 179) rfl)) rfl
theorem wd_484 : Cond.selects "PieceSurfaces$Survey" yX9_characteristic yX9_characteristic ∈ lw_gd := mm_gd (in_t2 (List.mem_of_getElem? (i := 180) rfl)) rfl
theorem wd_485 : Cond.code yX9_characteristic prog_11_method_5_code 5 (some FieldType.int) ∈ lw_gd := mm_gd (in_t2 (List.mem_of_getElem? (i := 181) rfl)) rfl
theorem wd_486 : Cond.methodLink "PieceSurfaces$Survey" 102 yX7_total ∈ lw_gd := mm_gd (in_t2 (List.mem_of_getElem? (i := 182) rfl)) rfl
theorem wd_487 : Cond.instanceMethod yX7_total ∈ lw_gd := mm_gd (in_t2 (List.mem_of_getElem? (i := 183) rfl)) rfl
theorem wd_488 : Cond.selects "PieceSurfaces$Sheet" yX7_total yX7_total ∈ lw_gd := mm_gd (in_t2 (List.mem_of_getElem? (i := 184) rfl)) rfl
theorem wd_489 : Cond.code yX7_total prog_9_method_5_code 3 (some FieldType.int) ∈ lw_gd := mm_gd (in_t2 (List.mem_of_getElem? (i := 185) rfl)) rfl
theorem wd_490 : Cond.methodLink "PieceSurfaces$Survey" 112 yX7_weightOn ∈ lw_gd := mm_gd (in_t2 (List.mem_of_getElem? (i := 186) rfl)) rfl
theorem wd_491 : Cond.instanceMethod yX7_weightOn ∈ lw_gd := mm_gd (in_t2 (List.mem_of_getElem? (i := 187) rfl)) rfl
theorem wd_492 : Cond.selects "PieceSurfaces$Sheet" yX7_weightOn yX7_weightOn ∈ lw_gd := mm_gd (in_t2 (List.mem_of_getElem? (i := 188) rfl)) rfl
theorem wd_493 : Cond.code yX7_weightOn prog_9_method_10_code 7 (some FieldType.int) ∈ lw_gd := mm_gd (in_t2 (List.mem_of_getElem? (i := 189) rfl)) rfl
theorem wd_494 : Cond.fieldLink "PieceSurfaces$Sheet" 40 "PieceSurfaces$Shape" "LOW" "[I" ∈ lw_gd := mm_gd (in_t2 (List.mem_of_getElem? (i := 190) rfl)) rfl
theorem wd_495 : Cond.fieldLink "PieceSurfaces$Sheet" 43 "PieceSurfaces$Shape" "HIGH" "[I" ∈ lw_gd := mm_gd (in_t2 (List.mem_of_getElem? (i := 191) rfl)) rfl
theorem wd_496 : Cond.methodLink "PieceSurfaces" 90 yX9_wholeCharacteristic ∈ lw_gd := mm_gd (in_t2 (List.mem_of_getElem? (i := 192) rfl)) rfl
theorem wd_497 : Cond.instanceMethod yX9_wholeCharacteristic ∈ lw_gd := mm_gd (in_t2 (List.mem_of_getElem? (i := 193) rfl)) rfl
theorem wd_498 : Cond.selects "PieceSurfaces$Survey" yX9_wholeCharacteristic yX9_wholeCharacteristic ∈ lw_gd := mm_gd (in_t2 (List.mem_of_getElem? (i := 194) rfl)) rfl
theorem wd_499 : Cond.code yX9_wholeCharacteristic prog_11_method_14_code 2 (some FieldType.int) ∈ lw_gd := mm_gd (in_t2 (List.mem_of_getElem? (i := 195) rfl)) rfl
theorem wd_500 : Cond.methodLink "PieceSurfaces$Survey" 179 yX10_freeFaces ∈ lw_gd := mm_gd (in_t2 (List.mem_of_getElem? (i := 196) rfl)) rfl
theorem wd_501 : Cond.methodLink "PieceSurfaces" 93 yX0_firstWrong ∈ lw_gd := mm_gd (in_t2 (List.mem_of_getElem? (i := 197) rfl)) rfl
theorem wd_502 : Cond.instanceMethod yX0_firstWrong ∈ lw_gd := mm_gd (in_t2 (List.mem_of_getElem? (i := 198) rfl)) rfl
theorem wd_503 : Cond.selects "PieceSurfaces$Book" yX0_firstWrong yX0_firstWrong ∈ lw_gd := mm_gd (in_t2 (List.mem_of_getElem? (i := 199) rfl)) rfl
theorem wd_504 : Cond.code yX0_firstWrong prog_2_method_4_code 4 (some FieldType.int) ∈ lw_gd := mm_gd (in_t2 (List.mem_of_getElem? (i := 200) rfl)) rfl
theorem wd_505 : Cond.methodLink "PieceSurfaces$Book" 24 yX0_isTrue ∈ lw_gd := mm_gd (in_t2 (List.mem_of_getElem? (i := 201) rfl)) rfl
theorem wd_507 : Cond.instanceMethod yX0_isTrue ∈ lw_gd := mm_gd (in_t2 (List.mem_of_getElem? (i := 203) rfl)) rfl
theorem wd_508 : Cond.code yX0_isTrue prog_2_method_5_code 5 (some FieldType.boolean) ∈ lw_gd := mm_gd (in_t2 (List.mem_of_getElem? (i := 204) rfl)) rfl
theorem wd_509 : Cond.methodLink "PieceSurfaces$Book" 35 yX9_isNormal ∈ lw_gd := mm_gd (in_t2 (List.mem_of_getElem? (i := 205) rfl)) rfl
theorem wd_510 : Cond.instanceMethod yX9_isNormal ∈ lw_gd := mm_gd (in_t2 (List.mem_of_getElem? (i := 206) rfl)) rfl
theorem wd_511 : Cond.selects "PieceSurfaces$Survey" yX9_isNormal yX9_isNormal ∈ lw_gd := mm_gd (in_t2 (List.mem_of_getElem? (i := 207) rfl)) rfl
theorem wd_512 : Cond.code yX9_isNormal prog_11_method_3_code 2 (some FieldType.boolean) ∈ lw_gd := mm_gd (in_t2 (List.mem_of_getElem? (i := 208) rfl)) rfl
theorem wd_513 : Cond.methodLink "PieceSurfaces$Survey" 71 yX7_crosses ∈ lw_gd := mm_gd (in_t2 (List.mem_of_getElem? (i := 209) rfl)) rfl
theorem wd_514 : Cond.instanceMethod yX7_crosses ∈ lw_gd := mm_gd (in_t2 (List.mem_of_getElem? (i := 210) rfl)) rfl
theorem wd_515 : Cond.selects "PieceSurfaces$Sheet" yX7_crosses yX7_crosses ∈ lw_gd := mm_gd (in_t2 (List.mem_of_getElem? (i := 211) rfl)) rfl
theorem wd_516 : Cond.code yX7_crosses prog_9_method_7_code 4 (some FieldType.boolean) ∈ lw_gd := mm_gd (in_t2 (List.mem_of_getElem? (i := 212) rfl)) rfl
theorem wd_517 : Cond.methodLink "PieceSurfaces$Survey" 75 yX9_matches ∈ lw_gd := mm_gd (in_t2 (List.mem_of_getElem? (i := 213) rfl)) rfl
theorem wd_518 : Cond.instanceMethod yX9_matches ∈ lw_gd := mm_gd (in_t2 (List.mem_of_getElem? (i := 214) rfl)) rfl
theorem wd_519 : Cond.selects "PieceSurfaces$Survey" yX9_matches yX9_matches ∈ lw_gd := mm_gd (in_t2 (List.mem_of_getElem? (i := 215) rfl)) rfl
theorem wd_520 : Cond.code yX9_matches prog_11_method_2_code 2 (some FieldType.boolean) ∈ lw_gd := mm_gd (in_t2 (List.mem_of_getElem? (i := 216) rfl)) rfl
theorem wd_521 : Cond.methodLink "PieceSurfaces$Survey" 63 yX4_read ∈ lw_gd := mm_gd (in_t2 (List.mem_of_getElem? (i := 217) rfl)) rfl
theorem wd_522 : Cond.instanceMethod yX4_read ∈ lw_gd := mm_gd (in_t2 (List.mem_of_getElem? (i := 218) rfl)) rfl
theorem wd_523 : Cond.selects "PieceSurfaces$Matching" yX4_read yX4_read ∈ lw_gd := mm_gd (in_t2 (List.mem_of_getElem? (i := 219) rfl)) rfl
theorem wd_524 : Cond.code yX4_read prog_6_method_2_code 6 none ∈ lw_gd := mm_gd (in_t2 (List.mem_of_getElem? (i := 220) rfl)) rfl
theorem wd_525 : Cond.methodLink "PieceSurfaces$Matching" 19 yX10_faces ∈ lw_gd := mm_gd (in_t2 (List.mem_of_getElem? (i := 221) rfl)) rfl
theorem wd_526 : Cond.methodLink "PieceSurfaces$Matching" 25 yX10_across ∈ lw_gd := mm_gd (in_t2 (List.mem_of_getElem? (i := 222) rfl)) rfl
theorem wd_527 : Cond.methodLink "PieceSurfaces$Matching" 29 yX10_leads ∈ lw_gd := mm_gd (in_t2 (List.mem_of_getElem? (i := 223) rfl)) rfl
theorem wd_528 : Cond.methodLink "PieceSurfaces$Matching" 36 yX4_enter ∈ lw_gd := mm_gd (in_t2 (List.mem_of_getElem? (i := 224) rfl)) rfl
theorem wd_530 : Cond.instanceMethod yX4_enter ∈ lw_gd := mm_gd (in_t2 (List.mem_of_getElem? (i := 226) rfl)) rfl
theorem wd_531 : Cond.code yX4_enter prog_6_method_3_code 10 none ∈ lw_gd := mm_gd (in_t2 (List.mem_of_getElem? (i := 227) rfl)) rfl
theorem wd_532 : Cond.methodLink "PieceSurfaces$Matching" 40 yX6_together ∈ lw_gd := mm_gd (in_t2 (List.mem_of_getElem? (i := 228) rfl)) rfl
theorem wd_533 : Cond.methodLink "PieceSurfaces$Survey" 67 yX4_holds ∈ lw_gd := mm_gd (in_t2 (List.mem_of_getElem? (i := 229) rfl)) rfl
theorem wd_534 : Cond.instanceMethod yX4_holds ∈ lw_gd := mm_gd (in_t2 (List.mem_of_getElem? (i := 230) rfl)) rfl
theorem wd_535 : Cond.selects "PieceSurfaces$Matching" yX4_holds yX4_holds ∈ lw_gd := mm_gd (in_t2 (List.mem_of_getElem? (i := 231) rfl)) rfl
theorem wd_536 : Cond.code yX4_holds prog_6_method_4_code 4 (some FieldType.boolean) ∈ lw_gd := mm_gd (in_t2 (List.mem_of_getElem? (i := 232) rfl)) rfl
theorem wd_537 : Cond.methodLink "PieceSurfaces$Book" 41 yX9_characteristic ∈ lw_gd := mm_gd (in_t2 (List.mem_of_getElem? (i := 233) rfl)) rfl
theorem wd_538 : Cond.methodLink "PieceSurfacesLaw" 18 yX11_wall ∈ lw_gd := mm_gd (in_t2 (List.mem_of_getElem? (i := 234) rfl)) rfl
theorem wd_539 : Cond.instanceMethod yX11_wall ∈ lw_gd := mm_gd (in_t2 (List.mem_of_getElem? (i := 235) rfl)) rfl
theorem wd_540 : Cond.selects "PieceSurfaces" yX11_wall yX11_wall ∈ lw_gd := mm_gd (in_t2 (List.mem_of_getElem? (i := 236) rfl)) rfl
theorem wd_541 : Cond.code yX11_wall prog_1_method_3_code 6 (some FieldType.int) ∈ lw_gd := mm_gd (in_t2 (List.mem_of_getElem? (i := 237) rfl)) rfl
theorem wd_542 : Cond.methodLink "PieceSurfaces" 97 yX11_hasFace ∈ lw_gd := mm_gd (in_t2 (List.mem_of_getElem? (i := 238) rfl)) rfl
theorem wd_544 : Cond.instanceMethod yX11_hasFace ∈ lw_gd := mm_gd (in_t3 (List.mem_of_getElem? (i := 0) rfl)) rfl
theorem wd_545 : Cond.code yX11_hasFace prog_1_method_26_code 3 (some FieldType.boolean) ∈ lw_gd := mm_gd (in_t3 (List.mem_of_getElem? (i := 1) rfl)) rfl
theorem wd_546 : Cond.methodLink "PieceSurfaces" 132 yX11_hasBody ∈ lw_gd := mm_gd (in_t3 (List.mem_of_getElem? (i := 2) rfl)) rfl
theorem wd_548 : Cond.instanceMethod yX11_hasBody ∈ lw_gd := mm_gd (in_t3 (List.mem_of_getElem? (i := 4) rfl)) rfl
theorem wd_549 : Cond.code yX11_hasBody prog_1_method_25_code 2 (some FieldType.boolean) ∈ lw_gd := mm_gd (in_t3 (List.mem_of_getElem? (i := 5) rfl)) rfl
theorem wd_550 : Cond.constant "PieceSurfaces" 101 (Int32.ofInt (-1000000001)) ∈ lw_gd := mm_gd (in_t3 (List.mem_of_getElem? (i := 6) rfl)) rfl
theorem wd_551 : Cond.methodLink "PieceSurfacesLaw" 23 yX11_corner ∈ lw_gd := mm_gd (in_t3 (List.mem_of_getElem? (i := 7) rfl)) rfl
theorem wd_552 : Cond.instanceMethod yX11_corner ∈ lw_gd := mm_gd (in_t3 (List.mem_of_getElem? (i := 8) rfl)) rfl
theorem wd_553 : Cond.selects "PieceSurfaces" yX11_corner yX11_corner ∈ lw_gd := mm_gd (in_t3 (List.mem_of_getElem? (i := 9) rfl)) rfl
theorem wd_554 : Cond.code yX11_corner prog_1_method_4_code 4 (some FieldType.int) ∈ lw_gd := mm_gd (in_t3 (List.mem_of_getElem? (i := 10) rfl)) rfl
theorem wd_555 : Cond.methodLink "PieceSurfaces" 109 yX10_across ∈ lw_gd := mm_gd (in_t3 (List.mem_of_getElem? (i := 11) rfl)) rfl
theorem wd_556 : Cond.methodLink "PieceSurfacesLaw" 27 yX11_edge ∈ lw_gd := mm_gd (in_t3 (List.mem_of_getElem? (i := 12) rfl)) rfl
theorem wd_557 : Cond.instanceMethod yX11_edge ∈ lw_gd := mm_gd (in_t3 (List.mem_of_getElem? (i := 13) rfl)) rfl
theorem wd_558 : Cond.selects "PieceSurfaces" yX11_edge yX11_edge ∈ lw_gd := mm_gd (in_t3 (List.mem_of_getElem? (i := 14) rfl)) rfl
theorem wd_559 : Cond.code yX11_edge prog_1_method_5_code 5 (some FieldType.int) ∈ lw_gd := mm_gd (in_t3 (List.mem_of_getElem? (i := 15) rfl)) rfl
theorem wd_560 : Cond.methodLink "PieceSurfaces" 116 yX11_hasEdge ∈ lw_gd := mm_gd (in_t3 (List.mem_of_getElem? (i := 16) rfl)) rfl
theorem wd_562 : Cond.instanceMethod yX11_hasEdge ∈ lw_gd := mm_gd (in_t3 (List.mem_of_getElem? (i := 18) rfl)) rfl
theorem wd_563 : Cond.code yX11_hasEdge prog_1_method_27_code 3 (some FieldType.boolean) ∈ lw_gd := mm_gd (in_t3 (List.mem_of_getElem? (i := 19) rfl)) rfl
theorem wd_564 : Cond.methodLink "PieceSurfaces" 125 yX8_isReversed ∈ lw_gd := mm_gd (in_t3 (List.mem_of_getElem? (i := 20) rfl)) rfl
theorem wd_565 : Cond.methodLink "PieceSurfacesLaw" 31 yX11_pieces ∈ lw_gd := mm_gd (in_t3 (List.mem_of_getElem? (i := 21) rfl)) rfl
theorem wd_566 : Cond.instanceMethod yX11_pieces ∈ lw_gd := mm_gd (in_t3 (List.mem_of_getElem? (i := 22) rfl)) rfl
theorem wd_567 : Cond.selects "PieceSurfaces" yX11_pieces yX11_pieces ∈ lw_gd := mm_gd (in_t3 (List.mem_of_getElem? (i := 23) rfl)) rfl
theorem wd_568 : Cond.code yX11_pieces prog_1_method_6_code 4 (some FieldType.int) ∈ lw_gd := mm_gd (in_t3 (List.mem_of_getElem? (i := 24) rfl)) rfl
theorem wd_569 : Cond.methodLink "PieceSurfaces" 129 yX11_hasSurface ∈ lw_gd := mm_gd (in_t3 (List.mem_of_getElem? (i := 25) rfl)) rfl
theorem wd_571 : Cond.instanceMethod yX11_hasSurface ∈ lw_gd := mm_gd (in_t3 (List.mem_of_getElem? (i := 27) rfl)) rfl
theorem wd_572 : Cond.code yX11_hasSurface prog_1_method_28_code 2 (some FieldType.boolean) ∈ lw_gd := mm_gd (in_t3 (List.mem_of_getElem? (i := 28) rfl)) rfl
theorem wd_573 : Cond.methodLink "PieceSurfaces" 135 yX11_isKind ∈ lw_gd := mm_gd (in_t3 (List.mem_of_getElem? (i := 29) rfl)) rfl
theorem wd_574 : Cond.static yX11_isKind ∈ lw_gd := mm_gd (in_t3 (List.mem_of_getElem? (i := 30) rfl)) rfl
theorem wd_575 : Cond.code yX11_isKind prog_1_method_30_code 1 (some FieldType.boolean) ∈ lw_gd := mm_gd (in_t3 (List.mem_of_getElem? (i := 31) rfl)) rfl
theorem wd_576 : Cond.methodLink "PieceSurfacesLaw" 35 yX11_surface ∈ lw_gd := mm_gd (in_t3 (List.mem_of_getElem? (i := 32) rfl)) rfl
theorem wd_577 : Cond.instanceMethod yX11_surface ∈ lw_gd := mm_gd (in_t3 (List.mem_of_getElem? (i := 33) rfl)) rfl
theorem wd_578 : Cond.selects "PieceSurfaces" yX11_surface yX11_surface ∈ lw_gd := mm_gd (in_t3 (List.mem_of_getElem? (i := 34) rfl)) rfl
theorem wd_579 : Cond.code yX11_surface prog_1_method_7_code 4 (some FieldType.int) ∈ lw_gd := mm_gd (in_t3 (List.mem_of_getElem? (i := 35) rfl)) rfl
theorem wd_580 : Cond.methodLink "PieceSurfaces" 147 yX9_matches ∈ lw_gd := mm_gd (in_t3 (List.mem_of_getElem? (i := 36) rfl)) rfl
theorem wd_581 : Cond.methodLink "PieceSurfaces" 151 yX7_crosses ∈ lw_gd := mm_gd (in_t3 (List.mem_of_getElem? (i := 37) rfl)) rfl
theorem wd_582 : Cond.methodLink "PieceSurfaces" 155 yX7_total ∈ lw_gd := mm_gd (in_t3 (List.mem_of_getElem? (i := 38) rfl)) rfl
theorem wd_583 : Cond.methodLink "PieceSurfaces" 158 yX9_isNormal ∈ lw_gd := mm_gd (in_t3 (List.mem_of_getElem? (i := 39) rfl)) rfl
theorem wd_584 : Cond.methodLink "PieceSurfaces" 161 yX9_ofNormal ∈ lw_gd := mm_gd (in_t3 (List.mem_of_getElem? (i := 40) rfl)) rfl
theorem wd_585 : Cond.instanceMethod yX9_ofNormal ∈ lw_gd := mm_gd (in_t3 (List.mem_of_getElem? (i := 41) rfl)) rfl
theorem wd_586 : Cond.selects "PieceSurfaces$Survey" yX9_ofNormal yX9_ofNormal ∈ lw_gd := mm_gd (in_t3 (List.mem_of_getElem? (i := 42) rfl)) rfl
theorem wd_587 : Cond.code yX9_ofNormal prog_11_method_4_code 3 (some FieldType.int) ∈ lw_gd := mm_gd (in_t3 (List.mem_of_getElem? (i := 43) rfl)) rfl
theorem wd_588 : Cond.methodLink "PieceSurfaces$Survey" 85 yX9_type ∈ lw_gd := mm_gd (in_t3 (List.mem_of_getElem? (i := 44) rfl)) rfl
theorem wd_590 : Cond.instanceMethod yX9_type ∈ lw_gd := mm_gd (in_t3 (List.mem_of_getElem? (i := 46) rfl)) rfl
theorem wd_591 : Cond.code yX9_type prog_11_method_7_code 2 (some FieldType.int) ∈ lw_gd := mm_gd (in_t3 (List.mem_of_getElem? (i := 47) rfl)) rfl
theorem wd_592 : Cond.methodLink "PieceSurfaces$Survey" 88 yX9_splits ∈ lw_gd := mm_gd (in_t3 (List.mem_of_getElem? (i := 48) rfl)) rfl
theorem wd_594 : Cond.instanceMethod yX9_splits ∈ lw_gd := mm_gd (in_t3 (List.mem_of_getElem? (i := 50) rfl)) rfl
theorem wd_595 : Cond.code yX9_splits prog_11_method_15_code 4 (some FieldType.int) ∈ lw_gd := mm_gd (in_t3 (List.mem_of_getElem? (i := 51) rfl)) rfl
theorem wd_596 : Cond.methodLink "PieceSurfaces$Survey" 182 yX9_countParts ∈ lw_gd := mm_gd (in_t3 (List.mem_of_getElem? (i := 52) rfl)) rfl
theorem wd_597 : Cond.static yX9_countParts ∈ lw_gd := mm_gd (in_t3 (List.mem_of_getElem? (i := 53) rfl)) rfl
theorem wd_598 : Cond.code yX9_countParts prog_11_method_16_code 3 (some FieldType.int) ∈ lw_gd := mm_gd (in_t3 (List.mem_of_getElem? (i := 54) rfl)) rfl
theorem wd_599 : Cond.methodLink "PieceSurfaces$Survey" 185 yX9_listUsed ∈ lw_gd := mm_gd (in_t3 (List.mem_of_getElem? (i := 55) rfl)) rfl
theorem wd_601 : Cond.instanceMethod yX9_listUsed ∈ lw_gd := mm_gd (in_t3 (List.mem_of_getElem? (i := 57) rfl)) rfl
theorem wd_602 : Cond.code yX9_listUsed prog_11_method_17_code 3 none ∈ lw_gd := mm_gd (in_t3 (List.mem_of_getElem? (i := 58) rfl)) rfl
theorem wd_603 : Cond.methodLink "PieceSurfaces$Survey" 188 yX9_nextPart ∈ lw_gd := mm_gd (in_t3 (List.mem_of_getElem? (i := 59) rfl)) rfl
theorem wd_605 : Cond.instanceMethod yX9_nextPart ∈ lw_gd := mm_gd (in_t3 (List.mem_of_getElem? (i := 61) rfl)) rfl
theorem wd_606 : Cond.code yX9_nextPart prog_11_method_18_code 4 none ∈ lw_gd := mm_gd (in_t3 (List.mem_of_getElem? (i := 62) rfl)) rfl
theorem wd_607 : Cond.methodLink "PieceSurfacesLaw" 40 yX11_weight ∈ lw_gd := mm_gd (in_t3 (List.mem_of_getElem? (i := 63) rfl)) rfl
theorem wd_608 : Cond.instanceMethod yX11_weight ∈ lw_gd := mm_gd (in_t3 (List.mem_of_getElem? (i := 64) rfl)) rfl
theorem wd_609 : Cond.selects "PieceSurfaces" yX11_weight yX11_weight ∈ lw_gd := mm_gd (in_t3 (List.mem_of_getElem? (i := 65) rfl)) rfl
theorem wd_610 : Cond.code yX11_weight prog_1_method_8_code 4 (some FieldType.int) ∈ lw_gd := mm_gd (in_t3 (List.mem_of_getElem? (i := 66) rfl)) rfl
theorem wd_611 : Cond.methodLink "PieceSurfaces" 165 yX7_weightOn ∈ lw_gd := mm_gd (in_t3 (List.mem_of_getElem? (i := 67) rfl)) rfl
theorem wd_612 : Cond.methodLink "PieceSurfacesLaw" 44 yX11_arcs ∈ lw_gd := mm_gd (in_t3 (List.mem_of_getElem? (i := 68) rfl)) rfl
theorem wd_613 : Cond.instanceMethod yX11_arcs ∈ lw_gd := mm_gd (in_t3 (List.mem_of_getElem? (i := 69) rfl)) rfl
theorem wd_614 : Cond.selects "PieceSurfaces" yX11_arcs yX11_arcs ∈ lw_gd := mm_gd (in_t3 (List.mem_of_getElem? (i := 70) rfl)) rfl
theorem wd_615 : Cond.code yX11_arcs prog_1_method_9_code 5 (some FieldType.int) ∈ lw_gd := mm_gd (in_t3 (List.mem_of_getElem? (i := 71) rfl)) rfl
theorem wd_616 : Cond.methodLink "PieceSurfaces" 168 yX7_arcsAt ∈ lw_gd := mm_gd (in_t3 (List.mem_of_getElem? (i := 72) rfl)) rfl
theorem wd_617 : Cond.methodLink "PieceSurfacesLaw" 49 yX11_bodies ∈ lw_gd := mm_gd (in_t3 (List.mem_of_getElem? (i := 73) rfl)) rfl
theorem wd_618 : Cond.instanceMethod yX11_bodies ∈ lw_gd := mm_gd (in_t3 (List.mem_of_getElem? (i := 74) rfl)) rfl
theorem wd_619 : Cond.selects "PieceSurfaces" yX11_bodies yX11_bodies ∈ lw_gd := mm_gd (in_t3 (List.mem_of_getElem? (i := 75) rfl)) rfl
theorem wd_620 : Cond.code yX11_bodies prog_1_method_10_code 3 (some FieldType.int) ∈ lw_gd := mm_gd (in_t3 (List.mem_of_getElem? (i := 76) rfl)) rfl
theorem wd_621 : Cond.methodLink "PieceSurfaces" 172 yX5_record ∈ lw_gd := mm_gd (in_t3 (List.mem_of_getElem? (i := 77) rfl)) rfl
theorem wd_622 : Cond.instanceMethod yX5_record ∈ lw_gd := mm_gd (in_t3 (List.mem_of_getElem? (i := 78) rfl)) rfl
theorem wd_623 : Cond.selects "PieceSurfaces$Past" yX5_record yX5_record ∈ lw_gd := mm_gd (in_t3 (List.mem_of_getElem? (i := 79) rfl)) rfl
theorem wd_624 : Cond.code yX5_record prog_7_method_2_code 2 none ∈ lw_gd := mm_gd (in_t3 (List.mem_of_getElem? (i := 80) rfl)) rfl
theorem wd_625 : Cond.methodLink "PieceSurfaces$Past" 22 yX10_copyFrom ∈ lw_gd := mm_gd (in_t3 (List.mem_of_getElem? (i := 81) rfl)) rfl
theorem wd_626 : Cond.instanceMethod yX10_copyFrom ∈ lw_gd := mm_gd (in_t3 (List.mem_of_getElem? (i := 82) rfl)) rfl
theorem wd_627 : Cond.selects "PieceSurfaces$World" yX10_copyFrom yX10_copyFrom ∈ lw_gd := mm_gd (in_t3 (List.mem_of_getElem? (i := 83) rfl)) rfl
theorem wd_628 : Cond.code yX10_copyFrom prog_12_method_3_code 3 none ∈ lw_gd := mm_gd (in_t3 (List.mem_of_getElem? (i := 84) rfl)) rfl
theorem wd_629 : Cond.methodLink "PieceSurfaces$World" 40 ⟨"java/lang/System", "arraycopy", "(Ljava/lang/Object;ILjava/lang/Object;II)V"⟩ ∈ lw_gd := mm_gd (in_t3 (List.mem_of_getElem? (i := 85) rfl)) rfl
theorem wd_630 : Cond.static ⟨"java/lang/System", "arraycopy", "(Ljava/lang/Object;ILjava/lang/Object;II)V"⟩ ∈ lw_gd := mm_gd (in_t3 (List.mem_of_getElem? (i := 86) rfl)) rfl
theorem wd_631 : Cond.native ⟨"java/lang/System", "arraycopy", "(Ljava/lang/Object;ILjava/lang/Object;II)V"⟩ ∈ lw_gd := mm_gd (in_t3 (List.mem_of_getElem? (i := 87) rfl)) rfl
theorem wd_632 : Cond.methodLink "PieceSurfaces$World" 46 yX7_copyFrom ∈ lw_gd := mm_gd (in_t3 (List.mem_of_getElem? (i := 88) rfl)) rfl
theorem wd_633 : Cond.instanceMethod yX7_copyFrom ∈ lw_gd := mm_gd (in_t3 (List.mem_of_getElem? (i := 89) rfl)) rfl
theorem wd_634 : Cond.selects "PieceSurfaces$Sheet" yX7_copyFrom yX7_copyFrom ∈ lw_gd := mm_gd (in_t3 (List.mem_of_getElem? (i := 90) rfl)) rfl
theorem wd_635 : Cond.code yX7_copyFrom prog_9_method_3_code 2 none ∈ lw_gd := mm_gd (in_t3 (List.mem_of_getElem? (i := 91) rfl)) rfl
theorem wd_636 : Cond.methodLink "PieceSurfaces$Sheet" 21 ⟨"java/lang/System", "arraycopy", "(Ljava/lang/Object;ILjava/lang/Object;II)V"⟩ ∈ lw_gd := mm_gd (in_t3 (List.mem_of_getElem? (i := 92) rfl)) rfl
theorem wd_637 : Cond.methodLink "PieceSurfaces$Past" 29 yJ9_min_7cf53 ∈ lw_gd := mm_gd (in_t3 (List.mem_of_getElem? (i := 93) rfl)) rfl
theorem wd_638 : Cond.methodLink "PieceSurfaces" 175 yX10_begin ∈ lw_gd := mm_gd (in_t3 (List.mem_of_getElem? (i := 94) rfl)) rfl
theorem wd_639 : Cond.instanceMethod yX10_begin ∈ lw_gd := mm_gd (in_t3 (List.mem_of_getElem? (i := 95) rfl)) rfl
theorem wd_640 : Cond.selects "PieceSurfaces$World" yX10_begin yX10_begin ∈ lw_gd := mm_gd (in_t3 (List.mem_of_getElem? (i := 96) rfl)) rfl
theorem wd_641 : Cond.code yX10_begin prog_12_method_2_code 2 none ∈ lw_gd := mm_gd (in_t3 (List.mem_of_getElem? (i := 97) rfl)) rfl
theorem wd_642 : Cond.methodLink "PieceSurfacesLaw" 53 yX11_glue ∈ lw_gd := mm_gd (in_t3 (List.mem_of_getElem? (i := 98) rfl)) rfl
theorem wd_643 : Cond.instanceMethod yX11_glue ∈ lw_gd := mm_gd (in_t3 (List.mem_of_getElem? (i := 99) rfl)) rfl
theorem wd_644 : Cond.selects "PieceSurfaces" yX11_glue yX11_glue ∈ lw_gd := mm_gd (in_t3 (List.mem_of_getElem? (i := 100) rfl)) rfl
theorem wd_645 : Cond.code yX11_glue prog_1_method_11_code 6 (some FieldType.int) ∈ lw_gd := mm_gd (in_t3 (List.mem_of_getElem? (i := 101) rfl)) rfl
theorem wd_646 : Cond.methodLink "PieceSurfaces" 179 yX10_canFasten ∈ lw_gd := mm_gd (in_t3 (List.mem_of_getElem? (i := 102) rfl)) rfl
theorem wd_647 : Cond.instanceMethod yX10_canFasten ∈ lw_gd := mm_gd (in_t3 (List.mem_of_getElem? (i := 103) rfl)) rfl
theorem wd_648 : Cond.selects "PieceSurfaces$World" yX10_canFasten yX10_canFasten ∈ lw_gd := mm_gd (in_t3 (List.mem_of_getElem? (i := 104) rfl)) rfl
theorem wd_649 : Cond.code yX10_canFasten prog_12_method_6_code 3 (some FieldType.boolean) ∈ lw_gd := mm_gd (in_t3 (List.mem_of_getElem? (i := 105) rfl)) rfl
theorem wd_650 : Cond.constant "PieceSurfaces" 182 (Int32.ofInt (-1000000003)) ∈ lw_gd := mm_gd (in_t3 (List.mem_of_getElem? (i := 106) rfl)) rfl
theorem wd_651 : Cond.methodLink "PieceSurfaces" 183 yX10_fasten ∈ lw_gd := mm_gd (in_t3 (List.mem_of_getElem? (i := 107) rfl)) rfl
theorem wd_652 : Cond.instanceMethod yX10_fasten ∈ lw_gd := mm_gd (in_t3 (List.mem_of_getElem? (i := 108) rfl)) rfl
theorem wd_653 : Cond.selects "PieceSurfaces$World" yX10_fasten yX10_fasten ∈ lw_gd := mm_gd (in_t3 (List.mem_of_getElem? (i := 109) rfl)) rfl
theorem wd_654 : Cond.code yX10_fasten prog_12_method_7_code 4 none ∈ lw_gd := mm_gd (in_t3 (List.mem_of_getElem? (i := 110) rfl)) rfl
theorem wd_655 : Cond.fieldLink "PieceSurfaces$World" 54 "PieceSurfaces$Shape" "BACK" "[I" ∈ lw_gd := mm_gd (in_t3 (List.mem_of_getElem? (i := 111) rfl)) rfl
theorem wd_657 : Cond.methodLink "PieceSurfacesLaw" 58 yX11_free ∈ lw_gd := mm_gd (in_t3 (List.mem_of_getElem? (i := 113) rfl)) rfl
theorem wd_658 : Cond.instanceMethod yX11_free ∈ lw_gd := mm_gd (in_t3 (List.mem_of_getElem? (i := 114) rfl)) rfl
theorem wd_659 : Cond.selects "PieceSurfaces" yX11_free yX11_free ∈ lw_gd := mm_gd (in_t3 (List.mem_of_getElem? (i := 115) rfl)) rfl
theorem wd_660 : Cond.code yX11_free prog_1_method_12_code 3 (some FieldType.int) ∈ lw_gd := mm_gd (in_t3 (List.mem_of_getElem? (i := 116) rfl)) rfl
theorem wd_661 : Cond.methodLink "PieceSurfaces" 187 yX10_loosen ∈ lw_gd := mm_gd (in_t3 (List.mem_of_getElem? (i := 117) rfl)) rfl
theorem wd_662 : Cond.instanceMethod yX10_loosen ∈ lw_gd := mm_gd (in_t3 (List.mem_of_getElem? (i := 118) rfl)) rfl
theorem wd_663 : Cond.selects "PieceSurfaces$World" yX10_loosen yX10_loosen ∈ lw_gd := mm_gd (in_t3 (List.mem_of_getElem? (i := 119) rfl)) rfl
theorem wd_664 : Cond.code yX10_loosen prog_12_method_8_code 3 none ∈ lw_gd := mm_gd (in_t3 (List.mem_of_getElem? (i := 120) rfl)) rfl
theorem wd_665 : Cond.methodLink "PieceSurfacesLaw" 62 yX11_put ∈ lw_gd := mm_gd (in_t3 (List.mem_of_getElem? (i := 121) rfl)) rfl
theorem wd_666 : Cond.instanceMethod yX11_put ∈ lw_gd := mm_gd (in_t3 (List.mem_of_getElem? (i := 122) rfl)) rfl
theorem wd_667 : Cond.selects "PieceSurfaces" yX11_put yX11_put ∈ lw_gd := mm_gd (in_t3 (List.mem_of_getElem? (i := 123) rfl)) rfl
theorem wd_668 : Cond.code yX11_put prog_1_method_13_code 1 (some FieldType.int) ∈ lw_gd := mm_gd (in_t3 (List.mem_of_getElem? (i := 124) rfl)) rfl
theorem wd_669 : Cond.methodLink "PieceSurfaces" 190 yX10_isFull ∈ lw_gd := mm_gd (in_t3 (List.mem_of_getElem? (i := 125) rfl)) rfl
theorem wd_670 : Cond.instanceMethod yX10_isFull ∈ lw_gd := mm_gd (in_t3 (List.mem_of_getElem? (i := 126) rfl)) rfl
theorem wd_671 : Cond.selects "PieceSurfaces$World" yX10_isFull yX10_isFull ∈ lw_gd := mm_gd (in_t3 (List.mem_of_getElem? (i := 127) rfl)) rfl
theorem wd_672 : Cond.code yX10_isFull prog_12_method_11_code 1 (some FieldType.boolean) ∈ lw_gd := mm_gd (in_t3 (List.mem_of_getElem? (i := 128) rfl)) rfl
theorem wd_673 : Cond.constant "PieceSurfaces" 193 (Int32.ofInt (-1000000004)) ∈ lw_gd := mm_gd (in_t3 (List.mem_of_getElem? (i := 129) rfl)) rfl
theorem wd_674 : Cond.methodLink "PieceSurfaces" 194 yX7_clear ∈ lw_gd := mm_gd (in_t3 (List.mem_of_getElem? (i := 130) rfl)) rfl
theorem wd_675 : Cond.methodLink "PieceSurfaces" 197 yX10_lastGrown ∈ lw_gd := mm_gd (in_t3 (List.mem_of_getElem? (i := 131) rfl)) rfl
theorem wd_676 : Cond.instanceMethod yX10_lastGrown ∈ lw_gd := mm_gd (in_t3 (List.mem_of_getElem? (i := 132) rfl)) rfl
theorem wd_677 : Cond.selects "PieceSurfaces$World" yX10_lastGrown yX10_lastGrown ∈ lw_gd := mm_gd (in_t3 (List.mem_of_getElem? (i := 133) rfl)) rfl
theorem wd_678 : Cond.code yX10_lastGrown prog_12_method_12_code 1 (some FieldType.int) ∈ lw_gd := mm_gd (in_t3 (List.mem_of_getElem? (i := 134) rfl)) rfl
theorem wd_679 : Cond.methodLink "PieceSurfacesLaw" 67 yX11_piece ∈ lw_gd := mm_gd (in_t3 (List.mem_of_getElem? (i := 135) rfl)) rfl
theorem wd_680 : Cond.instanceMethod yX11_piece ∈ lw_gd := mm_gd (in_t3 (List.mem_of_getElem? (i := 136) rfl)) rfl
theorem wd_681 : Cond.selects "PieceSurfaces" yX11_piece yX11_piece ∈ lw_gd := mm_gd (in_t3 (List.mem_of_getElem? (i := 137) rfl)) rfl
theorem wd_682 : Cond.code yX11_piece prog_1_method_14_code 7 (some FieldType.int) ∈ lw_gd := mm_gd (in_t3 (List.mem_of_getElem? (i := 138) rfl)) rfl
theorem wd_683 : Cond.methodLink "PieceSurfacesLaw" 71 yX11_about ∈ lw_gd := mm_gd (in_t3 (List.mem_of_getElem? (i := 139) rfl)) rfl
theorem wd_684 : Cond.instanceMethod yX11_about ∈ lw_gd := mm_gd (in_t3 (List.mem_of_getElem? (i := 140) rfl)) rfl
theorem wd_685 : Cond.selects "PieceSurfaces" yX11_about yX11_about ∈ lw_gd := mm_gd (in_t3 (List.mem_of_getElem? (i := 141) rfl)) rfl
theorem wd_686 : Cond.code yX11_about prog_1_method_15_code 2 (some FieldType.int) ∈ lw_gd := mm_gd (in_t3 (List.mem_of_getElem? (i := 142) rfl)) rfl
theorem wd_687 : Cond.methodLink "PieceSurfaces" 200 yX9_fillLink ∈ lw_gd := mm_gd (in_t3 (List.mem_of_getElem? (i := 143) rfl)) rfl
theorem wd_688 : Cond.methodLink "PieceSurfacesLaw" 75 yX11_add ∈ lw_gd := mm_gd (in_t3 (List.mem_of_getElem? (i := 144) rfl)) rfl
theorem wd_689 : Cond.instanceMethod yX11_add ∈ lw_gd := mm_gd (in_t3 (List.mem_of_getElem? (i := 145) rfl)) rfl
theorem wd_690 : Cond.selects "PieceSurfaces" yX11_add yX11_add ∈ lw_gd := mm_gd (in_t3 (List.mem_of_getElem? (i := 146) rfl)) rfl
theorem wd_691 : Cond.code yX11_add prog_1_method_16_code 4 (some FieldType.int) ∈ lw_gd := mm_gd (in_t3 (List.mem_of_getElem? (i := 147) rfl)) rfl
theorem wd_692 : Cond.methodLink "PieceSurfaces" 204 yX7_fillSum ∈ lw_gd := mm_gd (in_t3 (List.mem_of_getElem? (i := 148) rfl)) rfl
theorem wd_693 : Cond.instanceMethod yX7_fillSum ∈ lw_gd := mm_gd (in_t3 (List.mem_of_getElem? (i := 149) rfl)) rfl
theorem wd_694 : Cond.selects "PieceSurfaces$Sheet" yX7_fillSum yX7_fillSum ∈ lw_gd := mm_gd (in_t3 (List.mem_of_getElem? (i := 150) rfl)) rfl
theorem wd_695 : Cond.code yX7_fillSum prog_9_method_4_code 4 none ∈ lw_gd := mm_gd (in_t3 (List.mem_of_getElem? (i := 151) rfl)) rfl
theorem wd_696 : Cond.methodLink "PieceSurfaces" 208 yX7_most ∈ lw_gd := mm_gd (in_t3 (List.mem_of_getElem? (i := 152) rfl)) rfl
theorem wd_697 : Cond.instanceMethod yX7_most ∈ lw_gd := mm_gd (in_t3 (List.mem_of_getElem? (i := 153) rfl)) rfl
theorem wd_698 : Cond.selects "PieceSurfaces$Sheet" yX7_most yX7_most ∈ lw_gd := mm_gd (in_t3 (List.mem_of_getElem? (i := 154) rfl)) rfl
theorem wd_699 : Cond.code yX7_most prog_9_method_6_code 3 (some FieldType.int) ∈ lw_gd := mm_gd (in_t3 (List.mem_of_getElem? (i := 155) rfl)) rfl
theorem wd_700 : Cond.methodLink "PieceSurfaces$Sheet" 27 yJ9_max_7cf53 ∈ lw_gd := mm_gd (in_t3 (List.mem_of_getElem? (i := 156) rfl)) rfl
theorem wd_701 : Cond.static yJ9_max_7cf53 ∈ lw_gd := mm_gd (in_t3 (List.mem_of_getElem? (i := 157) rfl)) rfl
theorem wd_702 : Cond.code yJ9_max_7cf53 prog_15_method_65_code 2 (some FieldType.int) ∈ lw_gd := mm_gd (in_t3 (List.mem_of_getElem? (i := 158) rfl)) rfl
theorem wd_703 : Cond.methodLink "PieceSurfacesLaw" 79 yX11_take ∈ lw_gd := mm_gd (in_t3 (List.mem_of_getElem? (i := 159) rfl)) rfl
theorem wd_704 : Cond.instanceMethod yX11_take ∈ lw_gd := mm_gd (in_t3 (List.mem_of_getElem? (i := 160) rfl)) rfl
theorem wd_705 : Cond.selects "PieceSurfaces" yX11_take yX11_take ∈ lw_gd := mm_gd (in_t3 (List.mem_of_getElem? (i := 161) rfl)) rfl
theorem wd_706 : Cond.code yX11_take prog_1_method_17_code 2 (some FieldType.int) ∈ lw_gd := mm_gd (in_t3 (List.mem_of_getElem? (i := 162) rfl)) rfl
theorem wd_707 : Cond.methodLink "PieceSurfaces" 211 yX10_dropSheet ∈ lw_gd := mm_gd (in_t3 (List.mem_of_getElem? (i := 163) rfl)) rfl
theorem wd_708 : Cond.instanceMethod yX10_dropSheet ∈ lw_gd := mm_gd (in_t3 (List.mem_of_getElem? (i := 164) rfl)) rfl
theorem wd_709 : Cond.selects "PieceSurfaces$World" yX10_dropSheet yX10_dropSheet ∈ lw_gd := mm_gd (in_t3 (List.mem_of_getElem? (i := 165) rfl)) rfl
theorem wd_710 : Cond.code yX10_dropSheet prog_12_method_13_code 3 none ∈ lw_gd := mm_gd (in_t3 (List.mem_of_getElem? (i := 166) rfl)) rfl
theorem wd_711 : Cond.methodLink "PieceSurfacesLaw" 83 yX11_drift ∈ lw_gd := mm_gd (in_t3 (List.mem_of_getElem? (i := 167) rfl)) rfl
theorem wd_712 : Cond.instanceMethod yX11_drift ∈ lw_gd := mm_gd (in_t3 (List.mem_of_getElem? (i := 168) rfl)) rfl
theorem wd_713 : Cond.selects "PieceSurfaces" yX11_drift yX11_drift ∈ lw_gd := mm_gd (in_t3 (List.mem_of_getElem? (i := 169) rfl)) rfl
theorem wd_714 : Cond.code yX11_drift prog_1_method_18_code 3 (some FieldType.int) ∈ lw_gd := mm_gd (in_t3 (List.mem_of_getElem? (i := 170) rfl)) rfl
theorem wd_715 : Cond.methodLink "PieceSurfaces" 214 yX11_driftOnce ∈ lw_gd := mm_gd (in_t3 (List.mem_of_getElem? (i := 171) rfl)) rfl
theorem wd_717 : Cond.instanceMethod yX11_driftOnce ∈ lw_gd := mm_gd (in_t3 (List.mem_of_getElem? (i := 173) rfl)) rfl
theorem wd_718 : Cond.code yX11_driftOnce prog_1_method_31_code 6 none ∈ lw_gd := mm_gd (in_t3 (List.mem_of_getElem? (i := 174) rfl)) rfl
theorem wd_719 : Cond.methodLink "PieceSurfaces" 243 yX2_below ∈ lw_gd := mm_gd (in_t3 (List.mem_of_getElem? (i := 175) rfl)) rfl
theorem wd_720 : Cond.instanceMethod yX2_below ∈ lw_gd := mm_gd (in_t3 (List.mem_of_getElem? (i := 176) rfl)) rfl
theorem wd_721 : Cond.selects "PieceSurfaces$Dice" yX2_below yX2_below ∈ lw_gd := mm_gd (in_t3 (List.mem_of_getElem? (i := 177) rfl)) rfl
theorem wd_722 : Cond.code yX2_below prog_4_method_2_code 2 (some FieldType.int) ∈ lw_gd := mm_gd (in_t3 (List.mem_of_getElem? (i := 178) rfl)) rfl
theorem wd_726 : Cond.constant "PieceSurfaces$Dice" 19 (Int32.ofInt (65536)) ∈ lw_gd := mm_gd (in_t3 (List.mem_of_getElem? (i := 182) rfl)) rfl
theorem wd_727 : Cond.methodLink "PieceSurfacesLaw" 87 yX11_undo ∈ lw_gd := mm_gd (in_t3 (List.mem_of_getElem? (i := 183) rfl)) rfl
theorem wd_728 : Cond.instanceMethod yX11_undo ∈ lw_gd := mm_gd (in_t3 (List.mem_of_getElem? (i := 184) rfl)) rfl
theorem wd_729 : Cond.selects "PieceSurfaces" yX11_undo yX11_undo ∈ lw_gd := mm_gd (in_t3 (List.mem_of_getElem? (i := 185) rfl)) rfl
theorem wd_730 : Cond.code yX11_undo prog_1_method_19_code 2 (some FieldType.int) ∈ lw_gd := mm_gd (in_t3 (List.mem_of_getElem? (i := 186) rfl)) rfl
theorem wd_731 : Cond.methodLink "PieceSurfaces" 217 yX5_restore ∈ lw_gd := mm_gd (in_t3 (List.mem_of_getElem? (i := 187) rfl)) rfl
theorem wd_732 : Cond.instanceMethod yX5_restore ∈ lw_gd := mm_gd (in_t3 (List.mem_of_getElem? (i := 188) rfl)) rfl
theorem wd_733 : Cond.selects "PieceSurfaces$Past" yX5_restore yX5_restore ∈ lw_gd := mm_gd (in_t3 (List.mem_of_getElem? (i := 189) rfl)) rfl
theorem wd_734 : Cond.code yX5_restore prog_7_method_3_code 3 none ∈ lw_gd := mm_gd (in_t3 (List.mem_of_getElem? (i := 190) rfl)) rfl
theorem wd_735 : Cond.methodLink "PieceSurfaces$Past" 35 yJ9_floorMod_7cf53 ∈ lw_gd := mm_gd (in_t3 (List.mem_of_getElem? (i := 191) rfl)) rfl
theorem wd_736 : Cond.static yJ9_floorMod_7cf53 ∈ lw_gd := mm_gd (in_t3 (List.mem_of_getElem? (i := 192) rfl)) rfl
theorem wd_737 : Cond.code yJ9_floorMod_7cf53 prog_15_method_50_code 3 (some FieldType.int) ∈ lw_gd := mm_gd (in_t3 (List.mem_of_getElem? (i := 193) rfl)) rfl
theorem wd_738 : Cond.methodLink "PieceSurfacesLaw" 91 yX11_write ∈ lw_gd := mm_gd (in_t3 (List.mem_of_getElem? (i := 194) rfl)) rfl
theorem wd_739 : Cond.instanceMethod yX11_write ∈ lw_gd := mm_gd (in_t3 (List.mem_of_getElem? (i := 195) rfl)) rfl
theorem wd_740 : Cond.selects "PieceSurfaces" yX11_write yX11_write ∈ lw_gd := mm_gd (in_t3 (List.mem_of_getElem? (i := 196) rfl)) rfl
theorem wd_741 : Cond.code yX11_write prog_1_method_20_code 3 (some FieldType.int) ∈ lw_gd := mm_gd (in_t3 (List.mem_of_getElem? (i := 197) rfl)) rfl
theorem wd_742 : Cond.methodLink "PieceSurfaces" 221 yX0_isFull ∈ lw_gd := mm_gd (in_t3 (List.mem_of_getElem? (i := 198) rfl)) rfl
theorem wd_743 : Cond.instanceMethod yX0_isFull ∈ lw_gd := mm_gd (in_t3 (List.mem_of_getElem? (i := 199) rfl)) rfl
theorem wd_744 : Cond.selects "PieceSurfaces$Book" yX0_isFull yX0_isFull ∈ lw_gd := mm_gd (in_t3 (List.mem_of_getElem? (i := 200) rfl)) rfl
theorem wd_745 : Cond.code yX0_isFull prog_2_method_2_code 1 (some FieldType.boolean) ∈ lw_gd := mm_gd (in_t3 (List.mem_of_getElem? (i := 201) rfl)) rfl
theorem wd_746 : Cond.methodLink "PieceSurfaces" 222 yX0_enter ∈ lw_gd := mm_gd (in_t3 (List.mem_of_getElem? (i := 202) rfl)) rfl
theorem wd_747 : Cond.instanceMethod yX0_enter ∈ lw_gd := mm_gd (in_t3 (List.mem_of_getElem? (i := 203) rfl)) rfl
theorem wd_748 : Cond.selects "PieceSurfaces$Book" yX0_enter yX0_enter ∈ lw_gd := mm_gd (in_t3 (List.mem_of_getElem? (i := 204) rfl)) rfl
theorem wd_749 : Cond.code yX0_enter prog_2_method_3_code 3 none ∈ lw_gd := mm_gd (in_t3 (List.mem_of_getElem? (i := 205) rfl)) rfl
theorem wd_750 : Cond.methodLink "PieceSurfacesLaw" 95 yX11_tear ∈ lw_gd := mm_gd (in_t3 (List.mem_of_getElem? (i := 206) rfl)) rfl
theorem wd_751 : Cond.instanceMethod yX11_tear ∈ lw_gd := mm_gd (in_t3 (List.mem_of_getElem? (i := 207) rfl)) rfl
theorem wd_752 : Cond.selects "PieceSurfaces" yX11_tear yX11_tear ∈ lw_gd := mm_gd (in_t3 (List.mem_of_getElem? (i := 208) rfl)) rfl
theorem wd_753 : Cond.code yX11_tear prog_1_method_21_code 2 (some FieldType.int) ∈ lw_gd := mm_gd (in_t3 (List.mem_of_getElem? (i := 209) rfl)) rfl
theorem wd_754 : Cond.methodLink "PieceSurfacesLaw" 99 yX11_seed ∈ lw_gd := mm_gd (in_t3 (List.mem_of_getElem? (i := 210) rfl)) rfl
theorem wd_755 : Cond.instanceMethod yX11_seed ∈ lw_gd := mm_gd (in_t3 (List.mem_of_getElem? (i := 211) rfl)) rfl
theorem wd_756 : Cond.selects "PieceSurfaces" yX11_seed yX11_seed ∈ lw_gd := mm_gd (in_t3 (List.mem_of_getElem? (i := 212) rfl)) rfl
theorem wd_757 : Cond.code yX11_seed prog_1_method_22_code 3 (some FieldType.int) ∈ lw_gd := mm_gd (in_t3 (List.mem_of_getElem? (i := 213) rfl)) rfl
theorem wd_758 : Cond.methodLink "PieceSurfacesLaw" 103 yX11_keep ∈ lw_gd := mm_gd (in_t3 (List.mem_of_getElem? (i := 214) rfl)) rfl
theorem wd_759 : Cond.instanceMethod yX11_keep ∈ lw_gd := mm_gd (in_t3 (List.mem_of_getElem? (i := 215) rfl)) rfl
theorem wd_760 : Cond.selects "PieceSurfaces" yX11_keep yX11_keep ∈ lw_gd := mm_gd (in_t3 (List.mem_of_getElem? (i := 216) rfl)) rfl
theorem wd_761 : Cond.code yX11_keep prog_1_method_23_code 2 (some FieldType.int) ∈ lw_gd := mm_gd (in_t3 (List.mem_of_getElem? (i := 217) rfl)) rfl
theorem wd_762 : Cond.methodLink "PieceSurfaces" 229 yX11_hasImage ∈ lw_gd := mm_gd (in_t3 (List.mem_of_getElem? (i := 218) rfl)) rfl
theorem wd_764 : Cond.instanceMethod yX11_hasImage ∈ lw_gd := mm_gd (in_t3 (List.mem_of_getElem? (i := 220) rfl)) rfl
theorem wd_765 : Cond.code yX11_hasImage prog_1_method_29_code 2 (some FieldType.boolean) ∈ lw_gd := mm_gd (in_t3 (List.mem_of_getElem? (i := 221) rfl)) rfl
theorem wd_766 : Cond.methodLink "PieceSurfaces" 232 yX3_save ∈ lw_gd := mm_gd (in_t3 (List.mem_of_getElem? (i := 222) rfl)) rfl
theorem wd_767 : Cond.instanceMethod yX3_save ∈ lw_gd := mm_gd (in_t3 (List.mem_of_getElem? (i := 223) rfl)) rfl
theorem wd_768 : Cond.selects "PieceSurfaces$Image" yX3_save yX3_save ∈ lw_gd := mm_gd (in_t3 (List.mem_of_getElem? (i := 224) rfl)) rfl
theorem wd_769 : Cond.code yX3_save prog_5_method_2_code 3 none ∈ lw_gd := mm_gd (in_t3 (List.mem_of_getElem? (i := 225) rfl)) rfl
theorem wd_770 : Cond.methodLink "PieceSurfaces$Image" 16 yX10_copyFrom ∈ lw_gd := mm_gd (in_t3 (List.mem_of_getElem? (i := 226) rfl)) rfl
theorem wd_771 : Cond.methodLink "PieceSurfacesLaw" 107 yX11_goBack ∈ lw_gd := mm_gd (in_t3 (List.mem_of_getElem? (i := 227) rfl)) rfl
theorem wd_772 : Cond.instanceMethod yX11_goBack ∈ lw_gd := mm_gd (in_t3 (List.mem_of_getElem? (i := 228) rfl)) rfl
theorem wd_773 : Cond.selects "PieceSurfaces" yX11_goBack yX11_goBack ∈ lw_gd := mm_gd (in_t3 (List.mem_of_getElem? (i := 229) rfl)) rfl
theorem wd_774 : Cond.code yX11_goBack prog_1_method_24_code 2 (some FieldType.int) ∈ lw_gd := mm_gd (in_t3 (List.mem_of_getElem? (i := 230) rfl)) rfl
theorem wd_775 : Cond.methodLink "PieceSurfaces" 240 yX3_load ∈ lw_gd := mm_gd (in_t3 (List.mem_of_getElem? (i := 231) rfl)) rfl
theorem wd_776 : Cond.instanceMethod yX3_load ∈ lw_gd := mm_gd (in_t3 (List.mem_of_getElem? (i := 232) rfl)) rfl
theorem wd_777 : Cond.selects "PieceSurfaces$Image" yX3_load yX3_load ∈ lw_gd := mm_gd (in_t3 (List.mem_of_getElem? (i := 233) rfl)) rfl
theorem wd_778 : Cond.code yX3_load prog_5_method_3_code 3 none ∈ lw_gd := mm_gd (in_t3 (List.mem_of_getElem? (i := 234) rfl)) rfl
theorem wd_779 : Cond.classLink "PieceSurfacesLaw" 10 "PieceSurfacesModel" ∈ lw_gd := mm_gd (in_t3 (List.mem_of_getElem? (i := 235) rfl)) rfl
theorem wd_780 : Cond.instantiable "PieceSurfacesModel" 13 ∈ lw_gd := mm_gd (in_t3 (List.mem_of_getElem? (i := 236) rfl)) rfl
theorem wd_781 : Cond.methodLink "PieceSurfacesLaw" 12 yX12_init ∈ lw_gd := mm_gd (in_t3 (List.mem_of_getElem? (i := 237) rfl)) rfl
theorem wd_782 : Cond.instanceMethod yX12_init ∈ lw_gd := mm_gd (in_t3 (List.mem_of_getElem? (i := 238) rfl)) rfl
theorem wd_783 : Cond.code yX12_init prog_14_method_1_code 1 none ∈ lw_gd := mm_gd (in_t3 (List.mem_of_getElem? (i := 239) rfl)) rfl
theorem wd_784 : Cond.methodLink "PieceSurfacesModel" 1 ⟨"java/lang/Object", "<init>", "()V"⟩ ∈ lw_gd := mm_gd (in_t4 (List.mem_of_getElem? (i := 0) rfl)) rfl
theorem wd_785 : Cond.methodLink "PieceSurfacesModel" 37 yX12_unglueAll ∈ lw_gd := mm_gd (in_t4 (List.mem_of_getElem? (i := 1) rfl)) rfl
theorem wd_787 : Cond.instanceMethod yX12_unglueAll ∈ lw_gd := mm_gd (in_t4 (List.mem_of_getElem? (i := 3) rfl)) rfl
theorem wd_788 : Cond.code yX12_unglueAll prog_14_method_4_code 2 none ∈ lw_gd := mm_gd (in_t4 (List.mem_of_getElem? (i := 4) rfl)) rfl
theorem wd_789 : Cond.fieldLink "PieceSurfacesModel" 7 "PieceSurfacesModel" "w" "[I" ∈ lw_gd := mm_gd (in_t4 (List.mem_of_getElem? (i := 5) rfl)) rfl
theorem wd_790 : Cond.fieldLink "PieceSurfacesModel" 187 "PieceSurfacesModel" "known" "I" ∈ lw_gd := mm_gd (in_t4 (List.mem_of_getElem? (i := 6) rfl)) rfl
theorem wd_791 : Cond.fieldLink "PieceSurfacesModel" 246 "PieceSurfacesModel" "kept" "I" ∈ lw_gd := mm_gd (in_t4 (List.mem_of_getElem? (i := 7) rfl)) rfl
theorem wd_792 : Cond.fieldLink "PieceSurfacesModel" 230 "PieceSurfacesModel" "seed" "I" ∈ lw_gd := mm_gd (in_t4 (List.mem_of_getElem? (i := 8) rfl)) rfl
theorem wd_793 : Cond.fieldLink "PieceSurfacesModel" 13 "PieceSurfacesModel" "keptSeed" "[I" ∈ lw_gd := mm_gd (in_t4 (List.mem_of_getElem? (i := 9) rfl)) rfl
theorem wd_794 : Cond.fieldLink "PieceSurfacesModel" 16 "PieceSurfacesModel" "bookOf" "[I" ∈ lw_gd := mm_gd (in_t4 (List.mem_of_getElem? (i := 10) rfl)) rfl
theorem wd_795 : Cond.fieldLink "PieceSurfacesModel" 19 "PieceSurfacesModel" "bookIs" "[I" ∈ lw_gd := mm_gd (in_t4 (List.mem_of_getElem? (i := 11) rfl)) rfl
theorem wd_796 : Cond.fieldLink "PieceSurfacesModel" 165 "PieceSurfacesModel" "booked" "I" ∈ lw_gd := mm_gd (in_t4 (List.mem_of_getElem? (i := 12) rfl)) rfl
theorem wd_797 : Cond.fieldLink "PieceSurfacesModel" 22 "PieceSurfacesModel" "point" "[I" ∈ lw_gd := mm_gd (in_t4 (List.mem_of_getElem? (i := 13) rfl)) rfl
theorem wd_798 : Cond.fieldLink "PieceSurfacesModel" 25 "PieceSurfacesModel" "line" "[I" ∈ lw_gd := mm_gd (in_t4 (List.mem_of_getElem? (i := 14) rfl)) rfl
theorem wd_799 : Cond.fieldLink "PieceSurfacesModel" 28 "PieceSurfacesModel" "arrow" "[I" ∈ lw_gd := mm_gd (in_t4 (List.mem_of_getElem? (i := 15) rfl)) rfl
theorem wd_800 : Cond.fieldLink "PieceSurfacesModel" 31 "PieceSurfacesModel" "heap" "[I" ∈ lw_gd := mm_gd (in_t4 (List.mem_of_getElem? (i := 16) rfl)) rfl
theorem wd_801 : Cond.fieldLink "PieceSurfacesModel" 34 "PieceSurfacesModel" "face" "[I" ∈ lw_gd := mm_gd (in_t4 (List.mem_of_getElem? (i := 17) rfl)) rfl
theorem wd_829 : Cond.methodLink "PieceSurfacesLaw" 17 yX12_told ∈ lw_gd := mm_gd (in_t4 (List.mem_of_getElem? (i := 45) rfl)) rfl
theorem wd_830 : Cond.instanceMethod yX12_told ∈ lw_gd := mm_gd (in_t4 (List.mem_of_getElem? (i := 46) rfl)) rfl
theorem wd_831 : Cond.selects "PieceSurfacesModel" yX12_told yX12_told ∈ lw_gd := mm_gd (in_t4 (List.mem_of_getElem? (i := 47) rfl)) rfl
theorem wd_832 : Cond.code yX12_told prog_14_method_53_code 2 (some FieldType.int) ∈ lw_gd := mm_gd (in_t4 (List.mem_of_getElem? (i := 48) rfl)) rfl
theorem wd_833 : Cond.methodLink "PieceSurfacesModel" 156 yX12_freeMany ∈ lw_gd := mm_gd (in_t4 (List.mem_of_getElem? (i := 49) rfl)) rfl
theorem wd_835 : Cond.instanceMethod yX12_freeMany ∈ lw_gd := mm_gd (in_t4 (List.mem_of_getElem? (i := 51) rfl)) rfl
theorem wd_836 : Cond.code yX12_freeMany prog_14_method_14_code 3 (some FieldType.int) ∈ lw_gd := mm_gd (in_t4 (List.mem_of_getElem? (i := 52) rfl)) rfl
theorem wd_837 : Cond.methodLink "PieceSurfacesModel" 48 yX12_walls ∈ lw_gd := mm_gd (in_t4 (List.mem_of_getElem? (i := 53) rfl)) rfl
theorem wd_839 : Cond.instanceMethod yX12_walls ∈ lw_gd := mm_gd (in_t4 (List.mem_of_getElem? (i := 55) rfl)) rfl
theorem wd_840 : Cond.code yX12_walls prog_14_method_13_code 1 (some FieldType.int) ∈ lw_gd := mm_gd (in_t4 (List.mem_of_getElem? (i := 56) rfl)) rfl
theorem wd_841 : Cond.methodLink "PieceSurfacesModel" 52 yX12_isFree ∈ lw_gd := mm_gd (in_t4 (List.mem_of_getElem? (i := 57) rfl)) rfl
theorem wd_843 : Cond.instanceMethod yX12_isFree ∈ lw_gd := mm_gd (in_t4 (List.mem_of_getElem? (i := 59) rfl)) rfl
theorem wd_844 : Cond.code yX12_isFree prog_14_method_11_code 2 (some FieldType.boolean) ∈ lw_gd := mm_gd (in_t4 (List.mem_of_getElem? (i := 60) rfl)) rfl
theorem wd_845 : Cond.methodLink "PieceSurfacesModel" 159 yX12_points ∈ lw_gd := mm_gd (in_t4 (List.mem_of_getElem? (i := 61) rfl)) rfl
theorem wd_847 : Cond.instanceMethod yX12_points ∈ lw_gd := mm_gd (in_t4 (List.mem_of_getElem? (i := 63) rfl)) rfl
theorem wd_848 : Cond.code yX12_points prog_14_method_47_code 1 (some FieldType.int) ∈ lw_gd := mm_gd (in_t4 (List.mem_of_getElem? (i := 64) rfl)) rfl
theorem wd_849 : Cond.methodLink "PieceSurfacesModel" 96 yX12_layRoom ∈ lw_gd := mm_gd (in_t4 (List.mem_of_getElem? (i := 65) rfl)) rfl
theorem wd_851 : Cond.instanceMethod yX12_layRoom ∈ lw_gd := mm_gd (in_t4 (List.mem_of_getElem? (i := 67) rfl)) rfl
theorem wd_852 : Cond.code yX12_layRoom prog_14_method_20_code 2 none ∈ lw_gd := mm_gd (in_t4 (List.mem_of_getElem? (i := 68) rfl)) rfl
theorem wd_853 : Cond.methodLink "PieceSurfacesModel" 70 yX12_glueCorners ∈ lw_gd := mm_gd (in_t4 (List.mem_of_getElem? (i := 69) rfl)) rfl
theorem wd_855 : Cond.instanceMethod yX12_glueCorners ∈ lw_gd := mm_gd (in_t4 (List.mem_of_getElem? (i := 71) rfl)) rfl
theorem wd_856 : Cond.code yX12_glueCorners prog_14_method_19_code 11 none ∈ lw_gd := mm_gd (in_t4 (List.mem_of_getElem? (i := 72) rfl)) rfl
theorem wd_857 : Cond.methodLink "PieceSurfacesModel" 60 yX12_goesTo ∈ lw_gd := mm_gd (in_t4 (List.mem_of_getElem? (i := 73) rfl)) rfl
theorem wd_859 : Cond.instanceMethod yX12_goesTo ∈ lw_gd := mm_gd (in_t4 (List.mem_of_getElem? (i := 75) rfl)) rfl
theorem wd_860 : Cond.code yX12_goesTo prog_14_method_12_code 7 (some FieldType.int) ∈ lw_gd := mm_gd (in_t4 (List.mem_of_getElem? (i := 76) rfl)) rfl
theorem wd_861 : Cond.methodLink "PieceSurfacesModel" 44 yX12_place ∈ lw_gd := mm_gd (in_t4 (List.mem_of_getElem? (i := 77) rfl)) rfl
theorem wd_862 : Cond.static yX12_place ∈ lw_gd := mm_gd (in_t4 (List.mem_of_getElem? (i := 78) rfl)) rfl
theorem wd_863 : Cond.code yX12_place prog_14_method_9_code 3 (some FieldType.int) ∈ lw_gd := mm_gd (in_t4 (List.mem_of_getElem? (i := 79) rfl)) rfl
theorem wd_864 : Cond.methodLink "PieceSurfacesModel" 63 yX12_alike ∈ lw_gd := mm_gd (in_t4 (List.mem_of_getElem? (i := 80) rfl)) rfl
theorem wd_865 : Cond.static yX12_alike ∈ lw_gd := mm_gd (in_t4 (List.mem_of_getElem? (i := 81) rfl)) rfl
theorem wd_866 : Cond.code yX12_alike prog_14_method_18_code 7 none ∈ lw_gd := mm_gd (in_t4 (List.mem_of_getElem? (i := 82) rfl)) rfl
theorem wd_867 : Cond.methodLink "PieceSurfacesModel" 67 yX12_edgeOf ∈ lw_gd := mm_gd (in_t4 (List.mem_of_getElem? (i := 83) rfl)) rfl
theorem wd_868 : Cond.static yX12_edgeOf ∈ lw_gd := mm_gd (in_t4 (List.mem_of_getElem? (i := 84) rfl)) rfl
theorem wd_869 : Cond.code yX12_edgeOf prog_14_method_15_code 4 (some FieldType.int) ∈ lw_gd := mm_gd (in_t4 (List.mem_of_getElem? (i := 85) rfl)) rfl
theorem wd_870 : Cond.methodLink "PieceSurfacesModel" 149 yX12_firsts ∈ lw_gd := mm_gd (in_t4 (List.mem_of_getElem? (i := 86) rfl)) rfl
theorem wd_871 : Cond.static yX12_firsts ∈ lw_gd := mm_gd (in_t4 (List.mem_of_getElem? (i := 87) rfl)) rfl
theorem wd_872 : Cond.code yX12_firsts prog_14_method_21_code 4 (some FieldType.int) ∈ lw_gd := mm_gd (in_t4 (List.mem_of_getElem? (i := 88) rfl)) rfl
theorem wd_873 : Cond.methodLink "PieceSurfacesModel" 162 yX12_lines ∈ lw_gd := mm_gd (in_t4 (List.mem_of_getElem? (i := 89) rfl)) rfl
theorem wd_875 : Cond.instanceMethod yX12_lines ∈ lw_gd := mm_gd (in_t4 (List.mem_of_getElem? (i := 91) rfl)) rfl
theorem wd_876 : Cond.code yX12_lines prog_14_method_48_code 1 (some FieldType.int) ∈ lw_gd := mm_gd (in_t4 (List.mem_of_getElem? (i := 92) rfl)) rfl
theorem wd_877 : Cond.methodLink "PieceSurfacesModel" 175 yX12_bents ∈ lw_gd := mm_gd (in_t4 (List.mem_of_getElem? (i := 93) rfl)) rfl
theorem wd_879 : Cond.instanceMethod yX12_bents ∈ lw_gd := mm_gd (in_t4 (List.mem_of_getElem? (i := 95) rfl)) rfl
theorem wd_880 : Cond.code yX12_bents prog_14_method_49_code 1 (some FieldType.int) ∈ lw_gd := mm_gd (in_t4 (List.mem_of_getElem? (i := 96) rfl)) rfl
theorem wd_881 : Cond.methodLink "PieceSurfacesModel" 153 yX12_bentMany ∈ lw_gd := mm_gd (in_t4 (List.mem_of_getElem? (i := 97) rfl)) rfl
theorem wd_883 : Cond.instanceMethod yX12_bentMany ∈ lw_gd := mm_gd (in_t4 (List.mem_of_getElem? (i := 99) rfl)) rfl
theorem wd_884 : Cond.code yX12_bentMany prog_14_method_24_code 3 (some FieldType.int) ∈ lw_gd := mm_gd (in_t4 (List.mem_of_getElem? (i := 100) rfl)) rfl
theorem wd_885 : Cond.methodLink "PieceSurfacesModel" 74 yX12_isBent ∈ lw_gd := mm_gd (in_t4 (List.mem_of_getElem? (i := 101) rfl)) rfl
theorem wd_887 : Cond.instanceMethod yX12_isBent ∈ lw_gd := mm_gd (in_t4 (List.mem_of_getElem? (i := 103) rfl)) rfl
theorem wd_888 : Cond.code yX12_isBent prog_14_method_22_code 4 (some FieldType.boolean) ∈ lw_gd := mm_gd (in_t4 (List.mem_of_getElem? (i := 104) rfl)) rfl
theorem wd_889 : Cond.methodLink "PieceSurfacesModel" 178 yX12_goodMany ∈ lw_gd := mm_gd (in_t4 (List.mem_of_getElem? (i := 105) rfl)) rfl
theorem wd_891 : Cond.instanceMethod yX12_goodMany ∈ lw_gd := mm_gd (in_t4 (List.mem_of_getElem? (i := 107) rfl)) rfl
theorem wd_892 : Cond.code yX12_goodMany prog_14_method_46_code 3 (some FieldType.int) ∈ lw_gd := mm_gd (in_t4 (List.mem_of_getElem? (i := 108) rfl)) rfl
theorem wd_893 : Cond.methodLink "PieceSurfacesModel" 146 yX12_isGood ∈ lw_gd := mm_gd (in_t4 (List.mem_of_getElem? (i := 109) rfl)) rfl
theorem wd_895 : Cond.instanceMethod yX12_isGood ∈ lw_gd := mm_gd (in_t4 (List.mem_of_getElem? (i := 111) rfl)) rfl
theorem wd_896 : Cond.code yX12_isGood prog_14_method_45_code 2 (some FieldType.boolean) ∈ lw_gd := mm_gd (in_t4 (List.mem_of_getElem? (i := 112) rfl)) rfl
theorem wd_897 : Cond.methodLink "PieceSurfacesModel" 142 yX12_layAbout ∈ lw_gd := mm_gd (in_t4 (List.mem_of_getElem? (i := 113) rfl)) rfl
theorem wd_899 : Cond.instanceMethod yX12_layAbout ∈ lw_gd := mm_gd (in_t4 (List.mem_of_getElem? (i := 115) rfl)) rfl
theorem wd_900 : Cond.code yX12_layAbout prog_14_method_44_code 4 none ∈ lw_gd := mm_gd (in_t4 (List.mem_of_getElem? (i := 116) rfl)) rfl
theorem wd_901 : Cond.methodLink "PieceSurfacesModel" 132 yX12_parts ∈ lw_gd := mm_gd (in_t4 (List.mem_of_getElem? (i := 117) rfl)) rfl
theorem wd_903 : Cond.instanceMethod yX12_parts ∈ lw_gd := mm_gd (in_t4 (List.mem_of_getElem? (i := 119) rfl)) rfl
theorem wd_904 : Cond.code yX12_parts prog_14_method_42_code 5 (some FieldType.int) ∈ lw_gd := mm_gd (in_t4 (List.mem_of_getElem? (i := 120) rfl)) rfl
theorem wd_905 : Cond.methodLink "PieceSurfacesModel" 123 yX12_join ∈ lw_gd := mm_gd (in_t4 (List.mem_of_getElem? (i := 121) rfl)) rfl
theorem wd_907 : Cond.instanceMethod yX12_join ∈ lw_gd := mm_gd (in_t4 (List.mem_of_getElem? (i := 123) rfl)) rfl
theorem wd_908 : Cond.code yX12_join prog_14_method_39_code 4 none ∈ lw_gd := mm_gd (in_t4 (List.mem_of_getElem? (i := 124) rfl)) rfl
theorem wd_909 : Cond.methodLink "PieceSurfacesModel" 116 yX12_joinArcs ∈ lw_gd := mm_gd (in_t4 (List.mem_of_getElem? (i := 125) rfl)) rfl
theorem wd_911 : Cond.instanceMethod yX12_joinArcs ∈ lw_gd := mm_gd (in_t4 (List.mem_of_getElem? (i := 127) rfl)) rfl
theorem wd_912 : Cond.code yX12_joinArcs prog_14_method_38_code 12 none ∈ lw_gd := mm_gd (in_t4 (List.mem_of_getElem? (i := 128) rfl)) rfl
theorem wd_913 : Cond.methodLink "PieceSurfacesModel" 83 yX12_arcsOf ∈ lw_gd := mm_gd (in_t4 (List.mem_of_getElem? (i := 129) rfl)) rfl
theorem wd_915 : Cond.instanceMethod yX12_arcsOf ∈ lw_gd := mm_gd (in_t4 (List.mem_of_getElem? (i := 131) rfl)) rfl
theorem wd_916 : Cond.code yX12_arcsOf prog_14_method_26_code 5 (some FieldType.int) ∈ lw_gd := mm_gd (in_t4 (List.mem_of_getElem? (i := 132) rfl)) rfl
theorem wd_917 : Cond.methodLink "PieceSurfacesModel" 77 yX12_four ∈ lw_gd := mm_gd (in_t4 (List.mem_of_getElem? (i := 133) rfl)) rfl
theorem wd_918 : Cond.static yX12_four ∈ lw_gd := mm_gd (in_t4 (List.mem_of_getElem? (i := 134) rfl)) rfl
theorem wd_919 : Cond.code yX12_four prog_14_method_25_code 2 (some FieldType.int) ∈ lw_gd := mm_gd (in_t4 (List.mem_of_getElem? (i := 135) rfl)) rfl
theorem wd_920 : Cond.methodLink "PieceSurfacesModel" 109 yX12_pieceAt ∈ lw_gd := mm_gd (in_t4 (List.mem_of_getElem? (i := 136) rfl)) rfl
theorem wd_922 : Cond.instanceMethod yX12_pieceAt ∈ lw_gd := mm_gd (in_t4 (List.mem_of_getElem? (i := 138) rfl)) rfl
theorem wd_923 : Cond.code yX12_pieceAt prog_14_method_36_code 10 (some FieldType.int) ∈ lw_gd := mm_gd (in_t4 (List.mem_of_getElem? (i := 139) rfl)) rfl
theorem wd_924 : Cond.methodLink "PieceSurfacesModel" 105 yX12_isWithFirst ∈ lw_gd := mm_gd (in_t4 (List.mem_of_getElem? (i := 140) rfl)) rfl
theorem wd_925 : Cond.static yX12_isWithFirst ∈ lw_gd := mm_gd (in_t4 (List.mem_of_getElem? (i := 141) rfl)) rfl
theorem wd_926 : Cond.code yX12_isWithFirst prog_14_method_35_code 2 (some FieldType.boolean) ∈ lw_gd := mm_gd (in_t4 (List.mem_of_getElem? (i := 142) rfl)) rfl
theorem wd_927 : Cond.methodLink "PieceSurfacesModel" 113 yX12_sideTo ∈ lw_gd := mm_gd (in_t4 (List.mem_of_getElem? (i := 143) rfl)) rfl
theorem wd_928 : Cond.static yX12_sideTo ∈ lw_gd := mm_gd (in_t4 (List.mem_of_getElem? (i := 144) rfl)) rfl
theorem wd_929 : Cond.code yX12_sideTo prog_14_method_37_code 3 (some FieldType.int) ∈ lw_gd := mm_gd (in_t4 (List.mem_of_getElem? (i := 145) rfl)) rfl
theorem wd_930 : Cond.methodLink "PieceSurfacesModel" 120 yX12_isThere ∈ lw_gd := mm_gd (in_t4 (List.mem_of_getElem? (i := 146) rfl)) rfl
theorem wd_932 : Cond.instanceMethod yX12_isThere ∈ lw_gd := mm_gd (in_t4 (List.mem_of_getElem? (i := 148) rfl)) rfl
theorem wd_933 : Cond.code yX12_isThere prog_14_method_40_code 3 (some FieldType.boolean) ∈ lw_gd := mm_gd (in_t4 (List.mem_of_getElem? (i := 149) rfl)) rfl
theorem wd_934 : Cond.methodLink "PieceSurfacesModel" 126 yX12_isTwoSided ∈ lw_gd := mm_gd (in_t4 (List.mem_of_getElem? (i := 150) rfl)) rfl
theorem wd_936 : Cond.instanceMethod yX12_isTwoSided ∈ lw_gd := mm_gd (in_t4 (List.mem_of_getElem? (i := 152) rfl)) rfl
theorem wd_937 : Cond.code yX12_isTwoSided prog_14_method_41_code 5 (some FieldType.boolean) ∈ lw_gd := mm_gd (in_t4 (List.mem_of_getElem? (i := 153) rfl)) rfl
theorem wd_938 : Cond.methodLink "PieceSurfacesModel" 139 yX12_euler ∈ lw_gd := mm_gd (in_t4 (List.mem_of_getElem? (i := 154) rfl)) rfl
theorem wd_940 : Cond.instanceMethod yX12_euler ∈ lw_gd := mm_gd (in_t4 (List.mem_of_getElem? (i := 156) rfl)) rfl
theorem wd_941 : Cond.code yX12_euler prog_14_method_34_code 4 (some FieldType.int) ∈ lw_gd := mm_gd (in_t4 (List.mem_of_getElem? (i := 157) rfl)) rfl
theorem wd_942 : Cond.methodLink "PieceSurfacesModel" 99 yX12_allPieces ∈ lw_gd := mm_gd (in_t4 (List.mem_of_getElem? (i := 158) rfl)) rfl
theorem wd_944 : Cond.instanceMethod yX12_allPieces ∈ lw_gd := mm_gd (in_t4 (List.mem_of_getElem? (i := 160) rfl)) rfl
theorem wd_945 : Cond.code yX12_allPieces prog_14_method_31_code 4 (some FieldType.int) ∈ lw_gd := mm_gd (in_t4 (List.mem_of_getElem? (i := 161) rfl)) rfl
theorem wd_946 : Cond.methodLink "PieceSurfacesModel" 102 yX12_weightOf ∈ lw_gd := mm_gd (in_t4 (List.mem_of_getElem? (i := 162) rfl)) rfl
theorem wd_948 : Cond.instanceMethod yX12_weightOf ∈ lw_gd := mm_gd (in_t4 (List.mem_of_getElem? (i := 164) rfl)) rfl
theorem wd_949 : Cond.code yX12_weightOf prog_14_method_27_code 7 (some FieldType.int) ∈ lw_gd := mm_gd (in_t4 (List.mem_of_getElem? (i := 165) rfl)) rfl
theorem wd_950 : Cond.methodLink "PieceSurfacesModel" 56 yX12_lowOf ∈ lw_gd := mm_gd (in_t4 (List.mem_of_getElem? (i := 166) rfl)) rfl
theorem wd_951 : Cond.static yX12_lowOf ∈ lw_gd := mm_gd (in_t4 (List.mem_of_getElem? (i := 167) rfl)) rfl
theorem wd_952 : Cond.code yX12_lowOf prog_14_method_16_code 1 (some FieldType.int) ∈ lw_gd := mm_gd (in_t4 (List.mem_of_getElem? (i := 168) rfl)) rfl
theorem wd_953 : Cond.methodLink "PieceSurfacesModel" 80 yX12_highOf ∈ lw_gd := mm_gd (in_t4 (List.mem_of_getElem? (i := 169) rfl)) rfl
theorem wd_954 : Cond.static yX12_highOf ∈ lw_gd := mm_gd (in_t4 (List.mem_of_getElem? (i := 170) rfl)) rfl
theorem wd_955 : Cond.code yX12_highOf prog_14_method_17_code 1 (some FieldType.int) ∈ lw_gd := mm_gd (in_t4 (List.mem_of_getElem? (i := 171) rfl)) rfl
theorem wd_956 : Cond.methodLink "PieceSurfacesModel" 93 yX12_arcsOfWall ∈ lw_gd := mm_gd (in_t4 (List.mem_of_getElem? (i := 172) rfl)) rfl
theorem wd_958 : Cond.instanceMethod yX12_arcsOfWall ∈ lw_gd := mm_gd (in_t4 (List.mem_of_getElem? (i := 174) rfl)) rfl
theorem wd_959 : Cond.code yX12_arcsOfWall prog_14_method_32_code 5 (some FieldType.int) ∈ lw_gd := mm_gd (in_t4 (List.mem_of_getElem? (i := 175) rfl)) rfl
theorem wd_960 : Cond.methodLink "PieceSurfacesModel" 136 yX12_border ∈ lw_gd := mm_gd (in_t4 (List.mem_of_getElem? (i := 176) rfl)) rfl
theorem wd_962 : Cond.instanceMethod yX12_border ∈ lw_gd := mm_gd (in_t4 (List.mem_of_getElem? (i := 178) rfl)) rfl
theorem wd_963 : Cond.code yX12_border prog_14_method_33_code 4 (some FieldType.int) ∈ lw_gd := mm_gd (in_t4 (List.mem_of_getElem? (i := 179) rfl)) rfl
theorem wd_964 : Cond.methodLink "PieceSurfacesModel" 181 yX12_characteristic ∈ lw_gd := mm_gd (in_t4 (List.mem_of_getElem? (i := 180) rfl)) rfl
theorem wd_966 : Cond.instanceMethod yX12_characteristic ∈ lw_gd := mm_gd (in_t4 (List.mem_of_getElem? (i := 182) rfl)) rfl
theorem wd_967 : Cond.code yX12_characteristic prog_14_method_50_code 2 (some FieldType.int) ∈ lw_gd := mm_gd (in_t4 (List.mem_of_getElem? (i := 183) rfl)) rfl
theorem wd_968 : Cond.methodLink "PieceSurfacesModel" 184 yX12_wrongEntry ∈ lw_gd := mm_gd (in_t4 (List.mem_of_getElem? (i := 184) rfl)) rfl
theorem wd_970 : Cond.instanceMethod yX12_wrongEntry ∈ lw_gd := mm_gd (in_t4 (List.mem_of_getElem? (i := 186) rfl)) rfl
theorem wd_971 : Cond.code yX12_wrongEntry prog_14_method_52_code 3 (some FieldType.int) ∈ lw_gd := mm_gd (in_t4 (List.mem_of_getElem? (i := 187) rfl)) rfl
theorem wd_972 : Cond.methodLink "PieceSurfacesModel" 169 yX12_surfaceAt ∈ lw_gd := mm_gd (in_t4 (List.mem_of_getElem? (i := 188) rfl)) rfl
theorem wd_973 : Cond.static yX12_surfaceAt ∈ lw_gd := mm_gd (in_t4 (List.mem_of_getElem? (i := 189) rfl)) rfl
theorem wd_974 : Cond.code yX12_surfaceAt prog_14_method_8_code 1 (some FieldType.int) ∈ lw_gd := mm_gd (in_t4 (List.mem_of_getElem? (i := 190) rfl)) rfl
theorem wd_975 : Cond.methodLink "PieceSurfacesModel" 172 yX12_isSurface ∈ lw_gd := mm_gd (in_t4 (List.mem_of_getElem? (i := 191) rfl)) rfl
theorem wd_977 : Cond.instanceMethod yX12_isSurface ∈ lw_gd := mm_gd (in_t4 (List.mem_of_getElem? (i := 193) rfl)) rfl
theorem wd_978 : Cond.code yX12_isSurface prog_14_method_7_code 2 (some FieldType.boolean) ∈ lw_gd := mm_gd (in_t4 (List.mem_of_getElem? (i := 194) rfl)) rfl
theorem wd_979 : Cond.methodLink "PieceSurfacesModel" 40 yX12_in ∈ lw_gd := mm_gd (in_t4 (List.mem_of_getElem? (i := 195) rfl)) rfl
theorem wd_980 : Cond.static yX12_in ∈ lw_gd := mm_gd (in_t4 (List.mem_of_getElem? (i := 196) rfl)) rfl
theorem wd_981 : Cond.code yX12_in prog_14_method_2_code 3 (some FieldType.boolean) ∈ lw_gd := mm_gd (in_t4 (List.mem_of_getElem? (i := 197) rfl)) rfl
theorem wd_982 : Cond.methodLink "PieceSurfacesModel" 129 yX12_isWell ∈ lw_gd := mm_gd (in_t4 (List.mem_of_getElem? (i := 198) rfl)) rfl
theorem wd_984 : Cond.instanceMethod yX12_isWell ∈ lw_gd := mm_gd (in_t4 (List.mem_of_getElem? (i := 200) rfl)) rfl
theorem wd_985 : Cond.code yX12_isWell prog_14_method_30_code 2 (some FieldType.boolean) ∈ lw_gd := mm_gd (in_t4 (List.mem_of_getElem? (i := 201) rfl)) rfl
theorem wd_986 : Cond.methodLink "PieceSurfacesModel" 87 yX12_meets ∈ lw_gd := mm_gd (in_t4 (List.mem_of_getElem? (i := 202) rfl)) rfl
theorem wd_988 : Cond.instanceMethod yX12_meets ∈ lw_gd := mm_gd (in_t4 (List.mem_of_getElem? (i := 204) rfl)) rfl
theorem wd_989 : Cond.code yX12_meets prog_14_method_28_code 5 (some FieldType.boolean) ∈ lw_gd := mm_gd (in_t4 (List.mem_of_getElem? (i := 205) rfl)) rfl
theorem wd_990 : Cond.methodLink "PieceSurfacesModel" 90 yX12_crosses ∈ lw_gd := mm_gd (in_t4 (List.mem_of_getElem? (i := 206) rfl)) rfl
theorem wd_992 : Cond.instanceMethod yX12_crosses ∈ lw_gd := mm_gd (in_t4 (List.mem_of_getElem? (i := 208) rfl)) rfl
theorem wd_993 : Cond.code yX12_crosses prog_14_method_29_code 6 (some FieldType.boolean) ∈ lw_gd := mm_gd (in_t4 (List.mem_of_getElem? (i := 209) rfl)) rfl
theorem wd_994 : Cond.constant "PieceSurfacesModel" 190 (Int32.ofInt (-1000000002)) ∈ lw_gd := mm_gd (in_t4 (List.mem_of_getElem? (i := 210) rfl)) rfl
theorem wd_995 : Cond.methodLink "PieceSurfacesLaw" 22 yX12_wall ∈ lw_gd := mm_gd (in_t4 (List.mem_of_getElem? (i := 211) rfl)) rfl
theorem wd_996 : Cond.instanceMethod yX12_wall ∈ lw_gd := mm_gd (in_t4 (List.mem_of_getElem? (i := 212) rfl)) rfl
theorem wd_997 : Cond.selects "PieceSurfacesModel" yX12_wall yX12_wall ∈ lw_gd := mm_gd (in_t4 (List.mem_of_getElem? (i := 213) rfl)) rfl
theorem wd_998 : Cond.code yX12_wall prog_14_method_54_code 5 (some FieldType.int) ∈ lw_gd := mm_gd (in_t4 (List.mem_of_getElem? (i := 214) rfl)) rfl
theorem wd_999 : Cond.methodLink "PieceSurfacesModel" 191 yX12_isBody ∈ lw_gd := mm_gd (in_t4 (List.mem_of_getElem? (i := 215) rfl)) rfl
theorem wd_1001 : Cond.instanceMethod yX12_isBody ∈ lw_gd := mm_gd (in_t4 (List.mem_of_getElem? (i := 217) rfl)) rfl
theorem wd_1002 : Cond.code yX12_isBody prog_14_method_5_code 2 (some FieldType.boolean) ∈ lw_gd := mm_gd (in_t4 (List.mem_of_getElem? (i := 218) rfl)) rfl
theorem wd_1003 : Cond.methodLink "PieceSurfacesModel" 194 yX12_isSide ∈ lw_gd := mm_gd (in_t4 (List.mem_of_getElem? (i := 219) rfl)) rfl
theorem wd_1004 : Cond.static yX12_isSide ∈ lw_gd := mm_gd (in_t4 (List.mem_of_getElem? (i := 220) rfl)) rfl
theorem wd_1005 : Cond.code yX12_isSide prog_14_method_6_code 1 (some FieldType.boolean) ∈ lw_gd := mm_gd (in_t4 (List.mem_of_getElem? (i := 221) rfl)) rfl
theorem wd_1006 : Cond.constant "PieceSurfacesModel" 197 (Int32.ofInt (-1000000001)) ∈ lw_gd := mm_gd (in_t4 (List.mem_of_getElem? (i := 222) rfl)) rfl
theorem wd_1007 : Cond.methodLink "PieceSurfacesLaw" 26 yX12_corner ∈ lw_gd := mm_gd (in_t4 (List.mem_of_getElem? (i := 223) rfl)) rfl
theorem wd_1008 : Cond.instanceMethod yX12_corner ∈ lw_gd := mm_gd (in_t4 (List.mem_of_getElem? (i := 224) rfl)) rfl
theorem wd_1009 : Cond.selects "PieceSurfacesModel" yX12_corner yX12_corner ∈ lw_gd := mm_gd (in_t4 (List.mem_of_getElem? (i := 225) rfl)) rfl
theorem wd_1010 : Cond.code yX12_corner prog_14_method_55_code 5 (some FieldType.int) ∈ lw_gd := mm_gd (in_t4 (List.mem_of_getElem? (i := 226) rfl)) rfl
theorem wd_1011 : Cond.methodLink "PieceSurfacesLaw" 30 yX12_edge ∈ lw_gd := mm_gd (in_t4 (List.mem_of_getElem? (i := 227) rfl)) rfl
theorem wd_1012 : Cond.instanceMethod yX12_edge ∈ lw_gd := mm_gd (in_t4 (List.mem_of_getElem? (i := 228) rfl)) rfl
theorem wd_1013 : Cond.selects "PieceSurfacesModel" yX12_edge yX12_edge ∈ lw_gd := mm_gd (in_t4 (List.mem_of_getElem? (i := 229) rfl)) rfl
theorem wd_1014 : Cond.code yX12_edge prog_14_method_56_code 5 (some FieldType.int) ∈ lw_gd := mm_gd (in_t4 (List.mem_of_getElem? (i := 230) rfl)) rfl
theorem wd_1015 : Cond.methodLink "PieceSurfacesModel" 198 yX12_aroundOf ∈ lw_gd := mm_gd (in_t4 (List.mem_of_getElem? (i := 231) rfl)) rfl
theorem wd_1017 : Cond.instanceMethod yX12_aroundOf ∈ lw_gd := mm_gd (in_t4 (List.mem_of_getElem? (i := 233) rfl)) rfl
theorem wd_1018 : Cond.code yX12_aroundOf prog_14_method_23_code 4 (some FieldType.int) ∈ lw_gd := mm_gd (in_t4 (List.mem_of_getElem? (i := 234) rfl)) rfl
theorem wd_1019 : Cond.methodLink "PieceSurfacesLaw" 34 yX12_pieces ∈ lw_gd := mm_gd (in_t4 (List.mem_of_getElem? (i := 235) rfl)) rfl
theorem wd_1020 : Cond.instanceMethod yX12_pieces ∈ lw_gd := mm_gd (in_t4 (List.mem_of_getElem? (i := 236) rfl)) rfl
theorem wd_1021 : Cond.selects "PieceSurfacesModel" yX12_pieces yX12_pieces ∈ lw_gd := mm_gd (in_t4 (List.mem_of_getElem? (i := 237) rfl)) rfl
theorem wd_1022 : Cond.code yX12_pieces prog_14_method_57_code 4 (some FieldType.int) ∈ lw_gd := mm_gd (in_t4 (List.mem_of_getElem? (i := 238) rfl)) rfl
theorem wd_1023 : Cond.methodLink "PieceSurfacesLaw" 39 yX12_surface ∈ lw_gd := mm_gd (in_t4 (List.mem_of_getElem? (i := 239) rfl)) rfl
theorem wd_1024 : Cond.instanceMethod yX12_surface ∈ lw_gd := mm_gd (in_t5 (List.mem_of_getElem? (i := 0) rfl)) rfl
theorem wd_1025 : Cond.selects "PieceSurfacesModel" yX12_surface yX12_surface ∈ lw_gd := mm_gd (in_t5 (List.mem_of_getElem? (i := 1) rfl)) rfl
theorem wd_1026 : Cond.code yX12_surface prog_14_method_59_code 4 (some FieldType.int) ∈ lw_gd := mm_gd (in_t5 (List.mem_of_getElem? (i := 2) rfl)) rfl
theorem wd_1027 : Cond.methodLink "PieceSurfacesModel" 201 yX12_ofWell ∈ lw_gd := mm_gd (in_t5 (List.mem_of_getElem? (i := 3) rfl)) rfl
theorem wd_1029 : Cond.instanceMethod yX12_ofWell ∈ lw_gd := mm_gd (in_t5 (List.mem_of_getElem? (i := 5) rfl)) rfl
theorem wd_1030 : Cond.code yX12_ofWell prog_14_method_58_code 3 (some FieldType.int) ∈ lw_gd := mm_gd (in_t5 (List.mem_of_getElem? (i := 6) rfl)) rfl
theorem wd_1031 : Cond.methodLink "PieceSurfacesModel" 204 yX12_name ∈ lw_gd := mm_gd (in_t5 (List.mem_of_getElem? (i := 7) rfl)) rfl
theorem wd_1033 : Cond.instanceMethod yX12_name ∈ lw_gd := mm_gd (in_t5 (List.mem_of_getElem? (i := 9) rfl)) rfl
theorem wd_1034 : Cond.code yX12_name prog_14_method_43_code 2 (some FieldType.int) ∈ lw_gd := mm_gd (in_t5 (List.mem_of_getElem? (i := 10) rfl)) rfl
theorem wd_1035 : Cond.methodLink "PieceSurfacesModel" 207 yX12_split ∈ lw_gd := mm_gd (in_t5 (List.mem_of_getElem? (i := 11) rfl)) rfl
theorem wd_1037 : Cond.instanceMethod yX12_split ∈ lw_gd := mm_gd (in_t5 (List.mem_of_getElem? (i := 13) rfl)) rfl
theorem wd_1038 : Cond.code yX12_split prog_14_method_51_code 6 (some FieldType.int) ∈ lw_gd := mm_gd (in_t5 (List.mem_of_getElem? (i := 14) rfl)) rfl
theorem wd_1039 : Cond.methodLink "PieceSurfacesLaw" 43 yX12_weight ∈ lw_gd := mm_gd (in_t5 (List.mem_of_getElem? (i := 15) rfl)) rfl
theorem wd_1040 : Cond.instanceMethod yX12_weight ∈ lw_gd := mm_gd (in_t5 (List.mem_of_getElem? (i := 16) rfl)) rfl
theorem wd_1041 : Cond.selects "PieceSurfacesModel" yX12_weight yX12_weight ∈ lw_gd := mm_gd (in_t5 (List.mem_of_getElem? (i := 17) rfl)) rfl
theorem wd_1042 : Cond.code yX12_weight prog_14_method_60_code 5 (some FieldType.int) ∈ lw_gd := mm_gd (in_t5 (List.mem_of_getElem? (i := 18) rfl)) rfl
theorem wd_1043 : Cond.methodLink "PieceSurfacesLaw" 48 yX12_arcs ∈ lw_gd := mm_gd (in_t5 (List.mem_of_getElem? (i := 19) rfl)) rfl
theorem wd_1044 : Cond.instanceMethod yX12_arcs ∈ lw_gd := mm_gd (in_t5 (List.mem_of_getElem? (i := 20) rfl)) rfl
theorem wd_1045 : Cond.selects "PieceSurfacesModel" yX12_arcs yX12_arcs ∈ lw_gd := mm_gd (in_t5 (List.mem_of_getElem? (i := 21) rfl)) rfl
theorem wd_1046 : Cond.code yX12_arcs prog_14_method_61_code 6 (some FieldType.int) ∈ lw_gd := mm_gd (in_t5 (List.mem_of_getElem? (i := 22) rfl)) rfl
theorem wd_1047 : Cond.methodLink "PieceSurfacesLaw" 52 yX12_bodies ∈ lw_gd := mm_gd (in_t5 (List.mem_of_getElem? (i := 23) rfl)) rfl
theorem wd_1048 : Cond.instanceMethod yX12_bodies ∈ lw_gd := mm_gd (in_t5 (List.mem_of_getElem? (i := 24) rfl)) rfl
theorem wd_1049 : Cond.selects "PieceSurfacesModel" yX12_bodies yX12_bodies ∈ lw_gd := mm_gd (in_t5 (List.mem_of_getElem? (i := 25) rfl)) rfl
theorem wd_1050 : Cond.code yX12_bodies prog_14_method_63_code 3 (some FieldType.int) ∈ lw_gd := mm_gd (in_t5 (List.mem_of_getElem? (i := 26) rfl)) rfl
theorem wd_1051 : Cond.methodLink "PieceSurfacesModel" 213 yX12_remember ∈ lw_gd := mm_gd (in_t5 (List.mem_of_getElem? (i := 27) rfl)) rfl
theorem wd_1053 : Cond.instanceMethod yX12_remember ∈ lw_gd := mm_gd (in_t5 (List.mem_of_getElem? (i := 29) rfl)) rfl
theorem wd_1054 : Cond.code yX12_remember prog_14_method_62_code 2 none ∈ lw_gd := mm_gd (in_t5 (List.mem_of_getElem? (i := 30) rfl)) rfl
theorem wd_1055 : Cond.methodLink "PieceSurfacesModel" 210 yX12_copyRow ∈ lw_gd := mm_gd (in_t5 (List.mem_of_getElem? (i := 31) rfl)) rfl
theorem wd_1057 : Cond.instanceMethod yX12_copyRow ∈ lw_gd := mm_gd (in_t5 (List.mem_of_getElem? (i := 33) rfl)) rfl
theorem wd_1058 : Cond.code yX12_copyRow prog_14_method_3_code 4 none ∈ lw_gd := mm_gd (in_t5 (List.mem_of_getElem? (i := 34) rfl)) rfl
theorem wd_1059 : Cond.methodLink "PieceSurfacesLaw" 57 yX12_glue ∈ lw_gd := mm_gd (in_t5 (List.mem_of_getElem? (i := 35) rfl)) rfl
theorem wd_1060 : Cond.instanceMethod yX12_glue ∈ lw_gd := mm_gd (in_t5 (List.mem_of_getElem? (i := 36) rfl)) rfl
theorem wd_1061 : Cond.selects "PieceSurfacesModel" yX12_glue yX12_glue ∈ lw_gd := mm_gd (in_t5 (List.mem_of_getElem? (i := 37) rfl)) rfl
theorem wd_1062 : Cond.code yX12_glue prog_14_method_66_code 6 (some FieldType.int) ∈ lw_gd := mm_gd (in_t5 (List.mem_of_getElem? (i := 38) rfl)) rfl
theorem wd_1063 : Cond.methodLink "PieceSurfacesModel" 219 yX12_mayGlue ∈ lw_gd := mm_gd (in_t5 (List.mem_of_getElem? (i := 39) rfl)) rfl
theorem wd_1065 : Cond.instanceMethod yX12_mayGlue ∈ lw_gd := mm_gd (in_t5 (List.mem_of_getElem? (i := 41) rfl)) rfl
theorem wd_1066 : Cond.code yX12_mayGlue prog_14_method_64_code 3 (some FieldType.boolean) ∈ lw_gd := mm_gd (in_t5 (List.mem_of_getElem? (i := 42) rfl)) rfl
theorem wd_1067 : Cond.constant "PieceSurfacesModel" 222 (Int32.ofInt (-1000000003)) ∈ lw_gd := mm_gd (in_t5 (List.mem_of_getElem? (i := 43) rfl)) rfl
theorem wd_1068 : Cond.methodLink "PieceSurfacesModel" 223 yX12_glueTo ∈ lw_gd := mm_gd (in_t5 (List.mem_of_getElem? (i := 44) rfl)) rfl
theorem wd_1070 : Cond.instanceMethod yX12_glueTo ∈ lw_gd := mm_gd (in_t5 (List.mem_of_getElem? (i := 46) rfl)) rfl
theorem wd_1071 : Cond.code yX12_glueTo prog_14_method_65_code 4 none ∈ lw_gd := mm_gd (in_t5 (List.mem_of_getElem? (i := 47) rfl)) rfl
theorem wd_1072 : Cond.methodLink "PieceSurfacesModel" 216 yX12_turnedBack ∈ lw_gd := mm_gd (in_t5 (List.mem_of_getElem? (i := 48) rfl)) rfl
theorem wd_1073 : Cond.static yX12_turnedBack ∈ lw_gd := mm_gd (in_t5 (List.mem_of_getElem? (i := 49) rfl)) rfl
theorem wd_1074 : Cond.code yX12_turnedBack prog_14_method_10_code 1 (some FieldType.int) ∈ lw_gd := mm_gd (in_t5 (List.mem_of_getElem? (i := 50) rfl)) rfl
theorem wd_1075 : Cond.methodLink "PieceSurfacesLaw" 61 yX12_free ∈ lw_gd := mm_gd (in_t5 (List.mem_of_getElem? (i := 51) rfl)) rfl
theorem wd_1076 : Cond.instanceMethod yX12_free ∈ lw_gd := mm_gd (in_t5 (List.mem_of_getElem? (i := 52) rfl)) rfl
theorem wd_1077 : Cond.selects "PieceSurfacesModel" yX12_free yX12_free ∈ lw_gd := mm_gd (in_t5 (List.mem_of_getElem? (i := 53) rfl)) rfl
theorem wd_1078 : Cond.code yX12_free prog_14_method_67_code 5 (some FieldType.int) ∈ lw_gd := mm_gd (in_t5 (List.mem_of_getElem? (i := 54) rfl)) rfl
theorem wd_1079 : Cond.methodLink "PieceSurfacesLaw" 66 yX12_put ∈ lw_gd := mm_gd (in_t5 (List.mem_of_getElem? (i := 55) rfl)) rfl
theorem wd_1080 : Cond.instanceMethod yX12_put ∈ lw_gd := mm_gd (in_t5 (List.mem_of_getElem? (i := 56) rfl)) rfl
theorem wd_1081 : Cond.selects "PieceSurfacesModel" yX12_put yX12_put ∈ lw_gd := mm_gd (in_t5 (List.mem_of_getElem? (i := 57) rfl)) rfl
theorem wd_1082 : Cond.code yX12_put prog_14_method_69_code 2 (some FieldType.int) ∈ lw_gd := mm_gd (in_t5 (List.mem_of_getElem? (i := 58) rfl)) rfl
theorem wd_1083 : Cond.constant "PieceSurfacesModel" 226 (Int32.ofInt (-1000000004)) ∈ lw_gd := mm_gd (in_t5 (List.mem_of_getElem? (i := 59) rfl)) rfl
theorem wd_1084 : Cond.methodLink "PieceSurfacesModel" 227 yX12_newSurface ∈ lw_gd := mm_gd (in_t5 (List.mem_of_getElem? (i := 60) rfl)) rfl
theorem wd_1086 : Cond.instanceMethod yX12_newSurface ∈ lw_gd := mm_gd (in_t5 (List.mem_of_getElem? (i := 62) rfl)) rfl
theorem wd_1087 : Cond.code yX12_newSurface prog_14_method_68_code 3 (some FieldType.int) ∈ lw_gd := mm_gd (in_t5 (List.mem_of_getElem? (i := 63) rfl)) rfl
theorem wd_1088 : Cond.methodLink "PieceSurfacesLaw" 70 yX12_piece ∈ lw_gd := mm_gd (in_t5 (List.mem_of_getElem? (i := 64) rfl)) rfl
theorem wd_1089 : Cond.instanceMethod yX12_piece ∈ lw_gd := mm_gd (in_t5 (List.mem_of_getElem? (i := 65) rfl)) rfl
theorem wd_1090 : Cond.selects "PieceSurfacesModel" yX12_piece yX12_piece ∈ lw_gd := mm_gd (in_t5 (List.mem_of_getElem? (i := 66) rfl)) rfl
theorem wd_1091 : Cond.code yX12_piece prog_14_method_70_code 7 (some FieldType.int) ∈ lw_gd := mm_gd (in_t5 (List.mem_of_getElem? (i := 67) rfl)) rfl
theorem wd_1092 : Cond.methodLink "PieceSurfacesLaw" 74 yX12_about ∈ lw_gd := mm_gd (in_t5 (List.mem_of_getElem? (i := 68) rfl)) rfl
theorem wd_1093 : Cond.instanceMethod yX12_about ∈ lw_gd := mm_gd (in_t5 (List.mem_of_getElem? (i := 69) rfl)) rfl
theorem wd_1094 : Cond.selects "PieceSurfacesModel" yX12_about yX12_about ∈ lw_gd := mm_gd (in_t5 (List.mem_of_getElem? (i := 70) rfl)) rfl
theorem wd_1095 : Cond.code yX12_about prog_14_method_71_code 4 (some FieldType.int) ∈ lw_gd := mm_gd (in_t5 (List.mem_of_getElem? (i := 71) rfl)) rfl
theorem wd_1096 : Cond.methodLink "PieceSurfacesLaw" 78 yX12_add ∈ lw_gd := mm_gd (in_t5 (List.mem_of_getElem? (i := 72) rfl)) rfl
theorem wd_1097 : Cond.instanceMethod yX12_add ∈ lw_gd := mm_gd (in_t5 (List.mem_of_getElem? (i := 73) rfl)) rfl
theorem wd_1098 : Cond.selects "PieceSurfacesModel" yX12_add yX12_add ∈ lw_gd := mm_gd (in_t5 (List.mem_of_getElem? (i := 74) rfl)) rfl
theorem wd_1099 : Cond.code yX12_add prog_14_method_72_code 6 (some FieldType.int) ∈ lw_gd := mm_gd (in_t5 (List.mem_of_getElem? (i := 75) rfl)) rfl
theorem wd_1100 : Cond.methodLink "PieceSurfacesLaw" 82 yX12_take ∈ lw_gd := mm_gd (in_t5 (List.mem_of_getElem? (i := 76) rfl)) rfl
theorem wd_1101 : Cond.instanceMethod yX12_take ∈ lw_gd := mm_gd (in_t5 (List.mem_of_getElem? (i := 77) rfl)) rfl
theorem wd_1102 : Cond.selects "PieceSurfacesModel" yX12_take yX12_take ∈ lw_gd := mm_gd (in_t5 (List.mem_of_getElem? (i := 78) rfl)) rfl
theorem wd_1103 : Cond.code yX12_take prog_14_method_73_code 3 (some FieldType.int) ∈ lw_gd := mm_gd (in_t5 (List.mem_of_getElem? (i := 79) rfl)) rfl
theorem wd_1104 : Cond.methodLink "PieceSurfacesLaw" 86 yX12_drift ∈ lw_gd := mm_gd (in_t5 (List.mem_of_getElem? (i := 80) rfl)) rfl
theorem wd_1105 : Cond.instanceMethod yX12_drift ∈ lw_gd := mm_gd (in_t5 (List.mem_of_getElem? (i := 81) rfl)) rfl
theorem wd_1106 : Cond.selects "PieceSurfacesModel" yX12_drift yX12_drift ∈ lw_gd := mm_gd (in_t5 (List.mem_of_getElem? (i := 82) rfl)) rfl
theorem wd_1107 : Cond.code yX12_drift prog_14_method_76_code 3 (some FieldType.int) ∈ lw_gd := mm_gd (in_t5 (List.mem_of_getElem? (i := 83) rfl)) rfl
theorem wd_1108 : Cond.methodLink "PieceSurfacesModel" 243 yX12_chance ∈ lw_gd := mm_gd (in_t5 (List.mem_of_getElem? (i := 84) rfl)) rfl
theorem wd_1110 : Cond.instanceMethod yX12_chance ∈ lw_gd := mm_gd (in_t5 (List.mem_of_getElem? (i := 86) rfl)) rfl
theorem wd_1111 : Cond.code yX12_chance prog_14_method_75_code 6 none ∈ lw_gd := mm_gd (in_t5 (List.mem_of_getElem? (i := 87) rfl)) rfl
theorem wd_1112 : Cond.methodLink "PieceSurfacesModel" 240 yX12_draw ∈ lw_gd := mm_gd (in_t5 (List.mem_of_getElem? (i := 88) rfl)) rfl
theorem wd_1114 : Cond.instanceMethod yX12_draw ∈ lw_gd := mm_gd (in_t5 (List.mem_of_getElem? (i := 90) rfl)) rfl
theorem wd_1115 : Cond.code yX12_draw prog_14_method_74_code 4 (some FieldType.int) ∈ lw_gd := mm_gd (in_t5 (List.mem_of_getElem? (i := 91) rfl)) rfl
theorem wd_1119 : Cond.constant "PieceSurfacesModel" 239 (Int32.ofInt (65536)) ∈ lw_gd := mm_gd (in_t5 (List.mem_of_getElem? (i := 95) rfl)) rfl
theorem wd_1120 : Cond.methodLink "PieceSurfacesLaw" 90 yX12_undo ∈ lw_gd := mm_gd (in_t5 (List.mem_of_getElem? (i := 96) rfl)) rfl
theorem wd_1121 : Cond.instanceMethod yX12_undo ∈ lw_gd := mm_gd (in_t5 (List.mem_of_getElem? (i := 97) rfl)) rfl
theorem wd_1122 : Cond.selects "PieceSurfacesModel" yX12_undo yX12_undo ∈ lw_gd := mm_gd (in_t5 (List.mem_of_getElem? (i := 98) rfl)) rfl
theorem wd_1123 : Cond.code yX12_undo prog_14_method_77_code 2 (some FieldType.int) ∈ lw_gd := mm_gd (in_t5 (List.mem_of_getElem? (i := 99) rfl)) rfl
theorem wd_1124 : Cond.methodLink "PieceSurfacesLaw" 94 yX12_write ∈ lw_gd := mm_gd (in_t5 (List.mem_of_getElem? (i := 100) rfl)) rfl
theorem wd_1125 : Cond.instanceMethod yX12_write ∈ lw_gd := mm_gd (in_t5 (List.mem_of_getElem? (i := 101) rfl)) rfl
theorem wd_1126 : Cond.selects "PieceSurfacesModel" yX12_write yX12_write ∈ lw_gd := mm_gd (in_t5 (List.mem_of_getElem? (i := 102) rfl)) rfl
theorem wd_1127 : Cond.code yX12_write prog_14_method_78_code 3 (some FieldType.int) ∈ lw_gd := mm_gd (in_t5 (List.mem_of_getElem? (i := 103) rfl)) rfl
theorem wd_1128 : Cond.methodLink "PieceSurfacesLaw" 98 yX12_tear ∈ lw_gd := mm_gd (in_t5 (List.mem_of_getElem? (i := 104) rfl)) rfl
theorem wd_1129 : Cond.instanceMethod yX12_tear ∈ lw_gd := mm_gd (in_t5 (List.mem_of_getElem? (i := 105) rfl)) rfl
theorem wd_1130 : Cond.selects "PieceSurfacesModel" yX12_tear yX12_tear ∈ lw_gd := mm_gd (in_t5 (List.mem_of_getElem? (i := 106) rfl)) rfl
theorem wd_1131 : Cond.code yX12_tear prog_14_method_79_code 2 (some FieldType.int) ∈ lw_gd := mm_gd (in_t5 (List.mem_of_getElem? (i := 107) rfl)) rfl
theorem wd_1132 : Cond.methodLink "PieceSurfacesLaw" 102 yX12_seed ∈ lw_gd := mm_gd (in_t5 (List.mem_of_getElem? (i := 108) rfl)) rfl
theorem wd_1133 : Cond.instanceMethod yX12_seed ∈ lw_gd := mm_gd (in_t5 (List.mem_of_getElem? (i := 109) rfl)) rfl
theorem wd_1134 : Cond.selects "PieceSurfacesModel" yX12_seed yX12_seed ∈ lw_gd := mm_gd (in_t5 (List.mem_of_getElem? (i := 110) rfl)) rfl
theorem wd_1135 : Cond.code yX12_seed prog_14_method_80_code 3 (some FieldType.int) ∈ lw_gd := mm_gd (in_t5 (List.mem_of_getElem? (i := 111) rfl)) rfl
theorem wd_1136 : Cond.methodLink "PieceSurfacesLaw" 106 yX12_keep ∈ lw_gd := mm_gd (in_t5 (List.mem_of_getElem? (i := 112) rfl)) rfl
theorem wd_1137 : Cond.instanceMethod yX12_keep ∈ lw_gd := mm_gd (in_t5 (List.mem_of_getElem? (i := 113) rfl)) rfl
theorem wd_1138 : Cond.selects "PieceSurfacesModel" yX12_keep yX12_keep ∈ lw_gd := mm_gd (in_t5 (List.mem_of_getElem? (i := 114) rfl)) rfl
theorem wd_1139 : Cond.code yX12_keep prog_14_method_81_code 2 (some FieldType.int) ∈ lw_gd := mm_gd (in_t5 (List.mem_of_getElem? (i := 115) rfl)) rfl
theorem wd_1140 : Cond.methodLink "PieceSurfacesLaw" 110 yX12_goBack ∈ lw_gd := mm_gd (in_t5 (List.mem_of_getElem? (i := 116) rfl)) rfl
theorem wd_1141 : Cond.instanceMethod yX12_goBack ∈ lw_gd := mm_gd (in_t5 (List.mem_of_getElem? (i := 117) rfl)) rfl
theorem wd_1142 : Cond.selects "PieceSurfacesModel" yX12_goBack yX12_goBack ∈ lw_gd := mm_gd (in_t5 (List.mem_of_getElem? (i := 118) rfl)) rfl
theorem wd_1143 : Cond.code yX12_goBack prog_14_method_82_code 2 (some FieldType.int) ∈ lw_gd := mm_gd (in_t5 (List.mem_of_getElem? (i := 119) rfl)) rfl
end
section
/-! what the cells refer to, once all is made -/
def mm_Rs (a j : Nat) : Option Nat := match (mm_sh a).1 with
  | 0 => if j = 0 then some (a + 1) else some (a + 2)
  | 1 => some (a + 1)
  | 3 => some (a + 1)
  | 4 => some (a + 1)
  | 5 => some (a + 1)
  | 6 => some (a + 1)
  | 7 => some (if j < 3 then a + 1 + 2 * j else a + 4 + j)
  | 8 => [some 2, some 18, some 29, some 31, some 33, some 35, some 36, some 38, some 40].getD j none
  | 9 => some (a + (j - 1))
  | 10 => [some 2, some 18, some 1, some 41, some 299, some 302, some 303].getD j none
  | 11 => [some 339, none, none, none, some 340, some 341, some 342, none, some 343, some 344, some 345, some 346, some 347].getD j none
  | 101 => some (a + 1 + 2 * j)
  | 102 => some (a + 1 + 16 * j)
  | 103 => some (a + 1 + 17 * j)
  | _ => none
abbrev mm_R0 : (Nat → Nat → Option Nat) × Nat := (mm_Rs, 348)
theorem mm_tbin (t : Nat) : ∀ j, mm_in (mm_tb t j) := by
  intro j
  have h : ∀ z ∈ mm_tl t, mm_in z := by
    intro z hz
    unfold mm_tl at hz
    split at hz <;> simp at hz <;> constructor <;> omega
  unfold mm_tb
  rw [List.getD_eq_getElem?_getD]
  cases h1 : (mm_tl t)[j]? with
  | none => exact mm_in0
  | some z => exact h z (List.mem_of_getElem? h1)
theorem sh_lt {a kd : Nat} (h : (mm_sh a).1 = kd) (hk : kd < 900) : a < 348 := by
  by_cases q : a < 348
  · exact q
  · unfold mm_sh at h
    rw [List.getD_eq_getElem?_getD, List.getElem?_eq_none (by rw [mm_shlen]; omega)] at h
    simp at h
    omega
/-- a Classes object and its row -/
theorem sh_cl : ∀ a, a < 348 → (mm_sh a).1 = 1 → (mm_sh (a + 1)).1 = 100 ∧ a + 1 < 348 := by decide +kernel
theorem sh_sheet : ∀ a, a < 348 → (mm_sh a).1 = 6 → mm_sh (a + 1) = (100, 21) ∧ a + 1 < 348 := by decide +kernel
theorem sh_world : ∀ a, a < 348 → (mm_sh a).1 = 9 → a + 15 < 348 ∧ mm_sh (a + 1) = (100, 12) ∧ mm_sh (a + 2) = (100, 12) ∧ mm_sh (a + 3) = (101, 6) ∧ ∀ s, s < 6 → mm_sh (a + 4 + 2 * s) = (6, 1) ∧ mm_sh (a + 5 + 2 * s) = (100, 21) := by decide +kernel
theorem Rs_cl {a j : Nat} (h : (mm_sh a).1 = 1) : mm_Rs a j = some (a + 1) := by unfold mm_Rs; rw [h]; rfl
theorem Rs_sheet {a j : Nat} (h : (mm_sh a).1 = 6) : mm_Rs a j = some (a + 1) := by unfold mm_Rs; rw [h]; rfl
theorem Rs_world {a j : Nat} (h : (mm_sh a).1 = 9) : mm_Rs a j = some (a + (j - 1)) := by unfold mm_Rs; rw [h]; rfl
theorem Rs_sheets {a j : Nat} (h : (mm_sh a).1 = 101) : mm_Rs a j = some (a + 1 + 2 * j) := by unfold mm_Rs; rw [h]; rfl
/-! forests: each thing points to itself or to a smaller one -/
def rt (f : Nat → Nat) (i : Nat) : Nat := if h : f i < i then rt f (f i) else i
termination_by i
theorem rt_step {f : Nat → Nat} {i : Nat} (h : f i < i) : rt f i = rt f (f i) := by rw [rt, dif_pos h]
theorem rt_top {f : Nat → Nat} {i : Nat} (h : ¬ f i < i) : rt f i = i := by rw [rt, dif_neg h]
theorem rt_le (f : Nat → Nat) (i : Nat) : rt f i ≤ i := by
  induction i using Nat.strongRecOn with
  | ind i ih =>
    by_cases h : f i < i
    · rw [rt_step h]; exact Nat.le_trans (ih _ h) (Nat.le_of_lt h)
    · rw [rt_top h]; exact Nat.le_refl _
theorem rt_root (f : Nat → Nat) (i : Nat) : ¬ f (rt f i) < rt f i := by
  induction i using Nat.strongRecOn with
  | ind i ih =>
    by_cases h : f i < i
    · rw [rt_step h]; exact ih _ h
    · rw [rt_top h]; exact h
theorem rt_rt (f : Nat → Nat) (i : Nat) : rt f (rt f i) = rt f i := rt_top (rt_root f i)
theorem rt_up {f : Nat → Nat} {i : Nat} (h : f i ≤ i) : rt f (f i) = rt f i := by
  by_cases h1 : f i < i
  · rw [rt_step h1]
  · rw [show f i = i by omega]
/-- pointing a thing to another one of its class, below it, changes no root -/
theorem rt_half {f g : Nat → Nat} {a : Nat} (hg : ∀ x, x ≠ a → g x = f x) (h1 : f a < a) (h2 : g a < a) (h3 : rt f (g a) = rt f a) (x : Nat) : rt g x = rt f x := by
  induction x using Nat.strongRecOn with
  | ind x ih =>
    by_cases e : x = a
    · subst e
      rw [rt_step h2, ih _ h2, h3]
    · by_cases h : f x < x
      · rw [rt_step h, rt_step (f := g) (by rw [hg x e]; exact h), hg x e, ih _ h]
      · rw [rt_top h, rt_top (f := g) (by rw [hg x e]; exact h)]
theorem rt_self {f g : Nat → Nat} {a : Nat} (hg : ∀ x, x ≠ a → g x = f x) (h1 : ¬ f a < a) (h2 : ¬ g a < a) (x : Nat) : rt g x = rt f x := by
  induction x using Nat.strongRecOn with
  | ind x ih =>
    by_cases e : x = a
    · subst e
      rw [rt_top h1, rt_top h2]
    · by_cases h : f x < x
      · rw [rt_step h, rt_step (f := g) (by rw [hg x e]; exact h), hg x e, ih _ h]
      · rw [rt_top h, rt_top (f := g) (by rw [hg x e]; exact h)]
def mg (L : Nat → Nat) (p q : Nat) : Nat → Nat := fun k => if L k = max (L p) (L q) then min (L p) (L q) else L k
/-- pointing a root to another, smaller one: their classes become one -/
theorem rt_link {f g : Nat → Nat} {a b : Nat} (hg : ∀ x, x ≠ b → g x = f x) (hab : a < b) (hb : g b = a) (ha : ¬ f a < a) (hbr : ¬ f b < b) (x : Nat) : rt g x = if rt f x = b then a else rt f x := by
  induction x using Nat.strongRecOn with
  | ind x ih =>
    by_cases e : x = b
    · subst e
      rw [rt_top hbr, if_pos rfl, rt_step (f := g) (by rw [hb]; exact hab), hb, rt_top (f := g) (by rw [hg a (by omega)]; exact ha)]
    · by_cases h : f x < x
      · rw [rt_step h, rt_step (f := g) (by rw [hg x e]; exact h), hg x e, ih _ h]
      · rw [rt_top h, rt_top (f := g) (by rw [hg x e]; exact h), if_neg e]
def fi (I : Nat → Nat → Int) (u : Nat) : Nat → Nat := fun j => (I u j).toNat
def ufi (I : Nat → Nat → Int) (u n : Nat) : Prop := ∀ i, i < n → 0 ≤ I u i ∧ I u i ≤ i
/-! sums and counts -/
def sm (f : Nat → Int) : Nat → Int
  | 0 => 0
  | k + 1 => sm f k + f k
theorem sm_congr {f g : Nat → Int} {n : Nat} (h : ∀ k, k < n → f k = g k) : sm f n = sm g n := by
  induction n with
  | zero => rfl
  | succ n ih => unfold sm; rw [ih (fun k hk => h k (by omega)), h n (by omega)]
theorem sm_bound {f : Nat → Int} {n : Nat} {c : Int} (h : ∀ k, k < n → 0 ≤ f k ∧ f k ≤ c) : 0 ≤ sm f n ∧ sm f n ≤ c * n := by
  induction n with
  | zero => simp [sm]
  | succ n ih =>
    have h1 := ih (fun k hk => h k (by omega))
    have h2 := h n (by omega)
    have h3 : c * ((n + 1 : Nat) : Int) = c * n + c := by rw [Int.natCast_add, Int.mul_add]; simp
    unfold sm
    rw [h3]
    omega
def b01 (p : Prop) [Decidable p] : Int := if p then 1 else 0
/-- how many things below n are their own labels -/
def nr (L : Nat → Nat) (n : Nat) : Int := sm (fun k => if L k = k then 1 else 0) n
theorem nr_b (L : Nat → Nat) (n : Nat) : 0 ≤ nr L n ∧ nr L n ≤ n := by
  have := sm_bound (f := fun k => if L k = k then (1 : Int) else 0) (n := n) (c := 1) (fun k _ => by split <;> omega)
  unfold nr
  omega
end
section
/-! PieceSurfaces$Classes -/
def T_X1_least : mm_T := fun av σ Post => match av with
  | [.inr (some a), .inl x] => σ.2 = mm_R0 ∧ (mm_sh a).1 = 1 ∧ 0 ≤ x ∧ x < σ.1 a 1 ∧ σ.1 a 1 ≤ (mm_sh (a + 1)).2 ∧ ufi σ.1 (a + 1) (σ.1 a 1).toNat ∧
    ∀ I' : Nat → Nat → Int, (∀ b, b ≠ a + 1 → I' b = σ.1 b) → ufi I' (a + 1) (σ.1 a 1).toNat → (∀ y, y < (σ.1 a 1).toNat → rt (fi I' (a + 1)) y = rt (fi σ.1 (a + 1)) y) → Post (some (.inl (rt (fi σ.1 (a + 1)) x.toNat))) (I', mm_R0)
  | _ => False
def rm_X1_least : Room := { frames := 0, cells := 0, slots := 0, locals := 0 }
def b_X1_least_0 (Ok : Nat → mm_K) (Post : Option mm_V → mm_S → Prop) (kf : Nat) : mm_K := i_ld 1 (i_st 2 (i_c 0 (i_st 3 (Ok 4))))
def b_X1_least_4 (Ok : Nat → mm_K) (Post : Option mm_V → mm_S → Prop) (kf : Nat) : mm_K := i_ld 3 (i_la 0 (i_gi 1 1 (i_if2 (fun x y => y ≤ x) (Ok 52) (i_la 0 (i_gr 1 0 (i_ld 2 (i_ial (i_ld 2 (i_if2 (fun x y => x = y) (Ok 52) (i_la 0 (i_gr 1 0 (i_ld 2 (i_la 0 (i_gr 1 0 (i_la 0 (i_gr 1 0 (i_ld 2 (i_ial (i_ial (i_ias (i_la 0 (i_gr 1 0 (i_ld 2 (i_ial (i_st 2 (i_inc 3 1 (Ok 4)))))))))))))))))))))))))))
def b_X1_least_52 (Ok : Nat → mm_K) (Post : Option mm_V → mm_S → Prop) (kf : Nat) : mm_K := i_ld 2 (i_ir Post kf)
def clo_X1_least (Ok : Nat → mm_K) (Post : Option mm_V → mm_S → Prop) (kf : Nat) : Prop := mm_imp (b_X1_least_0 Ok Post kf) (Ok 0) ∧ mm_imp (b_X1_least_4 Ok Post kf) (Ok 4) ∧ mm_imp (b_X1_least_52 Ok Post kf) (Ok 52)
set_option maxRecDepth 100000 in
set_option maxHeartbeats 4000000 in
theorem bk_X1_least {p : Program} {l : Launch} {e : Env} {s : State} {m : MethodId} {args : Array Value} {below : List Frame} {meth : Method} {c : Code} {G : mm_G} {σ0 : mm_S} {Post : Option mm_V → mm_S → Prop} (hC : mm_C p G s m args meth c cX1_least yX1_least.cls) (hr : meth.sig.returnType = some .int) : clo_X1_least (mm_O p l e rm_X1_least s m args below meth c G σ0.2.2 (MQ below (mm_Qc G σ0 rm_X1_least.cells rm_X1_least.slots Post) args s rm_X1_least.cells rm_X1_least.slots (mm_A G))) Post σ0.2.2 := ⟨(by unfold b_X1_least_0; exact (mm_ld_n hC dX1_least_0 rfl (mm_st_n hC dX1_least_1 rfl (mm_ic hC dX1_least_2 ⟨by decide, by decide⟩ (mm_st_n hC dX1_least_3 rfl (fun _ _ _ h => h)))))), (by unfold b_X1_least_4; exact (mm_ld_n hC dX1_least_4 rfl (mm_la_n hC dX1_least_5 rfl (mm_gi hC cl_1 (by decide) rfl wd_159 dX1_least_6 (mm_ic_ge hC (t := 52) dX1_least_9 (by decide) (fun _ _ _ h => h) (mm_la_n hC dX1_least_12 rfl (mm_gr hC cl_1 (by decide) rfl wd_158 dX1_least_13 (mm_ld_n hC dX1_least_16 rfl (mm_ial hC dX1_least_17 (mm_ld_n hC dX1_least_18 rfl (mm_ic_eq hC (t := 52) dX1_least_19 (by decide) (fun _ _ _ h => h) (mm_la_n hC dX1_least_22 rfl (mm_gr hC cl_1 (by decide) rfl wd_158 dX1_least_23 (mm_ld_n hC dX1_least_26 rfl (mm_la_n hC dX1_least_27 rfl (mm_gr hC cl_1 (by decide) rfl wd_158 dX1_least_28 (mm_la_n hC dX1_least_31 rfl (mm_gr hC cl_1 (by decide) rfl wd_158 dX1_least_32 (mm_ld_n hC dX1_least_35 rfl (mm_ial hC dX1_least_36 (mm_ial hC dX1_least_37 (mm_ias hC dX1_least_38 (mm_la_n hC dX1_least_39 rfl (mm_gr hC cl_1 (by decide) rfl wd_158 dX1_least_40 (mm_ld_n hC dX1_least_43 rfl (mm_ial hC dX1_least_44 (mm_st_n hC dX1_least_45 rfl (mm_inc hC dX1_least_46 (mm_goto hC (t := 4) dX1_least_49 (by decide) (fun _ _ _ h => h)))))))))))))))))))))))))))))), (by unfold b_X1_least_52; exact (mm_ld_n hC dX1_least_52 rfl (mm_ir hC ⟨rfl, rfl⟩ hr dX1_least_53)))⟩
set_option maxHeartbeats 4000000 in
theorem pv_X1_least : ∀ (av : List mm_V) (σ : mm_S) (Post : Option mm_V → mm_S → Prop), (∀ v ∈ av, mm_iv v) → (∀ a j, mm_in (σ.1 a j)) → σ.2.2 ≤ 348 → T_X1_least av σ Post → ∀ Ok : Nat → mm_K, clo_X1_least Ok Post σ.2.2 → Ok 0 (av ++ List.replicate (4 - av.length) (.inr none)) [] σ := by
  intro av σ Post hav hin hk hT Ok hcl
  obtain ⟨I, R0⟩ := σ
  unfold T_X1_least at hT
  split at hT
  · rename_i a x
    obtain ⟨h0, h1, h2, h3, h4, h5, hP⟩ := hT
    have h0 : R0 = mm_R0 := h0
    subst h0
    obtain ⟨c0, c4, c52⟩ := hcl
    have ha := sh_lt h1 (by decide)
    obtain ⟨hs1, hs2⟩ := sh_cl a ha h1
    have hR : ∀ j, mm_Rs a j = some (a + 1) := fun j => Rs_cl h1
    have h3 : x < I a 1 := h3
    have h4 : I a 1 ≤ (mm_sh (a + 1)).2 := h4
    have h5 : ufi I (a + 1) (I a 1).toNat := h5
    have loop : ∀ (n : Nat) (t i : Nat) (I' : Nat → Nat → Int), t ≤ n → t + i ≤ x.toNat → (∀ b, b ≠ a + 1 → I' b = I b) → ufi I' (a + 1) (I a 1).toNat → (∀ y, y < (I a 1).toNat → rt (fi I' (a + 1)) y = rt (fi I (a + 1)) y) → rt (fi I (a + 1)) t = rt (fi I (a + 1)) x.toNat → Ok 4 [.inr (some a), .inl x, .inl (t : Int), .inl (i : Int)] [] (I', mm_R0) := by
      intro n
      induction n using Nat.strongRecOn with
      | ind n ih =>
        intro t i I' ht hti hI hu hr hrt
        have hIa : I' a = I a := hI a (by omega)
        have htn : t < (I a 1).toNat := by omega
        have hut := hu t htn
        have hin2 : -2147483648 ≤ I a 1 ∧ I a 1 < 2147483648 := hin a 1
        refine c4 _ _ _ ?_
        simp only [b_X1_least_4, i_ld, i_la, i_st, i_sa, i_c, i_inc, i_add, i_sub, i_mul, i_div, i_rem, i_remT, i_xor, i_dup, i_dup2, i_if, i_if2, i_sw, i_gi, i_gr, i_pi, i_pz, i_ial, i_ias, i_len, i_aal, i_gs, i_tal, i_cv, i_cs, i_ir, i_zr, i_vr, i_min, i_max, i_cpy, List.getElem?_cons_zero, List.getElem?_cons_succ, List.set_cons_zero, List.set_cons_succ, List.length_cons, List.length_nil, List.drop_succ_cons, List.drop_zero, List.take_succ_cons, List.take_zero, List.reverse_cons, List.reverse_nil, List.nil_append, List.cons_append, Option.toList_some, Option.toList_none, true_and, and_true, Nat.reduceAdd, Nat.reduceLT, Nat.reduceLeDiff, Option.some.injEq, exists_eq_left', Int.toNat_natCast, Nat.reduceSub, List.append_nil, List.replicate_succ, List.replicate_zero, ha, h1, hs1, hs2, hR, hIa]
        refine fun _ => ⟨fun q => ?_, fun q => ⟨⟨by omega, by omega⟩, fun _ => ⟨fun e => ?_, fun e => ?_⟩⟩⟩
        · omega
        · refine c52 _ _ _ ?_
          simp only [b_X1_least_52, i_ld, i_la, i_st, i_sa, i_c, i_inc, i_add, i_sub, i_mul, i_div, i_rem, i_remT, i_xor, i_dup, i_dup2, i_if, i_if2, i_sw, i_gi, i_gr, i_pi, i_pz, i_ial, i_ias, i_len, i_aal, i_gs, i_tal, i_cv, i_cs, i_ir, i_zr, i_vr, i_min, i_max, i_cpy, List.getElem?_cons_zero, List.getElem?_cons_succ, List.set_cons_zero, List.set_cons_succ, List.length_cons, List.length_nil, List.drop_succ_cons, List.drop_zero, List.take_succ_cons, List.take_zero, List.reverse_cons, List.reverse_nil, List.nil_append, List.cons_append, Option.toList_some, Option.toList_none, true_and, and_true, Nat.reduceAdd, Nat.reduceLT, Nat.reduceLeDiff, Option.some.injEq, exists_eq_left', Int.toNat_natCast, Nat.reduceSub, List.append_nil, List.replicate_succ, List.replicate_zero]
          have hroot : rt (fi I (a + 1)) x.toNat = t := by
            rw [← hrt, ← hr t htn]
            exact rt_top (by unfold fi; omega)
          have := hP I' hI hu hr
          rw [show ((rt (fi I (a + 1)) x.toNat : Nat) : Int) = (t : Int) by rw [hroot]] at this
          exact this
        · obtain ⟨f, hf⟩ := Int.eq_ofNat_of_zero_le hut.1
          have hfl : f < t := by omega
          have huf := hu f (by omega)
          obtain ⟨g, hg⟩ := Int.eq_ofNat_of_zero_le huf.1
          simp only [hf, Int.toNat_natCast]
          refine ⟨⟨by omega, by omega⟩, fun _ => ⟨⟨by omega, by omega⟩, fun _ => ⟨⟨by omega, by omega⟩, ⟨by omega, by omega⟩, fun _ => ⟨⟨by omega, by omega⟩, ?_⟩⟩⟩⟩
          rw [hg]
          have hset : mm_set I' (a + 1) t (g : Int) (a + 1) t = (g : Int) := by simp [mm_set]
          rw [hset]
          have hrow : ∀ y, y ≠ t → fi (mm_set I' (a + 1) t (g : Int)) (a + 1) y = fi I' (a + 1) y := fun y hy => by simp [fi, mm_set, hy]
          have hat : fi (mm_set I' (a + 1) t (g : Int)) (a + 1) t = g := by simp [fi, mm_set]
          have hf1 : fi I' (a + 1) t = f := by simp [fi, hf]
          have hf2 : fi I' (a + 1) f = g := by simp [fi, hg]
          have hrr : ∀ y, rt (fi (mm_set I' (a + 1) t (g : Int)) (a + 1)) y = rt (fi I' (a + 1)) y := by
            intro y
            refine rt_half hrow (by omega) (by omega) ?_ y
            rw [hat, ← hf2, rt_up (by omega), ← hf1, rt_up (by omega)]
          refine ih g (by omega) g (i + 1) _ (Nat.le_refl _) (by omega) (fun b hb => ?_) (fun y hy => ?_) (fun y hy => by rw [hrr, hr y hy]) ?_
          · rw [← hI b hb]; funext j; simp [mm_set, hb]
          · by_cases e2 : y = t
            · subst e2
              rw [hset]; omega
            · have := hu y hy
              simp only [mm_set, e2, and_false, if_false]
              exact this
          · rw [← hr g (by omega), ← hf2, rt_up (by omega), ← hf1, rt_up (by omega), hr t htn, hrt]
    refine c0 _ _ _ ?_
    simp only [b_X1_least_0, i_ld, i_la, i_st, i_sa, i_c, i_inc, i_add, i_sub, i_mul, i_div, i_rem, i_remT, i_xor, i_dup, i_dup2, i_if, i_if2, i_sw, i_gi, i_gr, i_pi, i_pz, i_ial, i_ias, i_len, i_aal, i_gs, i_tal, i_cv, i_cs, i_ir, i_zr, i_vr, i_min, i_max, i_cpy, List.getElem?_cons_zero, List.getElem?_cons_succ, List.set_cons_zero, List.set_cons_succ, List.length_cons, List.length_nil, List.drop_succ_cons, List.drop_zero, List.take_succ_cons, List.take_zero, List.reverse_cons, List.reverse_nil, List.nil_append, List.cons_append, Option.toList_some, Option.toList_none, true_and, and_true, Nat.reduceAdd, Nat.reduceLT, Nat.reduceLeDiff, Option.some.injEq, exists_eq_left', Int.toNat_natCast, Nat.reduceSub, List.append_nil, List.replicate_succ, List.replicate_zero]
    obtain ⟨y, rfl⟩ := Int.eq_ofNat_of_zero_le h2
    exact loop y y 0 I (Nat.le_refl _) (by simp) (fun _ _ => rfl) h5 (fun _ _ => rfl) rfl
  · exact hT.elim
theorem sp_X1_least : mm_Sp yX1_least cX1_least 4 (some .int) rm_X1_least T_X1_least := mm_meth (by decide) (by
  intro av σ Post h
  unfold T_X1_least at h
  split at h
  · simp
  · exact h.elim) (fun p l e s m args below meth c G av σ Post hC hr _ hav hin hk hT => pv_X1_least av σ Post hav hin hk hT _ (bk_X1_least hC hr))

def T_X1_begin : mm_T := fun av σ Post => match av with
  | [.inr (some a), .inl x] => σ.2 = mm_R0 ∧ (mm_sh a).1 = 1 ∧ 0 ≤ x ∧ x ≤ (mm_sh (a + 1)).2 ∧
    ∀ I' : Nat → Nat → Int, (∀ b, b ≠ a → b ≠ a + 1 → I' b = σ.1 b) → I' a 1 = x → (∀ i : Nat, (i : Int) < x → I' (a + 1) i = i) → Post none (I', mm_R0)
  | _ => False
def rm_X1_begin : Room := { frames := 1, cells := 0, slots := 0, locals := 17 }
def b_X1_begin_0 (Ok : Nat → mm_K) (Post : Option mm_V → mm_S → Prop) (kf : Nat) : mm_K := i_la 0 (i_ld 1 (i_la 0 (i_gr 1 0 (i_len (i_min (i_pi 1 1 (i_c 0 (i_st 2 (Ok 15)))))))))
def b_X1_begin_15 (Ok : Nat → mm_K) (Post : Option mm_V → mm_S → Prop) (kf : Nat) : mm_K := i_ld 2 (i_la 0 (i_gi 1 1 (i_if2 (fun x y => y ≤ x) (i_vr Post kf) (i_la 0 (i_gr 1 0 (i_ld 2 (i_ld 2 (i_ias (i_inc 2 1 (Ok 15))))))))))
def clo_X1_begin (Ok : Nat → mm_K) (Post : Option mm_V → mm_S → Prop) (kf : Nat) : Prop := mm_imp (b_X1_begin_0 Ok Post kf) (Ok 0) ∧ mm_imp (b_X1_begin_15 Ok Post kf) (Ok 15)
set_option maxRecDepth 100000 in
set_option maxHeartbeats 4000000 in
theorem bk_X1_begin {p : Program} {l : Launch} {e : Env} {s : State} {m : MethodId} {args : Array Value} {below : List Frame} {meth : Method} {c : Code} {G : mm_G} {σ0 : mm_S} {Post : Option mm_V → mm_S → Prop} (hC : mm_C p G s m args meth c cX1_begin yX1_begin.cls) (hr : meth.sig.returnType = none) : clo_X1_begin (mm_O p l e rm_X1_begin s m args below meth c G σ0.2.2 (MQ below (mm_Qc G σ0 rm_X1_begin.cells rm_X1_begin.slots Post) args s rm_X1_begin.cells rm_X1_begin.slots (mm_A G))) Post σ0.2.2 := ⟨(by unfold b_X1_begin_0; exact (mm_la_n hC dX1_begin_0 rfl (mm_ld_n hC dX1_begin_1 rfl (mm_la_n hC dX1_begin_2 rfl (mm_gr hC cl_1 (by decide) rfl wd_158 dX1_begin_3 (mm_len hC dX1_begin_6 (mm_min hC wd_370 wd_371 wd_78 wd_372 ⟨by decide, by decide⟩ dX1_begin_7 (mm_pi hC cl_1 (by decide) rfl rfl rfl wd_159 dX1_begin_10 (mm_ic hC dX1_begin_13 ⟨by decide, by decide⟩ (mm_st_n hC dX1_begin_14 rfl (fun _ _ _ h => h))))))))))), (by unfold b_X1_begin_15; exact (mm_ld_n hC dX1_begin_15 rfl (mm_la_n hC dX1_begin_16 rfl (mm_gi hC cl_1 (by decide) rfl wd_159 dX1_begin_17 (mm_ic_ge hC (t := 36) dX1_begin_20 (by decide) (mm_vr hC ⟨rfl, rfl⟩ hr dX1_begin_36) (mm_la_n hC dX1_begin_23 rfl (mm_gr hC cl_1 (by decide) rfl wd_158 dX1_begin_24 (mm_ld_n hC dX1_begin_27 rfl (mm_ld_n hC dX1_begin_28 rfl (mm_ias hC dX1_begin_29 (mm_inc hC dX1_begin_30 (mm_goto hC (t := 15) dX1_begin_33 (by decide) (fun _ _ _ h => h)))))))))))))⟩
set_option maxRecDepth 100000 in
set_option maxHeartbeats 8000000 in
theorem pv_X1_begin : ∀ (av : List mm_V) (σ : mm_S) (Post : Option mm_V → mm_S → Prop), (∀ v ∈ av, mm_iv v) → (∀ a j, mm_in (σ.1 a j)) → σ.2.2 ≤ 348 → T_X1_begin av σ Post → ∀ Ok : Nat → mm_K, clo_X1_begin Ok Post σ.2.2 → Ok 0 (av ++ List.replicate (3 - av.length) (.inr none)) [] σ := by
  intro av σ Post hav hin hk hT Ok hcl
  obtain ⟨I, R0⟩ := σ
  unfold T_X1_begin at hT
  split at hT
  · rename_i a x
    obtain ⟨h0, hT⟩ := hT
    have h0 : R0 = mm_R0 := h0
    subst h0
    dsimp only at hT hin
    obtain ⟨c0, c15⟩ := hcl
    obtain ⟨h1, h2, h3, hP⟩ := hT
    have ha := sh_lt h1 (by decide)
    obtain ⟨hs1, hs2⟩ := sh_cl a ha h1
    have hR : ∀ j, mm_Rs a j = some (a + 1) := fun j => Rs_cl h1
    have hle := (mm_shOk (a + 1) hs2).1
    have loop : ∀ (d i : Nat) (I' : Nat → Nat → Int), (i : Int) + d = x → (∀ b, b ≠ a → b ≠ a + 1 → I' b = I b) → I' a 1 = x → (∀ j : Nat, j < i → I' (a + 1) j = j) → Ok 15 [.inr (some a), .inl x, .inl (i : Int)] [] (I', mm_R0) := by
      intro d
      induction d with
      | zero =>
        intro i I' hd hI hx hi
        refine c15 _ _ _ ?_
        simp only [b_X1_begin_15, i_ld, i_la, i_st, i_sa, i_c, i_inc, i_add, i_sub, i_mul, i_div, i_rem, i_remT, i_xor, i_dup, i_dup2, i_if, i_if2, i_sw, i_gi, i_gr, i_pi, i_pz, i_ial, i_ias, i_len, i_aal, i_gs, i_tal, i_cv, i_cs, i_ir, i_zr, i_vr, i_min, i_max, i_cpy, List.getElem?_cons_zero, List.getElem?_cons_succ, List.set_cons_zero, List.set_cons_succ, List.length_cons, List.length_nil, List.drop_succ_cons, List.drop_zero, List.take_succ_cons, List.take_zero, List.reverse_cons, List.reverse_nil, List.nil_append, List.cons_append, Option.toList_some, Option.toList_none, true_and, and_true, Nat.reduceAdd, Nat.reduceLT, Nat.reduceLeDiff, Option.some.injEq, exists_eq_left', Int.toNat_natCast, Nat.reduceSub, List.append_nil, List.replicate_succ, List.replicate_zero, ha, h1, hs1, hs2, hR, hx]
        refine fun _ => ⟨fun q => ?_, fun q => ?_⟩
        · exact hP I' hI hx (fun j hj => hi j (by omega))
        · omega
      | succ d ih =>
        intro i I' hd hI hx hi
        refine c15 _ _ _ ?_
        simp only [b_X1_begin_15, i_ld, i_la, i_st, i_sa, i_c, i_inc, i_add, i_sub, i_mul, i_div, i_rem, i_remT, i_xor, i_dup, i_dup2, i_if, i_if2, i_sw, i_gi, i_gr, i_pi, i_pz, i_ial, i_ias, i_len, i_aal, i_gs, i_tal, i_cv, i_cs, i_ir, i_zr, i_vr, i_min, i_max, i_cpy, List.getElem?_cons_zero, List.getElem?_cons_succ, List.set_cons_zero, List.set_cons_succ, List.length_cons, List.length_nil, List.drop_succ_cons, List.drop_zero, List.take_succ_cons, List.take_zero, List.reverse_cons, List.reverse_nil, List.nil_append, List.cons_append, Option.toList_some, Option.toList_none, true_and, and_true, Nat.reduceAdd, Nat.reduceLT, Nat.reduceLeDiff, Option.some.injEq, exists_eq_left', Int.toNat_natCast, Nat.reduceSub, List.append_nil, List.replicate_succ, List.replicate_zero, ha, h1, hs1, hs2, hR, hx]
        refine fun _ => ⟨fun q => ?_, fun q => ?_⟩
        · omega
        · refine ⟨⟨by omega, by omega⟩, ⟨by omega, by omega⟩, ?_⟩
          refine ih (i + 1) _ (by omega) (fun b h1 h2 => ?_) ?_ (fun j hj => ?_)
          · rw [← hI b h1 h2]; funext j; simp [mm_set, h2]
          · simp [mm_set, hx]
          · by_cases e : j = i
            · subst e; simp [mm_set]
            · simp [mm_set, e]; exact hi j (by omega)
    refine c0 _ _ _ ?_
    simp only [b_X1_begin_0, i_ld, i_la, i_st, i_sa, i_c, i_inc, i_add, i_sub, i_mul, i_div, i_rem, i_remT, i_xor, i_dup, i_dup2, i_if, i_if2, i_sw, i_gi, i_gr, i_pi, i_pz, i_ial, i_ias, i_len, i_aal, i_gs, i_tal, i_cv, i_cs, i_ir, i_zr, i_vr, i_min, i_max, i_cpy, List.getElem?_cons_zero, List.getElem?_cons_succ, List.set_cons_zero, List.set_cons_succ, List.length_cons, List.length_nil, List.drop_succ_cons, List.drop_zero, List.take_succ_cons, List.take_zero, List.reverse_cons, List.reverse_nil, List.nil_append, List.cons_append, Option.toList_some, Option.toList_none, true_and, and_true, Nat.reduceAdd, Nat.reduceLT, Nat.reduceLeDiff, Option.some.injEq, exists_eq_left', Int.toNat_natCast, Nat.reduceSub, List.append_nil, List.replicate_succ, List.replicate_zero, ha, h1, hs1, hs2, hR]
    have hmin : (if ((mm_sh (a + 1)).2 : Int) < x then ((mm_sh (a + 1)).2 : Int) else x) = x := if_neg (by omega)
    rw [hmin]
    obtain ⟨y, rfl⟩ := Int.eq_ofNat_of_zero_le h2
    refine loop y 0 _ (by omega) (fun b h1 h2 => ?_) ?_ (fun j hj => by omega)
    · funext j; simp [mm_set, h1]
    · simp [mm_set]
  · exact hT.elim
theorem sp_X1_begin : mm_Sp yX1_begin cX1_begin 3 none rm_X1_begin T_X1_begin := mm_meth (by decide) (by
  intro av σ Post h
  unfold T_X1_begin at h
  split at h
  · simp
  · exact h.elim) (fun p l e s m args below meth c G av σ Post hC hr _ hav hin hk hT => pv_X1_begin av σ Post hav hin hk hT _ (bk_X1_begin hC hr))
def T_X1_join : mm_T := fun av σ Post => match av with
  | [.inr (some a), .inl x, .inl y] => σ.2 = mm_R0 ∧ (mm_sh a).1 = 1 ∧ 0 ≤ x ∧ x < σ.1 a 1 ∧ 0 ≤ y ∧ y < σ.1 a 1 ∧ σ.1 a 1 ≤ (mm_sh (a + 1)).2 ∧ ufi σ.1 (a + 1) (σ.1 a 1).toNat ∧
    ∀ I' : Nat → Nat → Int, (∀ b, b ≠ a + 1 → I' b = σ.1 b) → ufi I' (a + 1) (σ.1 a 1).toNat → (∀ k, k < (σ.1 a 1).toNat → rt (fi I' (a + 1)) k = mg (rt (fi σ.1 (a + 1))) x.toNat y.toNat k) → Post none (I', mm_R0)
  | _ => False
def rm_X1_join : Room := { frames := 1, cells := 0, slots := 0, locals := 23 }
def b_X1_join_0 (Ok : Nat → mm_K) (Post : Option mm_V → mm_S → Prop) (kf : Nat) : mm_K := i_la 0 (i_ld 1 (i_cv 1 1 T_X1_least (i_st 3 (i_la 0 (i_ld 2 (i_cv 1 1 T_X1_least (i_st 4 (i_ld 3 (i_ld 4 (i_if2 (fun x y => y ≤ x) (i_la 0 (i_gr 1 0 (i_ld 3 (i_ld 4 (i_ias (Ok 38)))))) (i_la 0 (i_gr 1 0 (i_ld 4 (i_ld 3 (i_ias (Ok 38))))))))))))))))
def b_X1_join_38 (Ok : Nat → mm_K) (Post : Option mm_V → mm_S → Prop) (kf : Nat) : mm_K := i_vr Post kf
def clo_X1_join (Ok : Nat → mm_K) (Post : Option mm_V → mm_S → Prop) (kf : Nat) : Prop := mm_imp (b_X1_join_0 Ok Post kf) (Ok 0) ∧ mm_imp (b_X1_join_38 Ok Post kf) (Ok 38)
set_option maxRecDepth 100000 in
set_option maxHeartbeats 4000000 in
theorem bk_X1_join {p : Program} {l : Launch} {e : Env} {s : State} {m : MethodId} {args : Array Value} {below : List Frame} {meth : Method} {c : Code} {G : mm_G} {σ0 : mm_S} {Post : Option mm_V → mm_S → Prop} (hC : mm_C p G s m args meth c cX1_join yX1_join.cls) (hr : meth.sig.returnType = none) : clo_X1_join (mm_O p l e rm_X1_join s m args below meth c G σ0.2.2 (MQ below (mm_Qc G σ0 rm_X1_join.cells rm_X1_join.slots Post) args s rm_X1_join.cells rm_X1_join.slots (mm_A G))) Post σ0.2.2 := ⟨(by unfold b_X1_join_0; exact (mm_la_n hC dX1_join_0 rfl (mm_ld_n hC dX1_join_1 rfl (mm_cv hC sp_X1_least ⟨rfl, rfl⟩ cl_1 wd_392 wd_393 wd_394 wd_395 wd_71 ⟨by decide, by decide, by decide +kernel⟩ ⟨by decide, by decide⟩ dX1_join_2 (mm_st_n hC dX1_join_5 rfl (mm_la_n hC dX1_join_6 rfl (mm_ld_n hC dX1_join_7 rfl (mm_cv hC sp_X1_least ⟨rfl, rfl⟩ cl_1 wd_392 wd_393 wd_394 wd_395 wd_71 ⟨by decide, by decide, by decide +kernel⟩ ⟨by decide, by decide⟩ dX1_join_8 (mm_st hC dX1_join_11 (mm_ld_n hC dX1_join_13 rfl (mm_ld hC dX1_join_14 (mm_ic_ge hC (t := 30) dX1_join_16 (by decide) (mm_la_n hC dX1_join_30 rfl (mm_gr hC cl_1 (by decide) rfl wd_158 dX1_join_31 (mm_ld_n hC dX1_join_34 rfl (mm_ld hC dX1_join_35 (mm_ias hC dX1_join_37 (fun _ _ _ h => h)))))) (mm_la_n hC dX1_join_19 rfl (mm_gr hC cl_1 (by decide) rfl wd_158 dX1_join_20 (mm_ld hC dX1_join_23 (mm_ld_n hC dX1_join_25 rfl (mm_ias hC dX1_join_26 (mm_goto hC (t := 38) dX1_join_27 (by decide) (fun _ _ _ h => h))))))))))))))))))), (by unfold b_X1_join_38; exact (mm_vr hC ⟨rfl, rfl⟩ hr dX1_join_38))⟩
set_option maxRecDepth 100000 in
set_option maxHeartbeats 8000000 in
theorem pv_X1_join : ∀ (av : List mm_V) (σ : mm_S) (Post : Option mm_V → mm_S → Prop), (∀ v ∈ av, mm_iv v) → (∀ a j, mm_in (σ.1 a j)) → σ.2.2 ≤ 348 → T_X1_join av σ Post → ∀ Ok : Nat → mm_K, clo_X1_join Ok Post σ.2.2 → Ok 0 (av ++ List.replicate (5 - av.length) (.inr none)) [] σ := by
  intro av σ Post hav hin hk hT Ok hcl
  obtain ⟨I, R0⟩ := σ
  unfold T_X1_join at hT
  split at hT
  · rename_i a x y
    obtain ⟨h0, hT⟩ := hT
    have h0 : R0 = mm_R0 := h0
    subst h0
    dsimp only at hT hin
    obtain ⟨c0, c38⟩ := hcl
    obtain ⟨h1, h2, h3, h4, h5, h6, h7, hP⟩ := hT
    have ha := sh_lt h1 (by decide)
    obtain ⟨hs1, hs2⟩ := sh_cl a ha h1
    have hR : ∀ j, mm_Rs a j = some (a + 1) := fun j => Rs_cl h1
    refine c0 _ _ _ ?_
    simp only [b_X1_join_0, i_ld, i_la, i_st, i_sa, i_c, i_inc, i_add, i_sub, i_mul, i_div, i_rem, i_remT, i_xor, i_dup, i_dup2, i_if, i_if2, i_sw, i_gi, i_gr, i_pi, i_pz, i_ial, i_ias, i_len, i_aal, i_gs, i_tal, i_cv, i_cs, i_ir, i_zr, i_vr, i_min, i_max, i_cpy, List.getElem?_cons_zero, List.getElem?_cons_succ, List.set_cons_zero, List.set_cons_succ, List.length_cons, List.length_nil, List.drop_succ_cons, List.drop_zero, List.take_succ_cons, List.take_zero, List.reverse_cons, List.reverse_nil, List.nil_append, List.cons_append, Option.toList_some, Option.toList_none, true_and, and_true, Nat.reduceAdd, Nat.reduceLT, Nat.reduceLeDiff, Option.some.injEq, exists_eq_left', Int.toNat_natCast, Nat.reduceSub, List.append_nil, List.replicate_succ, List.replicate_zero, ha, h1, hs1, hs2, hR, T_X1_least, h2, h3, h6, h7]
    intro I1 f1 u1 r1
    have e1 : I1 a = I a := f1 a (by omega)
    rw [e1]
    refine ⟨h4, h5, h6, u1, ?_⟩
    intro I2 f2 u2 r2
    obtain ⟨X, hX⟩ : ∃ X, rt (fi I (a + 1)) x.toNat = X := ⟨_, rfl⟩
    obtain ⟨Y, hY⟩ : ∃ Y, rt (fi I (a + 1)) y.toNat = Y := ⟨_, rfl⟩
    have hY1 : rt (fi I1 (a + 1)) y.toNat = Y := by rw [r1 _ (by omega), hY]
    have r2' : ∀ k, k < (I a 1).toNat → rt (fi I2 (a + 1)) k = rt (fi I (a + 1)) k := fun k hk => by rw [r2 k hk, r1 k hk]
    have hXl : X ≤ x.toNat := by rw [← hX]; exact rt_le _ _
    have hYl : Y ≤ y.toNat := by rw [← hY]; exact rt_le _ _
    have hXn : X < (I a 1).toNat := by omega
    have hYn : Y < (I a 1).toNat := by omega
    have hXr : ¬ fi I2 (a + 1) X < X := by
      have := rt_root (fi I2 (a + 1)) x.toNat
      rw [r2' _ (by omega), hX] at this
      exact this
    have hYr : ¬ fi I2 (a + 1) Y < Y := by
      have := rt_root (fi I2 (a + 1)) y.toNat
      rw [r2' _ (by omega), hY] at this
      exact this
    have e2 : I2 a = I a := by rw [f2 a (by omega), e1]
    have fin : ∀ A B : Nat, A < (I a 1).toNat → B < (I a 1).toNat → A ≤ B → (A = X ∧ B = Y ∨ A = Y ∧ B = X) → ∀ I', I' = mm_set I2 (a + 1) B (A : Int) → Post none (I', mm_R0) := by
      intro A B hA hB hAB hxy I' hI'
      subst hI'
      have hAr : ¬ fi I2 (a + 1) A < A := by rcases hxy with ⟨p, q⟩ | ⟨p, q⟩ <;> rw [p] <;> assumption
      have hBr : ¬ fi I2 (a + 1) B < B := by rcases hxy with ⟨p, q⟩ | ⟨p, q⟩ <;> rw [q] <;> assumption
      refine hP _ (fun b hb => ?_) (fun k hk => ?_) (fun k hk => ?_)
      · rw [← f1 b hb, ← f2 b hb]; funext j; simp [mm_set, hb]
      · by_cases e : k = B
        · subst e; simp [mm_set]; omega
        · simp [mm_set, e]; exact u2 k hk
      · have hmg : mg (rt (fi I (a + 1))) x.toNat y.toNat k = if rt (fi I (a + 1)) k = B then A else rt (fi I (a + 1)) k := by
          unfold mg
          rw [hX, hY]
          rcases hxy with ⟨p, q⟩ | ⟨p, q⟩
          · rw [Nat.max_eq_right (by omega), Nat.min_eq_left (by omega), p, q]
          · rw [Nat.max_eq_left (by omega), Nat.min_eq_right (by omega), p, q]
        rw [hmg, ← r2' k hk]
        by_cases hlt : A < B
        · exact rt_link (fun z hz => by simp [fi, mm_set, hz]) hlt (by simp [fi, mm_set]) hAr hBr k
        · have hAB2 : A = B := by omega
          subst hAB2
          have hrt : rt (fi (mm_set I2 (a + 1) A (A : Int)) (a + 1)) k = rt (fi I2 (a + 1)) k := rt_self (fun z hz => by simp [fi, mm_set, hz]) hAr (by simp [fi, mm_set]) k
          rw [hrt]
          split
          · assumption
          · rfl
    rw [hX, hY1]
    refine ⟨fun q => ⟨⟨by omega, by omega⟩, ?_⟩, fun q => ⟨⟨by omega, by omega⟩, ?_⟩⟩
    · refine c38 _ _ _ ?_
      simp only [b_X1_join_38, i_ld, i_la, i_st, i_sa, i_c, i_inc, i_add, i_sub, i_mul, i_div, i_rem, i_remT, i_xor, i_dup, i_dup2, i_if, i_if2, i_sw, i_gi, i_gr, i_pi, i_pz, i_ial, i_ias, i_len, i_aal, i_gs, i_tal, i_cv, i_cs, i_ir, i_zr, i_vr, i_min, i_max, i_cpy, List.getElem?_cons_zero, List.getElem?_cons_succ, List.set_cons_zero, List.set_cons_succ, List.length_cons, List.length_nil, List.drop_succ_cons, List.drop_zero, List.take_succ_cons, List.take_zero, List.reverse_cons, List.reverse_nil, List.nil_append, List.cons_append, Option.toList_some, Option.toList_none, true_and, and_true, Nat.reduceAdd, Nat.reduceLT, Nat.reduceLeDiff, Option.some.injEq, exists_eq_left', Int.toNat_natCast, Nat.reduceSub, List.append_nil, List.replicate_succ, List.replicate_zero]
      exact fin Y X hYn hXn (by omega) (Or.inr ⟨rfl, rfl⟩) _ rfl
    · refine c38 _ _ _ ?_
      simp only [b_X1_join_38, i_ld, i_la, i_st, i_sa, i_c, i_inc, i_add, i_sub, i_mul, i_div, i_rem, i_remT, i_xor, i_dup, i_dup2, i_if, i_if2, i_sw, i_gi, i_gr, i_pi, i_pz, i_ial, i_ias, i_len, i_aal, i_gs, i_tal, i_cv, i_cs, i_ir, i_zr, i_vr, i_min, i_max, i_cpy, List.getElem?_cons_zero, List.getElem?_cons_succ, List.set_cons_zero, List.set_cons_succ, List.length_cons, List.length_nil, List.drop_succ_cons, List.drop_zero, List.take_succ_cons, List.take_zero, List.reverse_cons, List.reverse_nil, List.nil_append, List.cons_append, Option.toList_some, Option.toList_none, true_and, and_true, Nat.reduceAdd, Nat.reduceLT, Nat.reduceLeDiff, Option.some.injEq, exists_eq_left', Int.toNat_natCast, Nat.reduceSub, List.append_nil, List.replicate_succ, List.replicate_zero]
      exact fin X Y hXn hYn (by omega) (Or.inl ⟨rfl, rfl⟩) _ rfl
  · exact hT.elim
theorem sp_X1_join : mm_Sp yX1_join cX1_join 5 none rm_X1_join T_X1_join := mm_meth (by decide) (by
  intro av σ Post h
  unfold T_X1_join at h
  split at h
  · simp
  · exact h.elim) (fun p l e s m args below meth c G av σ Post hC hr _ hav hin hk hT => pv_X1_join av σ Post hav hin hk hT _ (bk_X1_join hC hr))

def T_X1_countClasses : mm_T := fun av σ Post => match av with
  | [.inr (some a)] => σ.2 = mm_R0 ∧ (mm_sh a).1 = 1 ∧ 0 ≤ σ.1 a 1 ∧ σ.1 a 1 ≤ (mm_sh (a + 1)).2 ∧ ufi σ.1 (a + 1) (σ.1 a 1).toNat ∧ Post (some (.inl (nr (rt (fi σ.1 (a + 1))) (σ.1 a 1).toNat))) σ
  | _ => False
def rm_X1_countClasses : Room := { frames := 0, cells := 0, slots := 0, locals := 0 }
def b_X1_countClasses_0 (Ok : Nat → mm_K) (Post : Option mm_V → mm_S → Prop) (kf : Nat) : mm_K := i_c 0 (i_st 1 (i_c 0 (i_st 2 (Ok 4))))
def b_X1_countClasses_4 (Ok : Nat → mm_K) (Post : Option mm_V → mm_S → Prop) (kf : Nat) : mm_K := i_ld 2 (i_la 0 (i_gi 1 1 (i_if2 (fun x y => y ≤ x) (i_ld 1 (i_ir Post kf)) (i_ld 1 (i_la 0 (i_gr 1 0 (i_ld 2 (i_ial (i_ld 2 (i_if2 (fun x y => ¬ x = y) (i_c 0 (Ok 28)) (i_c 1 (Ok 28))))))))))))
def b_X1_countClasses_28 (Ok : Nat → mm_K) (Post : Option mm_V → mm_S → Prop) (kf : Nat) : mm_K := i_add (i_st 1 (i_inc 2 1 (Ok 4)))
def clo_X1_countClasses (Ok : Nat → mm_K) (Post : Option mm_V → mm_S → Prop) (kf : Nat) : Prop := mm_imp (b_X1_countClasses_0 Ok Post kf) (Ok 0) ∧ mm_imp (b_X1_countClasses_4 Ok Post kf) (Ok 4) ∧ mm_imp (b_X1_countClasses_28 Ok Post kf) (Ok 28)
set_option maxRecDepth 100000 in
set_option maxHeartbeats 4000000 in
theorem bk_X1_countClasses {p : Program} {l : Launch} {e : Env} {s : State} {m : MethodId} {args : Array Value} {below : List Frame} {meth : Method} {c : Code} {G : mm_G} {σ0 : mm_S} {Post : Option mm_V → mm_S → Prop} (hC : mm_C p G s m args meth c cX1_countClasses yX1_countClasses.cls) (hr : meth.sig.returnType = some .int) : clo_X1_countClasses (mm_O p l e rm_X1_countClasses s m args below meth c G σ0.2.2 (MQ below (mm_Qc G σ0 rm_X1_countClasses.cells rm_X1_countClasses.slots Post) args s rm_X1_countClasses.cells rm_X1_countClasses.slots (mm_A G))) Post σ0.2.2 := ⟨(by unfold b_X1_countClasses_0; exact (mm_ic hC dX1_countClasses_0 ⟨by decide, by decide⟩ (mm_st_n hC dX1_countClasses_1 rfl (mm_ic hC dX1_countClasses_2 ⟨by decide, by decide⟩ (mm_st_n hC dX1_countClasses_3 rfl (fun _ _ _ h => h)))))), (by unfold b_X1_countClasses_4; exact (mm_ld_n hC dX1_countClasses_4 rfl (mm_la_n hC dX1_countClasses_5 rfl (mm_gi hC cl_1 (by decide) rfl wd_159 dX1_countClasses_6 (mm_ic_ge hC (t := 36) dX1_countClasses_9 (by decide) (mm_ld_n hC dX1_countClasses_36 rfl (mm_ir hC ⟨rfl, rfl⟩ hr dX1_countClasses_37)) (mm_ld_n hC dX1_countClasses_12 rfl (mm_la_n hC dX1_countClasses_13 rfl (mm_gr hC cl_1 (by decide) rfl wd_158 dX1_countClasses_14 (mm_ld_n hC dX1_countClasses_17 rfl (mm_ial hC dX1_countClasses_18 (mm_ld_n hC dX1_countClasses_19 rfl (mm_ic_ne hC (t := 27) dX1_countClasses_20 (by decide) (mm_ic hC dX1_countClasses_27 ⟨by decide, by decide⟩ (fun _ _ _ h => h)) (mm_ic hC dX1_countClasses_23 ⟨by decide, by decide⟩ (mm_goto hC (t := 28) dX1_countClasses_24 (by decide) (fun _ _ _ h => h))))))))))))))), (by unfold b_X1_countClasses_28; exact (mm_add hC dX1_countClasses_28 (mm_st_n hC dX1_countClasses_29 rfl (mm_inc hC dX1_countClasses_30 (mm_goto hC (t := 4) dX1_countClasses_33 (by decide) (fun _ _ _ h => h))))))⟩
set_option maxRecDepth 100000 in
set_option maxHeartbeats 8000000 in
theorem pv_X1_countClasses : ∀ (av : List mm_V) (σ : mm_S) (Post : Option mm_V → mm_S → Prop), (∀ v ∈ av, mm_iv v) → (∀ a j, mm_in (σ.1 a j)) → σ.2.2 ≤ 348 → T_X1_countClasses av σ Post → ∀ Ok : Nat → mm_K, clo_X1_countClasses Ok Post σ.2.2 → Ok 0 (av ++ List.replicate (3 - av.length) (.inr none)) [] σ := by
  intro av σ Post hav hin hk hT Ok hcl
  obtain ⟨I, R0⟩ := σ
  unfold T_X1_countClasses at hT
  split at hT
  · rename_i a
    obtain ⟨h0, hT⟩ := hT
    have h0 : R0 = mm_R0 := h0
    subst h0
    dsimp only at hT hin
    obtain ⟨c0, c4, c28⟩ := hcl
    obtain ⟨h1, h2, h3, h4, hP⟩ := hT
    have ha := sh_lt h1 (by decide)
    obtain ⟨hs1, hs2⟩ := sh_cl a ha h1
    have hR : ∀ j, mm_Rs a j = some (a + 1) := fun j => Rs_cl h1
    have hle := (mm_shOk (a + 1) hs2).1
    obtain ⟨n, hn⟩ := Int.eq_ofNat_of_zero_le h2
    rw [hn, Int.toNat_natCast] at h4 hP
    rw [hn] at h3
    have loop : ∀ (d i : Nat), i + d = n → Ok 4 [.inr (some a), .inl (nr (rt (fi I (a + 1))) i), .inl (i : Int)] [] (I, mm_R0) := by
      intro d
      induction d with
      | zero =>
        intro i hd
        refine c4 _ _ _ ?_
        simp only [b_X1_countClasses_4, i_ld, i_la, i_st, i_sa, i_c, i_inc, i_add, i_sub, i_mul, i_div, i_rem, i_remT, i_xor, i_dup, i_dup2, i_if, i_if2, i_sw, i_gi, i_gr, i_pi, i_pz, i_ial, i_ias, i_len, i_aal, i_gs, i_tal, i_cv, i_cs, i_ir, i_zr, i_vr, i_min, i_max, i_cpy, List.getElem?_cons_zero, List.getElem?_cons_succ, List.set_cons_zero, List.set_cons_succ, List.length_cons, List.length_nil, List.drop_succ_cons, List.drop_zero, List.take_succ_cons, List.take_zero, List.reverse_cons, List.reverse_nil, List.nil_append, List.cons_append, Option.toList_some, Option.toList_none, true_and, and_true, Nat.reduceAdd, Nat.reduceLT, Nat.reduceLeDiff, Option.some.injEq, exists_eq_left', Int.toNat_natCast, Nat.reduceSub, List.append_nil, List.replicate_succ, List.replicate_zero, ha, h1, hs1, hs2, hR, hn]
        refine fun _ => ⟨fun q => ?_, fun q => ?_⟩
        · rw [show i = n by omega]
          exact hP
        · omega
      | succ d ih =>
        intro i hd
        have hnb := nr_b (rt (fi I (a + 1))) i
        have hi := h4 i (by omega)
        have hiff : I (a + 1) i = (i : Int) ↔ rt (fi I (a + 1)) i = i := by
          constructor
          · intro e; exact rt_top (by unfold fi; omega)
          · intro e
            have := rt_root (fi I (a + 1)) i
            rw [e] at this
            unfold fi at this
            omega
        have hs : nr (rt (fi I (a + 1))) (i + 1) = nr (rt (fi I (a + 1))) i + if rt (fi I (a + 1)) i = i then 1 else 0 := rfl
        refine c4 _ _ _ ?_
        simp only [b_X1_countClasses_4, i_ld, i_la, i_st, i_sa, i_c, i_inc, i_add, i_sub, i_mul, i_div, i_rem, i_remT, i_xor, i_dup, i_dup2, i_if, i_if2, i_sw, i_gi, i_gr, i_pi, i_pz, i_ial, i_ias, i_len, i_aal, i_gs, i_tal, i_cv, i_cs, i_ir, i_zr, i_vr, i_min, i_max, i_cpy, List.getElem?_cons_zero, List.getElem?_cons_succ, List.set_cons_zero, List.set_cons_succ, List.length_cons, List.length_nil, List.drop_succ_cons, List.drop_zero, List.take_succ_cons, List.take_zero, List.reverse_cons, List.reverse_nil, List.nil_append, List.cons_append, Option.toList_some, Option.toList_none, true_and, and_true, Nat.reduceAdd, Nat.reduceLT, Nat.reduceLeDiff, Option.some.injEq, exists_eq_left', Int.toNat_natCast, Nat.reduceSub, List.append_nil, List.replicate_succ, List.replicate_zero, ha, h1, hs1, hs2, hR, hn]
        refine fun _ => ⟨fun q => ?_, fun q => ?_⟩
        · omega
        · refine ⟨⟨by omega, by omega⟩, fun _ => ⟨fun e => ?_, fun e => ?_⟩⟩
          · refine c28 _ _ _ ?_
            simp only [b_X1_countClasses_28, i_ld, i_la, i_st, i_sa, i_c, i_inc, i_add, i_sub, i_mul, i_div, i_rem, i_remT, i_xor, i_dup, i_dup2, i_if, i_if2, i_sw, i_gi, i_gr, i_pi, i_pz, i_ial, i_ias, i_len, i_aal, i_gs, i_tal, i_cv, i_cs, i_ir, i_zr, i_vr, i_min, i_max, i_cpy, List.getElem?_cons_zero, List.getElem?_cons_succ, List.set_cons_zero, List.set_cons_succ, List.length_cons, List.length_nil, List.drop_succ_cons, List.drop_zero, List.take_succ_cons, List.take_zero, List.reverse_cons, List.reverse_nil, List.nil_append, List.cons_append, Option.toList_some, Option.toList_none, true_and, and_true, Nat.reduceAdd, Nat.reduceLT, Nat.reduceLeDiff, Option.some.injEq, exists_eq_left', Int.toNat_natCast, Nat.reduceSub, List.append_nil, List.replicate_succ, List.replicate_zero]
            refine ⟨⟨by omega, by omega⟩, ⟨by omega, by omega⟩, ?_⟩
            have := ih (i + 1) (by omega)
            rw [hs, if_neg (fun z => e (hiff.mpr z))] at this
            exact this
          · refine c28 _ _ _ ?_
            simp only [b_X1_countClasses_28, i_ld, i_la, i_st, i_sa, i_c, i_inc, i_add, i_sub, i_mul, i_div, i_rem, i_remT, i_xor, i_dup, i_dup2, i_if, i_if2, i_sw, i_gi, i_gr, i_pi, i_pz, i_ial, i_ias, i_len, i_aal, i_gs, i_tal, i_cv, i_cs, i_ir, i_zr, i_vr, i_min, i_max, i_cpy, List.getElem?_cons_zero, List.getElem?_cons_succ, List.set_cons_zero, List.set_cons_succ, List.length_cons, List.length_nil, List.drop_succ_cons, List.drop_zero, List.take_succ_cons, List.take_zero, List.reverse_cons, List.reverse_nil, List.nil_append, List.cons_append, Option.toList_some, Option.toList_none, true_and, and_true, Nat.reduceAdd, Nat.reduceLT, Nat.reduceLeDiff, Option.some.injEq, exists_eq_left', Int.toNat_natCast, Nat.reduceSub, List.append_nil, List.replicate_succ, List.replicate_zero]
            refine ⟨⟨by omega, by omega⟩, ⟨by omega, by omega⟩, ?_⟩
            have := ih (i + 1) (by omega)
            rw [hs, if_pos (hiff.mp (by omega))] at this
            exact this
    refine c0 _ _ _ ?_
    simp only [b_X1_countClasses_0, i_ld, i_la, i_st, i_sa, i_c, i_inc, i_add, i_sub, i_mul, i_div, i_rem, i_remT, i_xor, i_dup, i_dup2, i_if, i_if2, i_sw, i_gi, i_gr, i_pi, i_pz, i_ial, i_ias, i_len, i_aal, i_gs, i_tal, i_cv, i_cs, i_ir, i_zr, i_vr, i_min, i_max, i_cpy, List.getElem?_cons_zero, List.getElem?_cons_succ, List.set_cons_zero, List.set_cons_succ, List.length_cons, List.length_nil, List.drop_succ_cons, List.drop_zero, List.take_succ_cons, List.take_zero, List.reverse_cons, List.reverse_nil, List.nil_append, List.cons_append, Option.toList_some, Option.toList_none, true_and, and_true, Nat.reduceAdd, Nat.reduceLT, Nat.reduceLeDiff, Option.some.injEq, exists_eq_left', Int.toNat_natCast, Nat.reduceSub, List.append_nil, List.replicate_succ, List.replicate_zero]
    exact loop n 0 (by omega)
  · exact hT.elim
theorem sp_X1_countClasses : mm_Sp yX1_countClasses cX1_countClasses 3 (some .int) rm_X1_countClasses T_X1_countClasses := mm_meth (by decide) (by
  intro av σ Post h
  unfold T_X1_countClasses at h
  split at h
  · simp
  · exact h.elim) (fun p l e s m args below meth c G av σ Post hC hr _ hav hin hk hT => pv_X1_countClasses av σ Post hav hin hk hT _ (bk_X1_countClasses hC hr))

def T_X1_numberThem : mm_T := fun av σ Post => match av with
  | [.inr (some a), .inr (some u)] => σ.2 = mm_R0 ∧ (mm_sh a).1 = 1 ∧ (mm_sh u).1 = 100 ∧ u ≠ a + 1 ∧ 0 ≤ σ.1 a 1 ∧ σ.1 a 1 ≤ (mm_sh (a + 1)).2 ∧ σ.1 a 1 ≤ (mm_sh u).2 ∧ ufi σ.1 (a + 1) (σ.1 a 1).toNat ∧
    ∀ I' : Nat → Nat → Int, (∀ b, b ≠ a + 1 → b ≠ u → I' b = σ.1 b) → ufi I' (a + 1) (σ.1 a 1).toNat → (∀ y, y < (σ.1 a 1).toNat → rt (fi I' (a + 1)) y = rt (fi σ.1 (a + 1)) y) →
      (∀ y, y < (σ.1 a 1).toNat → I' u y = nr (rt (fi σ.1 (a + 1))) (rt (fi σ.1 (a + 1)) y)) → Post (some (.inl (nr (rt (fi σ.1 (a + 1))) (σ.1 a 1).toNat))) (I', mm_R0)
  | _ => False
def rm_X1_numberThem : Room := { frames := 1, cells := 0, slots := 0, locals := 23 }
def b_X1_numberThem_0 (Ok : Nat → mm_K) (Post : Option mm_V → mm_S → Prop) (kf : Nat) : mm_K := i_c 0 (i_st 2 (i_c 0 (i_st 3 (Ok 4))))
def b_X1_numberThem_4 (Ok : Nat → mm_K) (Post : Option mm_V → mm_S → Prop) (kf : Nat) : mm_K := i_ld 3 (i_la 0 (i_gi 1 1 (i_if2 (fun x y => y ≤ x) (i_ld 2 (i_ir Post kf)) (i_la 0 (i_ld 3 (i_cv 1 1 T_X1_least (i_st 4 (i_ld 4 (i_ld 3 (i_if2 (fun x y => ¬ x = y) (i_la 1 (i_ld 3 (i_la 1 (i_ld 4 (i_ial (i_ias (Ok 42))))))) (i_la 1 (i_ld 3 (i_ld 2 (i_ias (i_inc 2 1 (Ok 42))))))))))))))))
def b_X1_numberThem_42 (Ok : Nat → mm_K) (Post : Option mm_V → mm_S → Prop) (kf : Nat) : mm_K := i_inc 3 1 (Ok 4)
def clo_X1_numberThem (Ok : Nat → mm_K) (Post : Option mm_V → mm_S → Prop) (kf : Nat) : Prop := mm_imp (b_X1_numberThem_0 Ok Post kf) (Ok 0) ∧ mm_imp (b_X1_numberThem_4 Ok Post kf) (Ok 4) ∧ mm_imp (b_X1_numberThem_42 Ok Post kf) (Ok 42)
set_option maxRecDepth 100000 in
set_option maxHeartbeats 4000000 in
theorem bk_X1_numberThem {p : Program} {l : Launch} {e : Env} {s : State} {m : MethodId} {args : Array Value} {below : List Frame} {meth : Method} {c : Code} {G : mm_G} {σ0 : mm_S} {Post : Option mm_V → mm_S → Prop} (hC : mm_C p G s m args meth c cX1_numberThem yX1_numberThem.cls) (hr : meth.sig.returnType = some .int) : clo_X1_numberThem (mm_O p l e rm_X1_numberThem s m args below meth c G σ0.2.2 (MQ below (mm_Qc G σ0 rm_X1_numberThem.cells rm_X1_numberThem.slots Post) args s rm_X1_numberThem.cells rm_X1_numberThem.slots (mm_A G))) Post σ0.2.2 := ⟨(by unfold b_X1_numberThem_0; exact (mm_ic hC dX1_numberThem_0 ⟨by decide, by decide⟩ (mm_st_n hC dX1_numberThem_1 rfl (mm_ic hC dX1_numberThem_2 ⟨by decide, by decide⟩ (mm_st_n hC dX1_numberThem_3 rfl (fun _ _ _ h => h)))))), (by unfold b_X1_numberThem_4; exact (mm_ld_n hC dX1_numberThem_4 rfl (mm_la_n hC dX1_numberThem_5 rfl (mm_gi hC cl_1 (by decide) rfl wd_159 dX1_numberThem_6 (mm_ic_ge hC (t := 48) dX1_numberThem_9 (by decide) (mm_ld_n hC dX1_numberThem_48 rfl (mm_ir hC ⟨rfl, rfl⟩ hr dX1_numberThem_49)) (mm_la_n hC dX1_numberThem_12 rfl (mm_ld_n hC dX1_numberThem_13 rfl (mm_cv hC sp_X1_least ⟨rfl, rfl⟩ cl_1 wd_392 wd_393 wd_394 wd_395 wd_71 ⟨by decide, by decide, by decide +kernel⟩ ⟨by decide, by decide⟩ dX1_numberThem_14 (mm_st hC dX1_numberThem_17 (mm_ld hC dX1_numberThem_19 (mm_ld_n hC dX1_numberThem_21 rfl (mm_ic_ne hC (t := 35) dX1_numberThem_22 (by decide) (mm_la_n hC dX1_numberThem_35 rfl (mm_ld_n hC dX1_numberThem_36 rfl (mm_la_n hC dX1_numberThem_37 rfl (mm_ld hC dX1_numberThem_38 (mm_ial hC dX1_numberThem_40 (mm_ias hC dX1_numberThem_41 (fun _ _ _ h => h))))))) (mm_la_n hC dX1_numberThem_25 rfl (mm_ld_n hC dX1_numberThem_26 rfl (mm_ld_n hC dX1_numberThem_27 rfl (mm_ias hC dX1_numberThem_28 (mm_inc hC dX1_numberThem_29 (mm_goto hC (t := 42) dX1_numberThem_32 (by decide) (fun _ _ _ h => h))))))))))))))))))), (by unfold b_X1_numberThem_42; exact (mm_inc hC dX1_numberThem_42 (mm_goto hC (t := 4) dX1_numberThem_45 (by decide) (fun _ _ _ h => h))))⟩
set_option maxRecDepth 100000 in
set_option maxHeartbeats 8000000 in
theorem pv_X1_numberThem : ∀ (av : List mm_V) (σ : mm_S) (Post : Option mm_V → mm_S → Prop), (∀ v ∈ av, mm_iv v) → (∀ a j, mm_in (σ.1 a j)) → σ.2.2 ≤ 348 → T_X1_numberThem av σ Post → ∀ Ok : Nat → mm_K, clo_X1_numberThem Ok Post σ.2.2 → Ok 0 (av ++ List.replicate (5 - av.length) (.inr none)) [] σ := by
  intro av σ Post hav hin hk hT Ok hcl
  obtain ⟨I, R0⟩ := σ
  unfold T_X1_numberThem at hT
  split at hT
  · rename_i a u
    obtain ⟨h0, hT⟩ := hT
    have h0 : R0 = mm_R0 := h0
    subst h0
    dsimp only at hT hin
    obtain ⟨c0, c4, c42⟩ := hcl
    obtain ⟨h1, h2, h3, h4, h5, h6, h7, hP⟩ := hT
    have ha := sh_lt h1 (by decide)
    have hu := sh_lt h2 (by decide)
    obtain ⟨hs1, hs2⟩ := sh_cl a ha h1
    have hua : u ≠ a := fun e => by rw [e, h1] at h2; cases h2
    have hle := (mm_shOk (a + 1) hs2).1
    obtain ⟨n, hn⟩ := Int.eq_ofNat_of_zero_le h4
    rw [hn, Int.toNat_natCast] at h7 hP
    rw [hn] at h5 h6
    obtain ⟨L, hL⟩ : ∃ L, rt (fi I (a + 1)) = L := ⟨_, rfl⟩
    rw [hL] at hP
    have hLr : ∀ y, L (L y) = L y := fun y => by rw [← hL]; exact rt_rt _ _
    have hLl : ∀ y, L y ≤ y := fun y => by rw [← hL]; exact rt_le _ _
    have loop : ∀ (d i : Nat) (I' : Nat → Nat → Int) (w : mm_V), i + d = n → (∀ b, b ≠ a + 1 → b ≠ u → I' b = I b) → ufi I' (a + 1) n → (∀ y, y < n → rt (fi I' (a + 1)) y = L y) → (∀ y, y < i → I' u y = nr L (L y)) → Ok 4 [.inr (some a), .inr (some u), .inl (nr L i), .inl (i : Int), w] [] (I', mm_R0) := by
      intro d
      induction d with
      | zero =>
        intro i I' w hd hI hu1 hr hN
        have hx : I' a 1 = n := by rw [hI a (by omega) (fun e => hua e.symm), hn]
        refine c4 _ _ _ ?_
        simp only [b_X1_numberThem_4, i_ld, i_la, i_st, i_sa, i_c, i_inc, i_add, i_sub, i_mul, i_div, i_rem, i_remT, i_xor, i_dup, i_dup2, i_if, i_if2, i_sw, i_gi, i_gr, i_pi, i_pz, i_ial, i_ias, i_len, i_aal, i_gs, i_tal, i_cv, i_cs, i_ir, i_zr, i_vr, i_min, i_max, i_cpy, List.getElem?_cons_zero, List.getElem?_cons_succ, List.set_cons_zero, List.set_cons_succ, List.length_cons, List.length_nil, List.drop_succ_cons, List.drop_zero, List.take_succ_cons, List.take_zero, List.reverse_cons, List.reverse_nil, List.nil_append, List.cons_append, Option.toList_some, Option.toList_none, true_and, and_true, Nat.reduceAdd, Nat.reduceLT, Nat.reduceLeDiff, Option.some.injEq, exists_eq_left', Int.toNat_natCast, Nat.reduceSub, List.append_nil, List.replicate_succ, List.replicate_zero, ha, h1, hx]
        refine fun _ => ⟨fun q => ?_, fun q => ?_⟩
        · have := hP I' hI hu1 hr (fun y hy => hN y (by omega))
          rw [show i = n by omega]
          exact this
        · omega
      | succ d ih =>
        intro i I' w hd hI hu1 hr hN
        have hx : I' a 1 = n := by rw [hI a (by omega) (fun e => hua e.symm), hn]
        have hnb := nr_b L i
        have hs : nr L (i + 1) = nr L i + if L i = i then 1 else 0 := rfl
        have hLi := hLl i
        refine c4 _ _ _ ?_
        simp only [b_X1_numberThem_4, i_ld, i_la, i_st, i_sa, i_c, i_inc, i_add, i_sub, i_mul, i_div, i_rem, i_remT, i_xor, i_dup, i_dup2, i_if, i_if2, i_sw, i_gi, i_gr, i_pi, i_pz, i_ial, i_ias, i_len, i_aal, i_gs, i_tal, i_cv, i_cs, i_ir, i_zr, i_vr, i_min, i_max, i_cpy, List.getElem?_cons_zero, List.getElem?_cons_succ, List.set_cons_zero, List.set_cons_succ, List.length_cons, List.length_nil, List.drop_succ_cons, List.drop_zero, List.take_succ_cons, List.take_zero, List.reverse_cons, List.reverse_nil, List.nil_append, List.cons_append, Option.toList_some, Option.toList_none, true_and, and_true, Nat.reduceAdd, Nat.reduceLT, Nat.reduceLeDiff, Option.some.injEq, exists_eq_left', Int.toNat_natCast, Nat.reduceSub, List.append_nil, List.replicate_succ, List.replicate_zero, ha, h1, hx, T_X1_least, hu, h2, hr i (by omega)]
        refine fun _ => ⟨fun q => by omega, fun q => ⟨by omega, by omega, h5, hu1, fun I2 f2 u2 r2 => ?_⟩⟩
        have fu : I2 u = I' u := f2 u h3
        have key : ∀ v : Int, v = nr L (L i) → (∀ b, b ≠ a + 1 → b ≠ u → mm_set I2 u i v b = I b) ∧ ufi (mm_set I2 u i v) (a + 1) n ∧ (∀ y, y < n → rt (fi (mm_set I2 u i v) (a + 1)) y = L y) ∧ (∀ y, y < i + 1 → mm_set I2 u i v u y = nr L (L y)) := by
          intro v hv
          have hrow : mm_set I2 u i v (a + 1) = I2 (a + 1) := by
            funext j
            have : ¬ a + 1 = u := fun e => h3 e.symm
            simp [mm_set, this]
          refine ⟨fun b hb1 hb2 => ?_, ?_, fun y hy => ?_, fun y hy => ?_⟩
          · rw [← hI b hb1 hb2, ← f2 b hb1]; funext j; simp [mm_set, hb2]
          · unfold ufi; rw [hrow]; exact u2
          · unfold fi; rw [hrow]; exact (r2 y hy).trans (hr y hy)
          · by_cases e : y = i
            · subst e; simp [mm_set, hv]
            · simp [mm_set, e]; rw [fu]; exact hN y (by omega)
        refine ⟨fun e => ⟨⟨by omega, by omega⟩, fun _ => ⟨⟨by omega, by omega⟩, ?_⟩⟩, fun e => ⟨⟨by omega, by omega⟩, ⟨by omega, by omega⟩, ?_⟩⟩
        · obtain ⟨q1, q2, q3, q4⟩ := key (I2 u (L i)) (by rw [fu, hN (L i) (by omega), hLr])
          refine c42 _ _ _ ?_
          simp only [b_X1_numberThem_42, i_ld, i_la, i_st, i_sa, i_c, i_inc, i_add, i_sub, i_mul, i_div, i_rem, i_remT, i_xor, i_dup, i_dup2, i_if, i_if2, i_sw, i_gi, i_gr, i_pi, i_pz, i_ial, i_ias, i_len, i_aal, i_gs, i_tal, i_cv, i_cs, i_ir, i_zr, i_vr, i_min, i_max, i_cpy, List.getElem?_cons_zero, List.getElem?_cons_succ, List.set_cons_zero, List.set_cons_succ, List.length_cons, List.length_nil, List.drop_succ_cons, List.drop_zero, List.take_succ_cons, List.take_zero, List.reverse_cons, List.reverse_nil, List.nil_append, List.cons_append, Option.toList_some, Option.toList_none, true_and, and_true, Nat.reduceAdd, Nat.reduceLT, Nat.reduceLeDiff, Option.some.injEq, exists_eq_left', Int.toNat_natCast, Nat.reduceSub, List.append_nil, List.replicate_succ, List.replicate_zero]
          refine ⟨⟨by omega, by omega⟩, ?_⟩
          have := ih (i + 1) _ (.inl ((L i : Nat) : Int)) (by omega) q1 q2 q3 q4
          rw [hs, if_neg (by omega), Int.add_zero] at this
          exact this
        · obtain ⟨q1, q2, q3, q4⟩ := key (nr L i) (by rw [show L i = i by omega])
          refine c42 _ _ _ ?_
          simp only [b_X1_numberThem_42, i_ld, i_la, i_st, i_sa, i_c, i_inc, i_add, i_sub, i_mul, i_div, i_rem, i_remT, i_xor, i_dup, i_dup2, i_if, i_if2, i_sw, i_gi, i_gr, i_pi, i_pz, i_ial, i_ias, i_len, i_aal, i_gs, i_tal, i_cv, i_cs, i_ir, i_zr, i_vr, i_min, i_max, i_cpy, List.getElem?_cons_zero, List.getElem?_cons_succ, List.set_cons_zero, List.set_cons_succ, List.length_cons, List.length_nil, List.drop_succ_cons, List.drop_zero, List.take_succ_cons, List.take_zero, List.reverse_cons, List.reverse_nil, List.nil_append, List.cons_append, Option.toList_some, Option.toList_none, true_and, and_true, Nat.reduceAdd, Nat.reduceLT, Nat.reduceLeDiff, Option.some.injEq, exists_eq_left', Int.toNat_natCast, Nat.reduceSub, List.append_nil, List.replicate_succ, List.replicate_zero]
          refine ⟨⟨by omega, by omega⟩, ?_⟩
          have := ih (i + 1) _ (.inl ((L i : Nat) : Int)) (by omega) q1 q2 q3 q4
          rw [hs, if_pos (by omega)] at this
          exact this
    refine c0 _ _ _ ?_
    simp only [b_X1_numberThem_0, i_ld, i_la, i_st, i_sa, i_c, i_inc, i_add, i_sub, i_mul, i_div, i_rem, i_remT, i_xor, i_dup, i_dup2, i_if, i_if2, i_sw, i_gi, i_gr, i_pi, i_pz, i_ial, i_ias, i_len, i_aal, i_gs, i_tal, i_cv, i_cs, i_ir, i_zr, i_vr, i_min, i_max, i_cpy, List.getElem?_cons_zero, List.getElem?_cons_succ, List.set_cons_zero, List.set_cons_succ, List.length_cons, List.length_nil, List.drop_succ_cons, List.drop_zero, List.take_succ_cons, List.take_zero, List.reverse_cons, List.reverse_nil, List.nil_append, List.cons_append, Option.toList_some, Option.toList_none, true_and, and_true, Nat.reduceAdd, Nat.reduceLT, Nat.reduceLeDiff, Option.some.injEq, exists_eq_left', Int.toNat_natCast, Nat.reduceSub, List.append_nil, List.replicate_succ, List.replicate_zero]
    exact loop n 0 I _ (by omega) (fun _ _ _ => rfl) h7 (fun y _ => by rw [hL]) (fun y hy => by omega)
  · exact hT.elim
theorem sp_X1_numberThem : mm_Sp yX1_numberThem cX1_numberThem 5 (some .int) rm_X1_numberThem T_X1_numberThem := mm_meth (by decide) (by
  intro av σ Post h
  unfold T_X1_numberThem at h
  split at h
  · simp
  · exact h.elim) (fun p l e s m args below meth c G av σ Post hC hr _ hav hin hk hT => pv_X1_numberThem av σ Post hav hin hk hT _ (bk_X1_numberThem hC hr))
end
section
/-! java.util.Arrays.fill, Math.floorMod; Shape.together; PieceSurfaces$Sheet -/
def T_J7_fill_53178 : mm_T := fun av σ Post => match av with
  | [.inr (some u), .inl v] => σ.2 = mm_R0 ∧ (mm_sh u).1 = 100 ∧
    ∀ I' : Nat → Nat → Int, (∀ b, b ≠ u → I' b = σ.1 b) → (∀ i, i < (mm_sh u).2 → I' u i = v) → Post none (I', mm_R0)
  | _ => False
def rm_J7_fill_53178 : Room := { frames := 0, cells := 0, slots := 0, locals := 0 }
def b_J7_fill_53178_0 (Ok : Nat → mm_K) (Post : Option mm_V → mm_S → Prop) (kf : Nat) : mm_K := i_c 0 (i_st 2 (i_la 0 (i_len (i_st 3 (Ok 5)))))
def b_J7_fill_53178_5 (Ok : Nat → mm_K) (Post : Option mm_V → mm_S → Prop) (kf : Nat) : mm_K := i_ld 2 (i_ld 3 (i_if2 (fun x y => y ≤ x) (i_vr Post kf) (i_la 0 (i_ld 2 (i_ld 1 (i_ias (i_inc 2 1 (Ok 5))))))))
def clo_J7_fill_53178 (Ok : Nat → mm_K) (Post : Option mm_V → mm_S → Prop) (kf : Nat) : Prop := mm_imp (b_J7_fill_53178_0 Ok Post kf) (Ok 0) ∧ mm_imp (b_J7_fill_53178_5 Ok Post kf) (Ok 5)
set_option maxRecDepth 100000 in
set_option maxHeartbeats 4000000 in
theorem bk_J7_fill_53178 {p : Program} {l : Launch} {e : Env} {s : State} {m : MethodId} {args : Array Value} {below : List Frame} {meth : Method} {c : Code} {G : mm_G} {σ0 : mm_S} {Post : Option mm_V → mm_S → Prop} (hC : mm_C p G s m args meth c cJ7_fill_53178 yJ7_fill_53178.cls) (hr : meth.sig.returnType = none) : clo_J7_fill_53178 (mm_O p l e rm_J7_fill_53178 s m args below meth c G σ0.2.2 (MQ below (mm_Qc G σ0 rm_J7_fill_53178.cells rm_J7_fill_53178.slots Post) args s rm_J7_fill_53178.cells rm_J7_fill_53178.slots (mm_A G))) Post σ0.2.2 := ⟨(by unfold b_J7_fill_53178_0; exact (mm_ic hC dJ7_fill_53178_0 ⟨by decide, by decide⟩ (mm_st_n hC dJ7_fill_53178_1 rfl (mm_la_n hC dJ7_fill_53178_2 rfl (mm_len hC dJ7_fill_53178_3 (mm_st_n hC dJ7_fill_53178_4 rfl (fun _ _ _ h => h))))))), (by unfold b_J7_fill_53178_5; exact (mm_ld_n hC dJ7_fill_53178_5 rfl (mm_ld_n hC dJ7_fill_53178_6 rfl (mm_ic_ge hC (t := 20) dJ7_fill_53178_7 (by decide) (mm_vr hC ⟨rfl, rfl⟩ hr dJ7_fill_53178_20) (mm_la_n hC dJ7_fill_53178_10 rfl (mm_ld_n hC dJ7_fill_53178_11 rfl (mm_ld_n hC dJ7_fill_53178_12 rfl (mm_ias hC dJ7_fill_53178_13 (mm_inc hC dJ7_fill_53178_14 (mm_goto hC (t := 5) dJ7_fill_53178_17 (by decide) (fun _ _ _ h => h)))))))))))⟩
set_option maxRecDepth 100000 in
set_option maxHeartbeats 8000000 in
theorem pv_J7_fill_53178 : ∀ (av : List mm_V) (σ : mm_S) (Post : Option mm_V → mm_S → Prop), (∀ v ∈ av, mm_iv v) → (∀ a j, mm_in (σ.1 a j)) → σ.2.2 ≤ 348 → T_J7_fill_53178 av σ Post → ∀ Ok : Nat → mm_K, clo_J7_fill_53178 Ok Post σ.2.2 → Ok 0 (av ++ List.replicate (4 - av.length) (.inr none)) [] σ := by
  intro av σ Post hav hin hk hT Ok hcl
  obtain ⟨I, R0⟩ := σ
  unfold T_J7_fill_53178 at hT
  split at hT
  · rename_i u v
    obtain ⟨h0, hT⟩ := hT
    have h0 : R0 = mm_R0 := h0
    subst h0
    dsimp only at hT hin
    obtain ⟨c0, c5⟩ := hcl
    obtain ⟨h1, hP⟩ := hT
    have hu := sh_lt h1 (by decide)
    have hle := (mm_shOk u hu).1
    obtain ⟨n, hn⟩ : ∃ n, (mm_sh u).2 = n := ⟨_, rfl⟩
    rw [hn] at hP hle
    have loop : ∀ (d i : Nat) (I' : Nat → Nat → Int), i + d = n → (∀ b, b ≠ u → I' b = I b) → (∀ j, j < i → I' u j = v) → Ok 5 [.inr (some u), .inl v, .inl (i : Int), .inl (n : Int)] [] (I', mm_R0) := by
      intro d
      induction d with
      | zero =>
        intro i I' hd hI hi
        refine c5 _ _ _ ?_
        simp only [b_J7_fill_53178_5, i_ld, i_la, i_st, i_sa, i_c, i_inc, i_add, i_sub, i_mul, i_div, i_rem, i_remT, i_xor, i_dup, i_dup2, i_if, i_if2, i_sw, i_gi, i_gr, i_pi, i_pz, i_ial, i_ias, i_len, i_aal, i_gs, i_tal, i_cv, i_cs, i_ir, i_zr, i_vr, i_min, i_max, i_cpy, List.getElem?_cons_zero, List.getElem?_cons_succ, List.set_cons_zero, List.set_cons_succ, List.length_cons, List.length_nil, List.drop_succ_cons, List.drop_zero, List.take_succ_cons, List.take_zero, List.reverse_cons, List.reverse_nil, List.nil_append, List.cons_append, Option.toList_some, Option.toList_none, true_and, and_true, Nat.reduceAdd, Nat.reduceLT, Nat.reduceLeDiff, Option.some.injEq, exists_eq_left', Int.toNat_natCast, Nat.reduceSub, List.append_nil, List.replicate_succ, List.replicate_zero, hu, h1, hn]
        refine ⟨fun q => hP I' hI (fun j hj => hi j (by omega)), fun q => by omega⟩
      | succ d ih =>
        intro i I' hd hI hi
        refine c5 _ _ _ ?_
        simp only [b_J7_fill_53178_5, i_ld, i_la, i_st, i_sa, i_c, i_inc, i_add, i_sub, i_mul, i_div, i_rem, i_remT, i_xor, i_dup, i_dup2, i_if, i_if2, i_sw, i_gi, i_gr, i_pi, i_pz, i_ial, i_ias, i_len, i_aal, i_gs, i_tal, i_cv, i_cs, i_ir, i_zr, i_vr, i_min, i_max, i_cpy, List.getElem?_cons_zero, List.getElem?_cons_succ, List.set_cons_zero, List.set_cons_succ, List.length_cons, List.length_nil, List.drop_succ_cons, List.drop_zero, List.take_succ_cons, List.take_zero, List.reverse_cons, List.reverse_nil, List.nil_append, List.cons_append, Option.toList_some, Option.toList_none, true_and, and_true, Nat.reduceAdd, Nat.reduceLT, Nat.reduceLeDiff, Option.some.injEq, exists_eq_left', Int.toNat_natCast, Nat.reduceSub, List.append_nil, List.replicate_succ, List.replicate_zero, hu, h1, hn]
        refine ⟨fun q => by omega, fun q => ⟨⟨by omega, by omega⟩, ⟨by omega, by omega⟩, ?_⟩⟩
        refine ih (i + 1) _ (by omega) (fun b hb => ?_) (fun j hj => ?_)
        · rw [← hI b hb]; funext j; simp [mm_set, hb]
        · by_cases e : j = i
          · subst e; simp [mm_set]
          · simp [mm_set, e]; exact hi j (by omega)
    refine c0 _ _ _ ?_
    simp only [b_J7_fill_53178_0, i_ld, i_la, i_st, i_sa, i_c, i_inc, i_add, i_sub, i_mul, i_div, i_rem, i_remT, i_xor, i_dup, i_dup2, i_if, i_if2, i_sw, i_gi, i_gr, i_pi, i_pz, i_ial, i_ias, i_len, i_aal, i_gs, i_tal, i_cv, i_cs, i_ir, i_zr, i_vr, i_min, i_max, i_cpy, List.getElem?_cons_zero, List.getElem?_cons_succ, List.set_cons_zero, List.set_cons_succ, List.length_cons, List.length_nil, List.drop_succ_cons, List.drop_zero, List.take_succ_cons, List.take_zero, List.reverse_cons, List.reverse_nil, List.nil_append, List.cons_append, Option.toList_some, Option.toList_none, true_and, and_true, Nat.reduceAdd, Nat.reduceLT, Nat.reduceLeDiff, Option.some.injEq, exists_eq_left', Int.toNat_natCast, Nat.reduceSub, List.append_nil, List.replicate_succ, List.replicate_zero, hu, h1, hn]
    exact loop n 0 I (by omega) (fun _ _ => rfl) (fun j hj => by omega)
  · exact hT.elim
theorem sp_J7_fill_53178 : mm_Sp yJ7_fill_53178 cJ7_fill_53178 4 none rm_J7_fill_53178 T_J7_fill_53178 := mm_meth (by decide) (by
  intro av σ Post h
  unfold T_J7_fill_53178 at h
  split at h
  · simp
  · exact h.elim) (fun p l e s m args below meth c G av σ Post hC hr _ hav hin hk hT => pv_J7_fill_53178 av σ Post hav hin hk hT _ (bk_J7_fill_53178 hC hr))
def T_J9_floorMod_7cf53 : mm_T := fun av σ Post => match av with
  | [.inl x, .inl y] => σ.2 = mm_R0 ∧ y = 16 ∧ -16 ≤ x ∧ x < 16 ∧ Post (some (.inl (x % 16))) σ
  | _ => False
def rm_J9_floorMod_7cf53 : Room := { frames := 0, cells := 0, slots := 0, locals := 0 }
def b_J9_floorMod_7cf53_0 (Ok : Nat → mm_K) (Post : Option mm_V → mm_S → Prop) (kf : Nat) : mm_K := i_ld 0 (i_ld 1 (i_remT (i_st 2 (i_ld 0 (i_ld 1 (i_xor (i_if (fun x => 0 ≤ x) (Ok 18) (i_ld 2 (i_if (fun x => x = 0) (Ok 18) (i_ld 2 (i_ld 1 (i_add (i_ir Post kf)))))))))))))
def b_J9_floorMod_7cf53_18 (Ok : Nat → mm_K) (Post : Option mm_V → mm_S → Prop) (kf : Nat) : mm_K := i_ld 2 (i_ir Post kf)
def clo_J9_floorMod_7cf53 (Ok : Nat → mm_K) (Post : Option mm_V → mm_S → Prop) (kf : Nat) : Prop := mm_imp (b_J9_floorMod_7cf53_0 Ok Post kf) (Ok 0) ∧ mm_imp (b_J9_floorMod_7cf53_18 Ok Post kf) (Ok 18)
set_option maxRecDepth 100000 in
set_option maxHeartbeats 4000000 in
theorem bk_J9_floorMod_7cf53 {p : Program} {l : Launch} {e : Env} {s : State} {m : MethodId} {args : Array Value} {below : List Frame} {meth : Method} {c : Code} {G : mm_G} {σ0 : mm_S} {Post : Option mm_V → mm_S → Prop} (hC : mm_C p G s m args meth c cJ9_floorMod_7cf53 yJ9_floorMod_7cf53.cls) (hr : meth.sig.returnType = some .int) : clo_J9_floorMod_7cf53 (mm_O p l e rm_J9_floorMod_7cf53 s m args below meth c G σ0.2.2 (MQ below (mm_Qc G σ0 rm_J9_floorMod_7cf53.cells rm_J9_floorMod_7cf53.slots Post) args s rm_J9_floorMod_7cf53.cells rm_J9_floorMod_7cf53.slots (mm_A G))) Post σ0.2.2 := ⟨(by unfold b_J9_floorMod_7cf53_0; exact (mm_ld_n hC dJ9_floorMod_7cf53_0 rfl (mm_ld_n hC dJ9_floorMod_7cf53_1 rfl (mm_remt hC dJ9_floorMod_7cf53_2 (mm_st_n hC dJ9_floorMod_7cf53_3 rfl (mm_ld_n hC dJ9_floorMod_7cf53_4 rfl (mm_ld_n hC dJ9_floorMod_7cf53_5 rfl (mm_xor hC dJ9_floorMod_7cf53_6 (mm_if_ge hC (t := 18) dJ9_floorMod_7cf53_7 (by decide) (fun _ _ _ h => h) (mm_ld_n hC dJ9_floorMod_7cf53_10 rfl (mm_if_eq hC (t := 18) dJ9_floorMod_7cf53_11 (by decide) (fun _ _ _ h => h) (mm_ld_n hC dJ9_floorMod_7cf53_14 rfl (mm_ld_n hC dJ9_floorMod_7cf53_15 rfl (mm_add hC dJ9_floorMod_7cf53_16 (mm_ir hC ⟨rfl, rfl⟩ hr dJ9_floorMod_7cf53_17))))))))))))))), (by unfold b_J9_floorMod_7cf53_18; exact (mm_ld_n hC dJ9_floorMod_7cf53_18 rfl (mm_ir hC ⟨rfl, rfl⟩ hr dJ9_floorMod_7cf53_19)))⟩
def T_X6_together : mm_T := fun av σ Post => match av with
  | [.inl x, .inl y] => σ.2 = mm_R0 ∧ 0 ≤ x ∧ x < 4 ∧ 0 ≤ y ∧ y < 4 ∧ Post (some (.inl (3 + ((x.toNat ^^^ y.toNat : Nat) : Int)))) σ
  | _ => False
def rm_X6_together : Room := { frames := 0, cells := 0, slots := 0, locals := 0 }
def b_X6_together_0 (Ok : Nat → mm_K) (Post : Option mm_V → mm_S → Prop) (kf : Nat) : mm_K := i_c 3 (i_ld 0 (i_ld 1 (i_xor (i_add (i_ir Post kf)))))
def clo_X6_together (Ok : Nat → mm_K) (Post : Option mm_V → mm_S → Prop) (kf : Nat) : Prop := mm_imp (b_X6_together_0 Ok Post kf) (Ok 0)
set_option maxRecDepth 100000 in
set_option maxHeartbeats 4000000 in
theorem bk_X6_together {p : Program} {l : Launch} {e : Env} {s : State} {m : MethodId} {args : Array Value} {below : List Frame} {meth : Method} {c : Code} {G : mm_G} {σ0 : mm_S} {Post : Option mm_V → mm_S → Prop} (hC : mm_C p G s m args meth c cX6_together yX6_together.cls) (hr : meth.sig.returnType = some .int) : clo_X6_together (mm_O p l e rm_X6_together s m args below meth c G σ0.2.2 (MQ below (mm_Qc G σ0 rm_X6_together.cells rm_X6_together.slots Post) args s rm_X6_together.cells rm_X6_together.slots (mm_A G))) Post σ0.2.2 := (by unfold clo_X6_together b_X6_together_0; exact (mm_ic hC dX6_together_0 ⟨by decide, by decide⟩ (mm_ld_n hC dX6_together_1 rfl (mm_ld_n hC dX6_together_2 rfl (mm_xor hC dX6_together_3 (mm_add hC dX6_together_4 (mm_ir hC ⟨rfl, rfl⟩ hr dX6_together_5)))))))
set_option maxRecDepth 100000 in
set_option maxHeartbeats 8000000 in
theorem pv_X6_together : ∀ (av : List mm_V) (σ : mm_S) (Post : Option mm_V → mm_S → Prop), (∀ v ∈ av, mm_iv v) → (∀ a j, mm_in (σ.1 a j)) → σ.2.2 ≤ 348 → T_X6_together av σ Post → ∀ Ok : Nat → mm_K, clo_X6_together Ok Post σ.2.2 → Ok 0 (av ++ List.replicate (2 - av.length) (.inr none)) [] σ := by
  intro av σ Post hav hin hk hT Ok hcl
  obtain ⟨I, R0⟩ := σ
  unfold T_X6_together at hT
  split at hT
  · rename_i x y
    obtain ⟨h0, hT⟩ := hT
    have h0 : R0 = mm_R0 := h0
    subst h0
    dsimp only at hT hin
    have c0 := hcl
    unfold clo_X6_together at c0
    obtain ⟨h1, h2, h3, h4, hP⟩ := hT
    have hx : x.toNat ^^^ y.toNat < 2 ^ 2 := Nat.xor_lt_two_pow (by omega) (by omega)
    refine c0 _ _ _ ?_
    simp only [b_X6_together_0, i_ld, i_la, i_st, i_sa, i_c, i_inc, i_add, i_sub, i_mul, i_div, i_rem, i_remT, i_xor, i_dup, i_dup2, i_if, i_if2, i_sw, i_gi, i_gr, i_pi, i_pz, i_ial, i_ias, i_len, i_aal, i_gs, i_tal, i_cv, i_cs, i_ir, i_zr, i_vr, i_min, i_max, i_cpy, List.getElem?_cons_zero, List.getElem?_cons_succ, List.set_cons_zero, List.set_cons_succ, List.length_cons, List.length_nil, List.drop_succ_cons, List.drop_zero, List.take_succ_cons, List.take_zero, List.reverse_cons, List.reverse_nil, List.nil_append, List.cons_append, Option.toList_some, Option.toList_none, true_and, and_true, Nat.reduceAdd, Nat.reduceLT, Nat.reduceLeDiff, Option.some.injEq, exists_eq_left', Int.toNat_natCast, Nat.reduceSub, List.append_nil, List.replicate_succ, List.replicate_zero]
    exact ⟨⟨h1, h3⟩, ⟨by omega, by omega⟩, hP⟩
  · exact hT.elim
theorem sp_X6_together : mm_Sp yX6_together cX6_together 2 (some .int) rm_X6_together T_X6_together := mm_meth (by decide) (by
  intro av σ Post h
  unfold T_X6_together at h
  split at h
  · simp
  · exact h.elim) (fun p l e s m args below meth c G av σ Post hC hr _ hav hin hk hT => pv_X6_together av σ Post hav hin hk hT _ (bk_X6_together hC hr))
def T_X7_clear : mm_T := fun av σ Post => match av with
  | [.inr (some a)] => σ.2 = mm_R0 ∧ (mm_sh a).1 = 6 ∧ ∀ I' : Nat → Nat → Int, (∀ b, b ≠ a + 1 → I' b = σ.1 b) → (∀ i, i < 21 → I' (a + 1) i = 0) → Post none (I', mm_R0)
  | _ => False
def rm_X7_clear : Room := { frames := 1, cells := 0, slots := 0, locals := 23 }
def b_X7_clear_0 (Ok : Nat → mm_K) (Post : Option mm_V → mm_S → Prop) (kf : Nat) : mm_K := i_la 0 (i_gr 6 0 (i_c 0 (i_cs 2 T_J7_fill_53178 (i_vr Post kf))))
def clo_X7_clear (Ok : Nat → mm_K) (Post : Option mm_V → mm_S → Prop) (kf : Nat) : Prop := mm_imp (b_X7_clear_0 Ok Post kf) (Ok 0)
set_option maxRecDepth 100000 in
set_option maxHeartbeats 4000000 in
theorem bk_X7_clear {p : Program} {l : Launch} {e : Env} {s : State} {m : MethodId} {args : Array Value} {below : List Frame} {meth : Method} {c : Code} {G : mm_G} {σ0 : mm_S} {Post : Option mm_V → mm_S → Prop} (hC : mm_C p G s m args meth c cX7_clear yX7_clear.cls) (hr : meth.sig.returnType = none) : clo_X7_clear (mm_O p l e rm_X7_clear s m args below meth c G σ0.2.2 (MQ below (mm_Qc G σ0 rm_X7_clear.cells rm_X7_clear.slots Post) args s rm_X7_clear.cells rm_X7_clear.slots (mm_A G))) Post σ0.2.2 := (by unfold clo_X7_clear b_X7_clear_0; exact (mm_la_n hC dX7_clear_0 rfl (mm_gr hC cl_6 (by decide) rfl wd_108 dX7_clear_1 (mm_ic hC dX7_clear_4 ⟨by decide, by decide⟩ (mm_cs hC sp_J7_fill_53178 ⟨rfl, rfl⟩ wd_443 wd_117 wd_118 wd_69 ⟨by decide, by decide, by decide +kernel⟩ ⟨by decide, by decide⟩ dX7_clear_5 (mm_vr hC ⟨rfl, rfl⟩ hr dX7_clear_8))))))
set_option maxRecDepth 100000 in
set_option maxHeartbeats 8000000 in
theorem pv_X7_clear : ∀ (av : List mm_V) (σ : mm_S) (Post : Option mm_V → mm_S → Prop), (∀ v ∈ av, mm_iv v) → (∀ a j, mm_in (σ.1 a j)) → σ.2.2 ≤ 348 → T_X7_clear av σ Post → ∀ Ok : Nat → mm_K, clo_X7_clear Ok Post σ.2.2 → Ok 0 (av ++ List.replicate (1 - av.length) (.inr none)) [] σ := by
  intro av σ Post hav hin hk hT Ok hcl
  obtain ⟨I, R0⟩ := σ
  unfold T_X7_clear at hT
  split at hT
  · rename_i a
    obtain ⟨h0, hT⟩ := hT
    have h0 : R0 = mm_R0 := h0
    subst h0
    dsimp only at hT hin
    have c0 := hcl
    unfold clo_X7_clear at c0
    obtain ⟨h1, hP⟩ := hT
    have ha := sh_lt h1 (by decide)
    obtain ⟨hs1, hs2⟩ := sh_sheet a ha h1
    have hR : ∀ j, mm_Rs a j = some (a + 1) := fun j => Rs_sheet h1
    refine c0 _ _ _ ?_
    simp only [b_X7_clear_0, i_ld, i_la, i_st, i_sa, i_c, i_inc, i_add, i_sub, i_mul, i_div, i_rem, i_remT, i_xor, i_dup, i_dup2, i_if, i_if2, i_sw, i_gi, i_gr, i_pi, i_pz, i_ial, i_ias, i_len, i_aal, i_gs, i_tal, i_cv, i_cs, i_ir, i_zr, i_vr, i_min, i_max, i_cpy, List.getElem?_cons_zero, List.getElem?_cons_succ, List.set_cons_zero, List.set_cons_succ, List.length_cons, List.length_nil, List.drop_succ_cons, List.drop_zero, List.take_succ_cons, List.take_zero, List.reverse_cons, List.reverse_nil, List.nil_append, List.cons_append, Option.toList_some, Option.toList_none, true_and, and_true, Nat.reduceAdd, Nat.reduceLT, Nat.reduceLeDiff, Option.some.injEq, exists_eq_left', Int.toNat_natCast, Nat.reduceSub, List.append_nil, List.replicate_succ, List.replicate_zero, ha, h1, hs1, hs2, hR, T_J7_fill_53178]
    exact fun I' q1 q2 => hP I' q1 q2
  · exact hT.elim
theorem sp_X7_clear : mm_Sp yX7_clear cX7_clear 1 none rm_X7_clear T_X7_clear := mm_meth (by decide) (by
  intro av σ Post h
  unfold T_X7_clear at h
  split at h
  · simp
  · exact h.elim) (fun p l e s m args below meth c G av σ Post hC hr _ hav hin hk hT => pv_X7_clear av σ Post hav hin hk hT _ (bk_X7_clear hC hr))
def T_X7_copyFrom : mm_T := fun av σ Post => match av with
  | [.inr (some a), .inr (some b)] => σ.2 = mm_R0 ∧ (mm_sh a).1 = 6 ∧ (mm_sh b).1 = 6 ∧ ∀ I' : Nat → Nat → Int, (∀ x, x ≠ a + 1 → I' x = σ.1 x) → (∀ i, i < 21 → I' (a + 1) i = σ.1 (b + 1) i) → Post none (I', mm_R0)
  | _ => False
def rm_X7_copyFrom : Room := { frames := 1, cells := 0, slots := 0, locals := 28 }
def b_X7_copyFrom_0 (Ok : Nat → mm_K) (Post : Option mm_V → mm_S → Prop) (kf : Nat) : mm_K := i_la 1 (i_gr 6 0 (i_c 0 (i_la 0 (i_gr 6 0 (i_c 0 (i_la 0 (i_gr 6 0 (i_len (i_cpy (i_vr Post kf))))))))))
def clo_X7_copyFrom (Ok : Nat → mm_K) (Post : Option mm_V → mm_S → Prop) (kf : Nat) : Prop := mm_imp (b_X7_copyFrom_0 Ok Post kf) (Ok 0)
set_option maxRecDepth 100000 in
set_option maxHeartbeats 4000000 in
theorem bk_X7_copyFrom {p : Program} {l : Launch} {e : Env} {s : State} {m : MethodId} {args : Array Value} {below : List Frame} {meth : Method} {c : Code} {G : mm_G} {σ0 : mm_S} {Post : Option mm_V → mm_S → Prop} (hC : mm_C p G s m args meth c cX7_copyFrom yX7_copyFrom.cls) (hr : meth.sig.returnType = none) : clo_X7_copyFrom (mm_O p l e rm_X7_copyFrom s m args below meth c G σ0.2.2 (MQ below (mm_Qc G σ0 rm_X7_copyFrom.cells rm_X7_copyFrom.slots Post) args s rm_X7_copyFrom.cells rm_X7_copyFrom.slots (mm_A G))) Post σ0.2.2 := (by unfold clo_X7_copyFrom b_X7_copyFrom_0; exact (mm_la_n hC dX7_copyFrom_0 rfl (mm_gr hC cl_6 (by decide) rfl wd_108 dX7_copyFrom_1 (mm_ic hC dX7_copyFrom_4 ⟨by decide, by decide⟩ (mm_la_n hC dX7_copyFrom_5 rfl (mm_gr hC cl_6 (by decide) rfl wd_108 dX7_copyFrom_6 (mm_ic hC dX7_copyFrom_9 ⟨by decide, by decide⟩ (mm_la_n hC dX7_copyFrom_10 rfl (mm_gr hC cl_6 (by decide) rfl wd_108 dX7_copyFrom_11 (mm_len hC dX7_copyFrom_14 (mm_copy hC wd_636 wd_631 wd_630 wd_80 ⟨by decide, by decide⟩ dX7_copyFrom_15 (mm_vr hC ⟨rfl, rfl⟩ hr dX7_copyFrom_18))))))))))))
set_option maxRecDepth 100000 in
set_option maxHeartbeats 8000000 in
theorem pv_X7_copyFrom : ∀ (av : List mm_V) (σ : mm_S) (Post : Option mm_V → mm_S → Prop), (∀ v ∈ av, mm_iv v) → (∀ a j, mm_in (σ.1 a j)) → σ.2.2 ≤ 348 → T_X7_copyFrom av σ Post → ∀ Ok : Nat → mm_K, clo_X7_copyFrom Ok Post σ.2.2 → Ok 0 (av ++ List.replicate (2 - av.length) (.inr none)) [] σ := by
  intro av σ Post hav hin hk hT Ok hcl
  obtain ⟨I, R0⟩ := σ
  unfold T_X7_copyFrom at hT
  split at hT
  · rename_i a b
    obtain ⟨h0, hT⟩ := hT
    have h0 : R0 = mm_R0 := h0
    subst h0
    dsimp only at hT hin
    have c0 := hcl
    unfold clo_X7_copyFrom at c0
    obtain ⟨h1, h2, hP⟩ := hT
    have ha := sh_lt h1 (by decide)
    have hb := sh_lt h2 (by decide)
    obtain ⟨hs1, hs2⟩ := sh_sheet a ha h1
    obtain ⟨hs3, hs4⟩ := sh_sheet b hb h2
    have hR : ∀ j, mm_Rs a j = some (a + 1) := fun j => Rs_sheet h1
    have hR2 : ∀ j, mm_Rs b j = some (b + 1) := fun j => Rs_sheet h2
    refine c0 _ _ _ ?_
    simp only [b_X7_copyFrom_0, i_ld, i_la, i_st, i_sa, i_c, i_inc, i_add, i_sub, i_mul, i_div, i_rem, i_remT, i_xor, i_dup, i_dup2, i_if, i_if2, i_sw, i_gi, i_gr, i_pi, i_pz, i_ial, i_ias, i_len, i_aal, i_gs, i_tal, i_cv, i_cs, i_ir, i_zr, i_vr, i_min, i_max, i_cpy, List.getElem?_cons_zero, List.getElem?_cons_succ, List.set_cons_zero, List.set_cons_succ, List.length_cons, List.length_nil, List.drop_succ_cons, List.drop_zero, List.take_succ_cons, List.take_zero, List.reverse_cons, List.reverse_nil, List.nil_append, List.cons_append, Option.toList_some, Option.toList_none, true_and, and_true, Nat.reduceAdd, Nat.reduceLT, Nat.reduceLeDiff, Option.some.injEq, exists_eq_left', Int.toNat_natCast, Nat.reduceSub, List.append_nil, List.replicate_succ, List.replicate_zero, ha, hb, h1, h2, hs1, hs2, hs3, hs4, hR, hR2]
    refine ⟨⟨by omega, by omega, by omega, by omega, by omega⟩, ?_⟩
    refine hP _ (fun x hx => ?_) (fun i hi => ?_)
    · funext j; simp [mm_cpy, hx]
    · simp [mm_cpy, hi]
  · exact hT.elim
theorem sp_X7_copyFrom : mm_Sp yX7_copyFrom cX7_copyFrom 2 none rm_X7_copyFrom T_X7_copyFrom := mm_meth (by decide) (by
  intro av σ Post h
  unfold T_X7_copyFrom at h
  split at h
  · simp
  · exact h.elim) (fun p l e s m args below meth c G av σ Post hC hr _ hav hin hk hT => pv_X7_copyFrom av σ Post hav hin hk hT _ (bk_X7_copyFrom hC hr))
def T_X7_fillSum : mm_T := fun av σ Post => match av with
  | [.inr (some a), .inr (some b), .inr (some c)] => σ.2 = mm_R0 ∧ (mm_sh a).1 = 6 ∧ (mm_sh b).1 = 6 ∧ (mm_sh c).1 = 6 ∧ a ≠ b ∧ a ≠ c ∧ (∀ i, i < 21 → 0 ≤ σ.1 (b + 1) i ∧ σ.1 (b + 1) i ≤ 1000) ∧ (∀ i, i < 21 → 0 ≤ σ.1 (c + 1) i ∧ σ.1 (c + 1) i ≤ 1000) ∧
    ∀ I' : Nat → Nat → Int, (∀ x, x ≠ a + 1 → I' x = σ.1 x) → (∀ i, i < 21 → I' (a + 1) i = σ.1 (b + 1) i + σ.1 (c + 1) i) → Post none (I', mm_R0)
  | _ => False
def rm_X7_fillSum : Room := { frames := 0, cells := 0, slots := 0, locals := 0 }
def b_X7_fillSum_0 (Ok : Nat → mm_K) (Post : Option mm_V → mm_S → Prop) (kf : Nat) : mm_K := i_c 0 (i_st 3 (Ok 2))
def b_X7_fillSum_2 (Ok : Nat → mm_K) (Post : Option mm_V → mm_S → Prop) (kf : Nat) : mm_K := i_ld 3 (i_c 21 (i_if2 (fun x y => y ≤ x) (i_vr Post kf) (i_la 0 (i_gr 6 0 (i_ld 3 (i_la 1 (i_gr 6 0 (i_ld 3 (i_ial (i_la 2 (i_gr 6 0 (i_ld 3 (i_ial (i_add (i_ias (i_inc 3 1 (Ok 2)))))))))))))))))
def clo_X7_fillSum (Ok : Nat → mm_K) (Post : Option mm_V → mm_S → Prop) (kf : Nat) : Prop := mm_imp (b_X7_fillSum_0 Ok Post kf) (Ok 0) ∧ mm_imp (b_X7_fillSum_2 Ok Post kf) (Ok 2)
set_option maxRecDepth 100000 in
set_option maxHeartbeats 4000000 in
theorem bk_X7_fillSum {p : Program} {l : Launch} {e : Env} {s : State} {m : MethodId} {args : Array Value} {below : List Frame} {meth : Method} {c : Code} {G : mm_G} {σ0 : mm_S} {Post : Option mm_V → mm_S → Prop} (hC : mm_C p G s m args meth c cX7_fillSum yX7_fillSum.cls) (hr : meth.sig.returnType = none) : clo_X7_fillSum (mm_O p l e rm_X7_fillSum s m args below meth c G σ0.2.2 (MQ below (mm_Qc G σ0 rm_X7_fillSum.cells rm_X7_fillSum.slots Post) args s rm_X7_fillSum.cells rm_X7_fillSum.slots (mm_A G))) Post σ0.2.2 := ⟨(by unfold b_X7_fillSum_0; exact (mm_ic hC dX7_fillSum_0 ⟨by decide, by decide⟩ (mm_st_n hC dX7_fillSum_1 rfl (fun _ _ _ h => h)))), (by unfold b_X7_fillSum_2; exact (mm_ld_n hC dX7_fillSum_2 rfl (mm_bp hC dX7_fillSum_3 ⟨⟨by decide, by decide⟩, by decide⟩ (mm_ic_ge hC (t := 33) dX7_fillSum_5 (by decide) (mm_vr hC ⟨rfl, rfl⟩ hr dX7_fillSum_33) (mm_la_n hC dX7_fillSum_8 rfl (mm_gr hC cl_6 (by decide) rfl wd_108 dX7_fillSum_9 (mm_ld_n hC dX7_fillSum_12 rfl (mm_la_n hC dX7_fillSum_13 rfl (mm_gr hC cl_6 (by decide) rfl wd_108 dX7_fillSum_14 (mm_ld_n hC dX7_fillSum_17 rfl (mm_ial hC dX7_fillSum_18 (mm_la_n hC dX7_fillSum_19 rfl (mm_gr hC cl_6 (by decide) rfl wd_108 dX7_fillSum_20 (mm_ld_n hC dX7_fillSum_23 rfl (mm_ial hC dX7_fillSum_24 (mm_add hC dX7_fillSum_25 (mm_ias hC dX7_fillSum_26 (mm_inc hC dX7_fillSum_27 (mm_goto hC (t := 2) dX7_fillSum_30 (by decide) (fun _ _ _ h => h))))))))))))))))))))⟩
set_option maxRecDepth 100000 in
set_option maxHeartbeats 8000000 in
theorem pv_X7_fillSum : ∀ (av : List mm_V) (σ : mm_S) (Post : Option mm_V → mm_S → Prop), (∀ v ∈ av, mm_iv v) → (∀ a j, mm_in (σ.1 a j)) → σ.2.2 ≤ 348 → T_X7_fillSum av σ Post → ∀ Ok : Nat → mm_K, clo_X7_fillSum Ok Post σ.2.2 → Ok 0 (av ++ List.replicate (4 - av.length) (.inr none)) [] σ := by
  intro av σ Post hav hin hk hT Ok hcl
  obtain ⟨I, R0⟩ := σ
  unfold T_X7_fillSum at hT
  split at hT
  · rename_i a b c
    obtain ⟨h0, hT⟩ := hT
    have h0 : R0 = mm_R0 := h0
    subst h0
    dsimp only at hT hin
    obtain ⟨c0, c2⟩ := hcl
    obtain ⟨h1, h2, h3, h4, h5, h6, h7, hP⟩ := hT
    have ha := sh_lt h1 (by decide)
    have hb := sh_lt h2 (by decide)
    have hc := sh_lt h3 (by decide)
    obtain ⟨hs1, hs2⟩ := sh_sheet a ha h1
    obtain ⟨hs3, hs4⟩ := sh_sheet b hb h2
    obtain ⟨hs5, hs6⟩ := sh_sheet c hc h3
    have hR : ∀ j, mm_Rs a j = some (a + 1) := fun j => Rs_sheet h1
    have hR2 : ∀ j, mm_Rs b j = some (b + 1) := fun j => Rs_sheet h2
    have hR3 : ∀ j, mm_Rs c j = some (c + 1) := fun j => Rs_sheet h3
    have loop : ∀ (d i : Nat) (I' : Nat → Nat → Int), i + d = 21 → (∀ x, x ≠ a + 1 → I' x = I x) → (∀ j, j < i → I' (a + 1) j = I (b + 1) j + I (c + 1) j) → Ok 2 [.inr (some a), .inr (some b), .inr (some c), .inl (i : Int)] [] (I', mm_R0) := by
      intro d
      induction d with
      | zero =>
        intro i I' hd hI hi
        refine c2 _ _ _ ?_
        simp only [b_X7_fillSum_2, i_ld, i_la, i_st, i_sa, i_c, i_inc, i_add, i_sub, i_mul, i_div, i_rem, i_remT, i_xor, i_dup, i_dup2, i_if, i_if2, i_sw, i_gi, i_gr, i_pi, i_pz, i_ial, i_ias, i_len, i_aal, i_gs, i_tal, i_cv, i_cs, i_ir, i_zr, i_vr, i_min, i_max, i_cpy, List.getElem?_cons_zero, List.getElem?_cons_succ, List.set_cons_zero, List.set_cons_succ, List.length_cons, List.length_nil, List.drop_succ_cons, List.drop_zero, List.take_succ_cons, List.take_zero, List.reverse_cons, List.reverse_nil, List.nil_append, List.cons_append, Option.toList_some, Option.toList_none, true_and, and_true, Nat.reduceAdd, Nat.reduceLT, Nat.reduceLeDiff, Option.some.injEq, exists_eq_left', Int.toNat_natCast, Nat.reduceSub, List.append_nil, List.replicate_succ, List.replicate_zero]
        refine ⟨fun q => hP I' hI (fun j hj => hi j (by omega)), fun q => by omega⟩
      | succ d ih =>
        intro i I' hd hI hi
        have e1 : I' (b + 1) = I (b + 1) := hI _ (by omega)
        have e2 : I' (c + 1) = I (c + 1) := hI _ (by omega)
        have b1 := h6 i (by omega)
        have b2 := h7 i (by omega)
        refine c2 _ _ _ ?_
        simp only [b_X7_fillSum_2, i_ld, i_la, i_st, i_sa, i_c, i_inc, i_add, i_sub, i_mul, i_div, i_rem, i_remT, i_xor, i_dup, i_dup2, i_if, i_if2, i_sw, i_gi, i_gr, i_pi, i_pz, i_ial, i_ias, i_len, i_aal, i_gs, i_tal, i_cv, i_cs, i_ir, i_zr, i_vr, i_min, i_max, i_cpy, List.getElem?_cons_zero, List.getElem?_cons_succ, List.set_cons_zero, List.set_cons_succ, List.length_cons, List.length_nil, List.drop_succ_cons, List.drop_zero, List.take_succ_cons, List.take_zero, List.reverse_cons, List.reverse_nil, List.nil_append, List.cons_append, Option.toList_some, Option.toList_none, true_and, and_true, Nat.reduceAdd, Nat.reduceLT, Nat.reduceLeDiff, Option.some.injEq, exists_eq_left', Int.toNat_natCast, Nat.reduceSub, List.append_nil, List.replicate_succ, List.replicate_zero, ha, hb, hc, h1, h2, h3, hs1, hs2, hs3, hs4, hs5, hs6, hR, hR2, hR3, e1, e2]
        refine ⟨fun q => by omega, fun q => ⟨⟨by omega, by omega⟩, fun _ => ⟨⟨by omega, by omega⟩, fun _ => ⟨⟨by omega, by omega⟩, ⟨by omega, by omega⟩, ⟨by omega, by omega⟩, ?_⟩⟩⟩⟩
        refine ih (i + 1) _ (by omega) (fun x hx => ?_) (fun j hj => ?_)
        · rw [← hI x hx]; funext j; simp [mm_set, hx]
        · by_cases e : j = i
          · subst e; simp [mm_set]
          · simp [mm_set, e]; exact hi j (by omega)
    refine c0 _ _ _ ?_
    simp only [b_X7_fillSum_0, i_ld, i_la, i_st, i_sa, i_c, i_inc, i_add, i_sub, i_mul, i_div, i_rem, i_remT, i_xor, i_dup, i_dup2, i_if, i_if2, i_sw, i_gi, i_gr, i_pi, i_pz, i_ial, i_ias, i_len, i_aal, i_gs, i_tal, i_cv, i_cs, i_ir, i_zr, i_vr, i_min, i_max, i_cpy, List.getElem?_cons_zero, List.getElem?_cons_succ, List.set_cons_zero, List.set_cons_succ, List.length_cons, List.length_nil, List.drop_succ_cons, List.drop_zero, List.take_succ_cons, List.take_zero, List.reverse_cons, List.reverse_nil, List.nil_append, List.cons_append, Option.toList_some, Option.toList_none, true_and, and_true, Nat.reduceAdd, Nat.reduceLT, Nat.reduceLeDiff, Option.some.injEq, exists_eq_left', Int.toNat_natCast, Nat.reduceSub, List.append_nil, List.replicate_succ, List.replicate_zero]
    exact loop 21 0 I (by omega) (fun _ _ => rfl) (fun j hj => by omega)
  · exact hT.elim
theorem sp_X7_fillSum : mm_Sp yX7_fillSum cX7_fillSum 4 none rm_X7_fillSum T_X7_fillSum := mm_meth (by decide) (by
  intro av σ Post h
  unfold T_X7_fillSum at h
  split at h
  · simp
  · exact h.elim) (fun p l e s m args below meth c G av σ Post hC hr _ hav hin hk hT => pv_X7_fillSum av σ Post hav hin hk hT _ (bk_X7_fillSum hC hr))
def T_X7_total : mm_T := fun av σ Post => match av with
  | [.inr (some a)] => σ.2 = mm_R0 ∧ (mm_sh a).1 = 6 ∧ (∀ i, i < 21 → 0 ≤ σ.1 (a + 1) i ∧ σ.1 (a + 1) i ≤ 1000) ∧ Post (some (.inl (sm (σ.1 (a + 1)) 21))) σ
  | _ => False
def rm_X7_total : Room := { frames := 0, cells := 0, slots := 0, locals := 0 }
def b_X7_total_0 (Ok : Nat → mm_K) (Post : Option mm_V → mm_S → Prop) (kf : Nat) : mm_K := i_c 0 (i_st 1 (i_c 0 (i_st 2 (Ok 4))))
def b_X7_total_4 (Ok : Nat → mm_K) (Post : Option mm_V → mm_S → Prop) (kf : Nat) : mm_K := i_ld 2 (i_c 21 (i_if2 (fun x y => y ≤ x) (i_ld 1 (i_ir Post kf)) (i_ld 1 (i_la 0 (i_gr 6 0 (i_ld 2 (i_ial (i_add (i_st 1 (i_inc 2 1 (Ok 4)))))))))))
def clo_X7_total (Ok : Nat → mm_K) (Post : Option mm_V → mm_S → Prop) (kf : Nat) : Prop := mm_imp (b_X7_total_0 Ok Post kf) (Ok 0) ∧ mm_imp (b_X7_total_4 Ok Post kf) (Ok 4)
set_option maxRecDepth 100000 in
set_option maxHeartbeats 4000000 in
theorem bk_X7_total {p : Program} {l : Launch} {e : Env} {s : State} {m : MethodId} {args : Array Value} {below : List Frame} {meth : Method} {c : Code} {G : mm_G} {σ0 : mm_S} {Post : Option mm_V → mm_S → Prop} (hC : mm_C p G s m args meth c cX7_total yX7_total.cls) (hr : meth.sig.returnType = some .int) : clo_X7_total (mm_O p l e rm_X7_total s m args below meth c G σ0.2.2 (MQ below (mm_Qc G σ0 rm_X7_total.cells rm_X7_total.slots Post) args s rm_X7_total.cells rm_X7_total.slots (mm_A G))) Post σ0.2.2 := ⟨(by unfold b_X7_total_0; exact (mm_ic hC dX7_total_0 ⟨by decide, by decide⟩ (mm_st_n hC dX7_total_1 rfl (mm_ic hC dX7_total_2 ⟨by decide, by decide⟩ (mm_st_n hC dX7_total_3 rfl (fun _ _ _ h => h)))))), (by unfold b_X7_total_4; exact (mm_ld_n hC dX7_total_4 rfl (mm_bp hC dX7_total_5 ⟨⟨by decide, by decide⟩, by decide⟩ (mm_ic_ge hC (t := 25) dX7_total_7 (by decide) (mm_ld_n hC dX7_total_25 rfl (mm_ir hC ⟨rfl, rfl⟩ hr dX7_total_26)) (mm_ld_n hC dX7_total_10 rfl (mm_la_n hC dX7_total_11 rfl (mm_gr hC cl_6 (by decide) rfl wd_108 dX7_total_12 (mm_ld_n hC dX7_total_15 rfl (mm_ial hC dX7_total_16 (mm_add hC dX7_total_17 (mm_st_n hC dX7_total_18 rfl (mm_inc hC dX7_total_19 (mm_goto hC (t := 4) dX7_total_22 (by decide) (fun _ _ _ h => h))))))))))))))⟩
set_option maxRecDepth 100000 in
set_option maxHeartbeats 8000000 in
theorem pv_X7_total : ∀ (av : List mm_V) (σ : mm_S) (Post : Option mm_V → mm_S → Prop), (∀ v ∈ av, mm_iv v) → (∀ a j, mm_in (σ.1 a j)) → σ.2.2 ≤ 348 → T_X7_total av σ Post → ∀ Ok : Nat → mm_K, clo_X7_total Ok Post σ.2.2 → Ok 0 (av ++ List.replicate (3 - av.length) (.inr none)) [] σ := by
  intro av σ Post hav hin hk hT Ok hcl
  obtain ⟨I, R0⟩ := σ
  unfold T_X7_total at hT
  split at hT
  · rename_i a
    obtain ⟨h0, hT⟩ := hT
    have h0 : R0 = mm_R0 := h0
    subst h0
    dsimp only at hT hin
    obtain ⟨c0, c4⟩ := hcl
    obtain ⟨h1, h2, hP⟩ := hT
    have ha := sh_lt h1 (by decide)
    obtain ⟨hs1, hs2⟩ := sh_sheet a ha h1
    have hR : ∀ j, mm_Rs a j = some (a + 1) := fun j => Rs_sheet h1
    have loop : ∀ (d i : Nat), i + d = 21 → Ok 4 [.inr (some a), .inl (sm (I (a + 1)) i), .inl (i : Int)] [] (I, mm_R0) := by
      intro d
      induction d with
      | zero =>
        intro i hd
        refine c4 _ _ _ ?_
        simp only [b_X7_total_4, i_ld, i_la, i_st, i_sa, i_c, i_inc, i_add, i_sub, i_mul, i_div, i_rem, i_remT, i_xor, i_dup, i_dup2, i_if, i_if2, i_sw, i_gi, i_gr, i_pi, i_pz, i_ial, i_ias, i_len, i_aal, i_gs, i_tal, i_cv, i_cs, i_ir, i_zr, i_vr, i_min, i_max, i_cpy, List.getElem?_cons_zero, List.getElem?_cons_succ, List.set_cons_zero, List.set_cons_succ, List.length_cons, List.length_nil, List.drop_succ_cons, List.drop_zero, List.take_succ_cons, List.take_zero, List.reverse_cons, List.reverse_nil, List.nil_append, List.cons_append, Option.toList_some, Option.toList_none, true_and, and_true, Nat.reduceAdd, Nat.reduceLT, Nat.reduceLeDiff, Option.some.injEq, exists_eq_left', Int.toNat_natCast, Nat.reduceSub, List.append_nil, List.replicate_succ, List.replicate_zero]
        refine ⟨fun q => ?_, fun q => by omega⟩
        rw [show i = 21 by omega]; exact hP
      | succ d ih =>
        intro i hd
        have b1 := h2 i (by omega)
        have b2 := sm_bound (f := I (a + 1)) (n := i) (c := 1000) (fun k hk => h2 k (by omega))
        refine c4 _ _ _ ?_
        simp only [b_X7_total_4, i_ld, i_la, i_st, i_sa, i_c, i_inc, i_add, i_sub, i_mul, i_div, i_rem, i_remT, i_xor, i_dup, i_dup2, i_if, i_if2, i_sw, i_gi, i_gr, i_pi, i_pz, i_ial, i_ias, i_len, i_aal, i_gs, i_tal, i_cv, i_cs, i_ir, i_zr, i_vr, i_min, i_max, i_cpy, List.getElem?_cons_zero, List.getElem?_cons_succ, List.set_cons_zero, List.set_cons_succ, List.length_cons, List.length_nil, List.drop_succ_cons, List.drop_zero, List.take_succ_cons, List.take_zero, List.reverse_cons, List.reverse_nil, List.nil_append, List.cons_append, Option.toList_some, Option.toList_none, true_and, and_true, Nat.reduceAdd, Nat.reduceLT, Nat.reduceLeDiff, Option.some.injEq, exists_eq_left', Int.toNat_natCast, Nat.reduceSub, List.append_nil, List.replicate_succ, List.replicate_zero, ha, h1, hs1, hs2, hR]
        refine ⟨fun q => by omega, fun q => ⟨⟨by omega, by omega⟩, fun _ => ⟨⟨by omega, by omega⟩, ⟨by omega, by omega⟩, ih (i + 1) (by omega)⟩⟩⟩
    refine c0 _ _ _ ?_
    simp only [b_X7_total_0, i_ld, i_la, i_st, i_sa, i_c, i_inc, i_add, i_sub, i_mul, i_div, i_rem, i_remT, i_xor, i_dup, i_dup2, i_if, i_if2, i_sw, i_gi, i_gr, i_pi, i_pz, i_ial, i_ias, i_len, i_aal, i_gs, i_tal, i_cv, i_cs, i_ir, i_zr, i_vr, i_min, i_max, i_cpy, List.getElem?_cons_zero, List.getElem?_cons_succ, List.set_cons_zero, List.set_cons_succ, List.length_cons, List.length_nil, List.drop_succ_cons, List.drop_zero, List.take_succ_cons, List.take_zero, List.reverse_cons, List.reverse_nil, List.nil_append, List.cons_append, Option.toList_some, Option.toList_none, true_and, and_true, Nat.reduceAdd, Nat.reduceLT, Nat.reduceLeDiff, Option.some.injEq, exists_eq_left', Int.toNat_natCast, Nat.reduceSub, List.append_nil, List.replicate_succ, List.replicate_zero]
    exact loop 21 0 (by omega)
  · exact hT.elim
theorem sp_X7_total : mm_Sp yX7_total cX7_total 3 (some .int) rm_X7_total T_X7_total := mm_meth (by decide) (by
  intro av σ Post h
  unfold T_X7_total at h
  split at h
  · simp
  · exact h.elim) (fun p l e s m args below meth c G av σ Post hC hr _ hav hin hk hT => pv_X7_total av σ Post hav hin hk hT _ (bk_X7_total hC hr))
end
