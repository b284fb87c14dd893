theorem in_t0 {w : Cond} (h : w ∈ k2_sels lw_privs) : w ∈ lw_tbl := List.mem_append_left _ h
theorem in_t1 {w : Cond} (h : w ∈ tables_1_1) : w ∈ lw_tbl := List.mem_append_right _ (show w ∈ tables_1_1 ++ (tables_1_2 ++ (tables_1_3 ++ (tables_1_4 ++ (tables_1_5)))) from List.mem_append_left _ h)
theorem in_t2 {w : Cond} (h : w ∈ tables_1_2) : w ∈ lw_tbl := List.mem_append_right _ (show w ∈ tables_1_1 ++ (tables_1_2 ++ (tables_1_3 ++ (tables_1_4 ++ (tables_1_5)))) from List.mem_append_right _ (List.mem_append_left _ h))
theorem in_t3 {w : Cond} (h : w ∈ tables_1_3) : w ∈ lw_tbl := List.mem_append_right _ (show w ∈ tables_1_1 ++ (tables_1_2 ++ (tables_1_3 ++ (tables_1_4 ++ (tables_1_5)))) from List.mem_append_right _ (List.mem_append_right _ (List.mem_append_left _ h)))
theorem in_t4 {w : Cond} (h : w ∈ tables_1_4) : w ∈ lw_tbl := List.mem_append_right _ (show w ∈ tables_1_1 ++ (tables_1_2 ++ (tables_1_3 ++ (tables_1_4 ++ (tables_1_5)))) from List.mem_append_right _ (List.mem_append_right _ (List.mem_append_right _ (List.mem_append_left _ h))))
theorem in_t5 {w : Cond} (h : w ∈ tables_1_5) : w ∈ lw_tbl := List.mem_append_right _ (show w ∈ tables_1_1 ++ (tables_1_2 ++ (tables_1_3 ++ (tables_1_4 ++ (tables_1_5)))) from List.mem_append_right _ (List.mem_append_right _ (List.mem_append_right _ (List.mem_append_right _ (h)))))
theorem wd_0 : Cond.selects "PieceSurfaces$Skeleton" yX8_joinFaces yX8_joinFaces ∈ lw_gd := mm_gd (in_t0 (List.mem_of_getElem? (i := 0) rfl)) rfl
theorem wd_1 : Cond.selects "PieceSurfaces$Skeleton" yX8_joinArrows yX8_joinArrows ∈ lw_gd := mm_gd (in_t0 (List.mem_of_getElem? (i := 1) rfl)) rfl
theorem wd_2 : Cond.selects "PieceSurfaces$Skeleton" yX8_measureLines yX8_measureLines ∈ lw_gd := mm_gd (in_t0 (List.mem_of_getElem? (i := 2) rfl)) rfl
theorem wd_3 : Cond.selects "PieceSurfaces$Survey" yX9_isGood yX9_isGood ∈ lw_gd := mm_gd (in_t0 (List.mem_of_getElem? (i := 3) rfl)) rfl
theorem wd_4 : Cond.selects "PieceSurfaces$Survey" yX9_trace yX9_trace ∈ lw_gd := mm_gd (in_t0 (List.mem_of_getElem? (i := 4) rfl)) rfl
theorem wd_5 : Cond.selects "PieceSurfaces$Survey" yX9_joinPieces yX9_joinPieces ∈ lw_gd := mm_gd (in_t0 (List.mem_of_getElem? (i := 5) rfl)) rfl
theorem wd_6 : Cond.selects "PieceSurfaces$Survey" yX9_sideAt yX9_sideAt ∈ lw_gd := mm_gd (in_t0 (List.mem_of_getElem? (i := 6) rfl)) rfl
theorem wd_7 : Cond.selects "PieceSurfaces$Book" yX0_isTrue yX0_isTrue ∈ lw_gd := mm_gd (in_t0 (List.mem_of_getElem? (i := 7) rfl)) rfl
theorem wd_8 : Cond.selects "PieceSurfaces$Matching" yX4_enter yX4_enter ∈ lw_gd := mm_gd (in_t0 (List.mem_of_getElem? (i := 8) rfl)) rfl
theorem wd_9 : Cond.selects "PieceSurfaces" yX11_hasFace yX11_hasFace ∈ lw_gd := mm_gd (in_t0 (List.mem_of_getElem? (i := 9) rfl)) rfl
theorem wd_10 : Cond.selects "PieceSurfaces" yX11_hasBody yX11_hasBody ∈ lw_gd := mm_gd (in_t0 (List.mem_of_getElem? (i := 10) rfl)) rfl
theorem wd_11 : Cond.selects "PieceSurfaces" yX11_hasEdge yX11_hasEdge ∈ lw_gd := mm_gd (in_t0 (List.mem_of_getElem? (i := 11) rfl)) rfl
theorem wd_12 : Cond.selects "PieceSurfaces" yX11_hasSurface yX11_hasSurface ∈ lw_gd := mm_gd (in_t0 (List.mem_of_getElem? (i := 12) rfl)) rfl
theorem wd_13 : Cond.selects "PieceSurfaces$Survey" yX9_type yX9_type ∈ lw_gd := mm_gd (in_t0 (List.mem_of_getElem? (i := 13) rfl)) rfl
theorem wd_14 : Cond.selects "PieceSurfaces$Survey" yX9_splits yX9_splits ∈ lw_gd := mm_gd (in_t0 (List.mem_of_getElem? (i := 14) rfl)) rfl
theorem wd_15 : Cond.selects "PieceSurfaces$Survey" yX9_listUsed yX9_listUsed ∈ lw_gd := mm_gd (in_t0 (List.mem_of_getElem? (i := 15) rfl)) rfl
theorem wd_16 : Cond.selects "PieceSurfaces$Survey" yX9_nextPart yX9_nextPart ∈ lw_gd := mm_gd (in_t0 (List.mem_of_getElem? (i := 16) rfl)) rfl
theorem wd_17 : Cond.selects "PieceSurfaces" yX11_driftOnce yX11_driftOnce ∈ lw_gd := mm_gd (in_t0 (List.mem_of_getElem? (i := 17) rfl)) rfl
theorem wd_18 : Cond.selects "PieceSurfaces" yX11_hasImage yX11_hasImage ∈ lw_gd := mm_gd (in_t0 (List.mem_of_getElem? (i := 18) rfl)) rfl
theorem wd_19 : Cond.selects "PieceSurfacesModel" yX12_unglueAll yX12_unglueAll ∈ lw_gd := mm_gd (in_t0 (List.mem_of_getElem? (i := 19) rfl)) rfl
theorem wd_20 : Cond.selects "PieceSurfacesModel" yX12_freeMany yX12_freeMany ∈ lw_gd := mm_gd (in_t0 (List.mem_of_getElem? (i := 20) rfl)) rfl
theorem wd_21 : Cond.selects "PieceSurfacesModel" yX12_walls yX12_walls ∈ lw_gd := mm_gd (in_t0 (List.mem_of_getElem? (i := 21) rfl)) rfl
theorem wd_22 : Cond.selects "PieceSurfacesModel" yX12_isFree yX12_isFree ∈ lw_gd := mm_gd (in_t0 (List.mem_of_getElem? (i := 22) rfl)) rfl
theorem wd_23 : Cond.selects "PieceSurfacesModel" yX12_points yX12_points ∈ lw_gd := mm_gd (in_t0 (List.mem_of_getElem? (i := 23) rfl)) rfl
theorem wd_24 : Cond.selects "PieceSurfacesModel" yX12_layRoom yX12_layRoom ∈ lw_gd := mm_gd (in_t0 (List.mem_of_getElem? (i := 24) rfl)) rfl
theorem wd_25 : Cond.selects "PieceSurfacesModel" yX12_glueCorners yX12_glueCorners ∈ lw_gd := mm_gd (in_t0 (List.mem_of_getElem? (i := 25) rfl)) rfl
theorem wd_26 : Cond.selects "PieceSurfacesModel" yX12_goesTo yX12_goesTo ∈ lw_gd := mm_gd (in_t0 (List.mem_of_getElem? (i := 26) rfl)) rfl
theorem wd_27 : Cond.selects "PieceSurfacesModel" yX12_lines yX12_lines ∈ lw_gd := mm_gd (in_t0 (List.mem_of_getElem? (i := 27) rfl)) rfl
theorem wd_28 : Cond.selects "PieceSurfacesModel" yX12_bents yX12_bents ∈ lw_gd := mm_gd (in_t0 (List.mem_of_getElem? (i := 28) rfl)) rfl
theorem wd_29 : Cond.selects "PieceSurfacesModel" yX12_bentMany yX12_bentMany ∈ lw_gd := mm_gd (in_t0 (List.mem_of_getElem? (i := 29) rfl)) rfl
theorem wd_30 : Cond.selects "PieceSurfacesModel" yX12_isBent yX12_isBent ∈ lw_gd := mm_gd (in_t0 (List.mem_of_getElem? (i := 30) rfl)) rfl
theorem wd_31 : Cond.selects "PieceSurfacesModel" yX12_goodMany yX12_goodMany ∈ lw_gd := mm_gd (in_t0 (List.mem_of_getElem? (i := 31) rfl)) rfl
theorem wd_32 : Cond.selects "PieceSurfacesModel" yX12_isGood yX12_isGood ∈ lw_gd := mm_gd (in_t0 (List.mem_of_getElem? (i := 32) rfl)) rfl
theorem wd_33 : Cond.selects "PieceSurfacesModel" yX12_layAbout yX12_layAbout ∈ lw_gd := mm_gd (in_t0 (List.mem_of_getElem? (i := 33) rfl)) rfl
theorem wd_34 : Cond.selects "PieceSurfacesModel" yX12_parts yX12_parts ∈ lw_gd := mm_gd (in_t0 (List.mem_of_getElem? (i := 34) rfl)) rfl
theorem wd_35 : Cond.selects "PieceSurfacesModel" yX12_join yX12_join ∈ lw_gd := mm_gd (in_t0 (List.mem_of_getElem? (i := 35) rfl)) rfl
theorem wd_36 : Cond.selects "PieceSurfacesModel" yX12_joinArcs yX12_joinArcs ∈ lw_gd := mm_gd (in_t0 (List.mem_of_getElem? (i := 36) rfl)) rfl
theorem wd_37 : Cond.selects "PieceSurfacesModel" yX12_arcsOf yX12_arcsOf ∈ lw_gd := mm_gd (in_t0 (List.mem_of_getElem? (i := 37) rfl)) rfl
theorem wd_38 : Cond.selects "PieceSurfacesModel" yX12_pieceAt yX12_pieceAt ∈ lw_gd := mm_gd (in_t0 (List.mem_of_getElem? (i := 38) rfl)) rfl
theorem wd_39 : Cond.selects "PieceSurfacesModel" yX12_isThere yX12_isThere ∈ lw_gd := mm_gd (in_t0 (List.mem_of_getElem? (i := 39) rfl)) rfl
theorem wd_40 : Cond.selects "PieceSurfacesModel" yX12_isTwoSided yX12_isTwoSided ∈ lw_gd := mm_gd (in_t0 (List.mem_of_getElem? (i := 40) rfl)) rfl
theorem wd_41 : Cond.selects "PieceSurfacesModel" yX12_euler yX12_euler ∈ lw_gd := mm_gd (in_t0 (List.mem_of_getElem? (i := 41) rfl)) rfl
theorem wd_42 : Cond.selects "PieceSurfacesModel" yX12_allPieces yX12_allPieces ∈ lw_gd := mm_gd (in_t0 (List.mem_of_getElem? (i := 42) rfl)) rfl
theorem wd_43 : Cond.selects "PieceSurfacesModel" yX12_weightOf yX12_weightOf ∈ lw_gd := mm_gd (in_t0 (List.mem_of_getElem? (i := 43) rfl)) rfl
theorem wd_44 : Cond.selects "PieceSurfacesModel" yX12_arcsOfWall yX12_arcsOfWall ∈ lw_gd := mm_gd (in_t0 (List.mem_of_getElem? (i := 44) rfl)) rfl
theorem wd_45 : Cond.selects "PieceSurfacesModel" yX12_border yX12_border ∈ lw_gd := mm_gd (in_t0 (List.mem_of_getElem? (i := 45) rfl)) rfl
theorem wd_46 : Cond.selects "PieceSurfacesModel" yX12_characteristic yX12_characteristic ∈ lw_gd := mm_gd (in_t0 (List.mem_of_getElem? (i := 46) rfl)) rfl
theorem wd_47 : Cond.selects "PieceSurfacesModel" yX12_wrongEntry yX12_wrongEntry ∈ lw_gd := mm_gd (in_t0 (List.mem_of_getElem? (i := 47) rfl)) rfl
theorem wd_48 : Cond.selects "PieceSurfacesModel" yX12_isSurface yX12_isSurface ∈ lw_gd := mm_gd (in_t0 (List.mem_of_getElem? (i := 48) rfl)) rfl
theorem wd_49 : Cond.selects "PieceSurfacesModel" yX12_isWell yX12_isWell ∈ lw_gd := mm_gd (in_t0 (List.mem_of_getElem? (i := 49) rfl)) rfl
theorem wd_50 : Cond.selects "PieceSurfacesModel" yX12_meets yX12_meets ∈ lw_gd := mm_gd (in_t0 (List.mem_of_getElem? (i := 50) rfl)) rfl
theorem wd_51 : Cond.selects "PieceSurfacesModel" yX12_crosses yX12_crosses ∈ lw_gd := mm_gd (in_t0 (List.mem_of_getElem? (i := 51) rfl)) rfl
theorem wd_52 : Cond.selects "PieceSurfacesModel" yX12_isBody yX12_isBody ∈ lw_gd := mm_gd (in_t0 (List.mem_of_getElem? (i := 52) rfl)) rfl
theorem wd_53 : Cond.selects "PieceSurfacesModel" yX12_aroundOf yX12_aroundOf ∈ lw_gd := mm_gd (in_t0 (List.mem_of_getElem? (i := 53) rfl)) rfl
theorem wd_54 : Cond.selects "PieceSurfacesModel" yX12_ofWell yX12_ofWell ∈ lw_gd := mm_gd (in_t0 (List.mem_of_getElem? (i := 54) rfl)) rfl
theorem wd_55 : Cond.selects "PieceSurfacesModel" yX12_name yX12_name ∈ lw_gd := mm_gd (in_t0 (List.mem_of_getElem? (i := 55) rfl)) rfl
theorem wd_56 : Cond.selects "PieceSurfacesModel" yX12_split yX12_split ∈ lw_gd := mm_gd (in_t0 (List.mem_of_getElem? (i := 56) rfl)) rfl
theorem wd_57 : Cond.selects "PieceSurfacesModel" yX12_remember yX12_remember ∈ lw_gd := mm_gd (in_t0 (List.mem_of_getElem? (i := 57) rfl)) rfl
theorem wd_58 : Cond.selects "PieceSurfacesModel" yX12_copyRow yX12_copyRow ∈ lw_gd := mm_gd (in_t0 (List.mem_of_getElem? (i := 58) rfl)) rfl
theorem wd_59 : Cond.selects "PieceSurfacesModel" yX12_mayGlue yX12_mayGlue ∈ lw_gd := mm_gd (in_t0 (List.mem_of_getElem? (i := 59) rfl)) rfl
theorem wd_60 : Cond.selects "PieceSurfacesModel" yX12_glueTo yX12_glueTo ∈ lw_gd := mm_gd (in_t0 (List.mem_of_getElem? (i := 60) rfl)) rfl
theorem wd_61 : Cond.selects "PieceSurfacesModel" yX12_newSurface yX12_newSurface ∈ lw_gd := mm_gd (in_t0 (List.mem_of_getElem? (i := 61) rfl)) rfl
theorem wd_62 : Cond.selects "PieceSurfacesModel" yX12_chance yX12_chance ∈ lw_gd := mm_gd (in_t0 (List.mem_of_getElem? (i := 62) rfl)) rfl
theorem wd_63 : Cond.selects "PieceSurfacesModel" yX12_draw yX12_draw ∈ lw_gd := mm_gd (in_t0 (List.mem_of_getElem? (i := 63) rfl)) rfl
theorem wd_64 : Cond.initialized "PieceSurfacesLaw" ∈ lw_gd := mm_gd (in_t1 (List.mem_of_getElem? (i := 0) rfl)) rfl
theorem wd_65 : Cond.initialized "PieceSurfaces" ∈ lw_gd := mm_gd (in_t1 (List.mem_of_getElem? (i := 1) rfl)) rfl
theorem wd_66 : Cond.initialized "PieceSurfaces$Survey" ∈ lw_gd := mm_gd (in_t1 (List.mem_of_getElem? (i := 2) rfl)) rfl
theorem wd_67 : Cond.initialized "PieceSurfaces$World" ∈ lw_gd := mm_gd (in_t1 (List.mem_of_getElem? (i := 3) rfl)) rfl
theorem wd_68 : Cond.initialized "PieceSurfaces$Sheet" ∈ lw_gd := mm_gd (in_t1 (List.mem_of_getElem? (i := 4) rfl)) rfl
theorem wd_69 : Cond.initialized "java/util/Arrays" ∈ lw_gd := mm_gd (in_t1 (List.mem_of_getElem? (i := 5) rfl)) rfl
theorem wd_70 : Cond.initialized "PieceSurfaces$Skeleton" ∈ lw_gd := mm_gd (in_t1 (List.mem_of_getElem? (i := 6) rfl)) rfl
theorem wd_71 : Cond.initialized "PieceSurfaces$Classes" ∈ lw_gd := mm_gd (in_t1 (List.mem_of_getElem? (i := 7) rfl)) rfl
theorem wd_72 : Cond.initialized "PieceSurfaces$Matching" ∈ lw_gd := mm_gd (in_t1 (List.mem_of_getElem? (i := 8) rfl)) rfl
theorem wd_73 : Cond.initialized "PieceSurfaces$Past" ∈ lw_gd := mm_gd (in_t1 (List.mem_of_getElem? (i := 9) rfl)) rfl
theorem wd_74 : Cond.initialized "PieceSurfaces$Book" ∈ lw_gd := mm_gd (in_t1 (List.mem_of_getElem? (i := 10) rfl)) rfl
theorem wd_75 : Cond.initialized "PieceSurfaces$Dice" ∈ lw_gd := mm_gd (in_t1 (List.mem_of_getElem? (i := 11) rfl)) rfl
theorem wd_76 : Cond.initialized "PieceSurfaces$Image" ∈ lw_gd := mm_gd (in_t1 (List.mem_of_getElem? (i := 12) rfl)) rfl
theorem wd_77 : Cond.initialized "PieceSurfacesModel" ∈ lw_gd := mm_gd (in_t1 (List.mem_of_getElem? (i := 13) rfl)) rfl
theorem wd_78 : Cond.initialized "java/lang/Math" ∈ lw_gd := mm_gd (in_t1 (List.mem_of_getElem? (i := 14) rfl)) rfl
theorem wd_79 : Cond.initialized "PieceSurfaces$Shape" ∈ lw_gd := mm_gd (in_t1 (List.mem_of_getElem? (i := 15) rfl)) rfl
theorem wd_80 : Cond.initialized "java/lang/System" ∈ lw_gd := mm_gd (in_t1 (List.mem_of_getElem? (i := 16) rfl)) rfl
theorem wd_81 : Cond.classLink "PieceSurfacesLaw" 7 "PieceSurfaces" ∈ lw_gd := mm_gd (in_t1 (List.mem_of_getElem? (i := 17) rfl)) rfl
theorem wd_82 : Cond.instantiable "PieceSurfaces" 7 ∈ lw_gd := mm_gd (in_t1 (List.mem_of_getElem? (i := 18) rfl)) rfl
theorem wd_83 : Cond.methodLink "PieceSurfacesLaw" 9 yX11_init ∈ lw_gd := mm_gd (in_t1 (List.mem_of_getElem? (i := 19) rfl)) rfl
theorem wd_84 : Cond.instanceMethod yX11_init ∈ lw_gd := mm_gd (in_t1 (List.mem_of_getElem? (i := 20) rfl)) rfl
theorem wd_85 : Cond.code yX11_init prog_1_method_1_code 2 none ∈ lw_gd := mm_gd (in_t1 (List.mem_of_getElem? (i := 21) rfl)) rfl
theorem wd_86 : Cond.methodLink "PieceSurfaces" 1 ⟨"java/lang/Object", "<init>", "()V"⟩ ∈ lw_gd := mm_gd (in_t1 (List.mem_of_getElem? (i := 22) rfl)) rfl
theorem wd_87 : Cond.instanceMethod ⟨"java/lang/Object", "<init>", "()V"⟩ ∈ lw_gd := mm_gd (in_t1 (List.mem_of_getElem? (i := 23) rfl)) rfl
theorem wd_88 : Cond.code objectInit ⟨#[0xb1]⟩ 1 none ∈ lw_gd := mm_gd (in_t1 (List.mem_of_getElem? (i := 24) rfl)) rfl
theorem wd_89 : Cond.classLink "PieceSurfaces" 7 "PieceSurfaces$Survey" ∈ lw_gd := mm_gd (in_t1 (List.mem_of_getElem? (i := 25) rfl)) rfl
theorem wd_90 : Cond.instantiable "PieceSurfaces$Survey" 12 ∈ lw_gd := mm_gd (in_t1 (List.mem_of_getElem? (i := 26) rfl)) rfl
theorem wd_91 : Cond.methodLink "PieceSurfaces" 9 yX9_init ∈ lw_gd := mm_gd (in_t1 (List.mem_of_getElem? (i := 27) rfl)) rfl
theorem wd_92 : Cond.instanceMethod yX9_init ∈ lw_gd := mm_gd (in_t1 (List.mem_of_getElem? (i := 28) rfl)) rfl
theorem wd_93 : Cond.code yX9_init prog_11_method_1_code 1 none ∈ lw_gd := mm_gd (in_t1 (List.mem_of_getElem? (i := 29) rfl)) rfl
theorem wd_94 : Cond.methodLink "PieceSurfaces$Survey" 3 ⟨"java/lang/Object", "<init>", "()V"⟩ ∈ lw_gd := mm_gd (in_t1 (List.mem_of_getElem? (i := 30) rfl)) rfl
theorem wd_95 : Cond.classLink "PieceSurfaces$Survey" 9 "PieceSurfaces$World" ∈ lw_gd := mm_gd (in_t1 (List.mem_of_getElem? (i := 31) rfl)) rfl
theorem wd_96 : Cond.instantiable "PieceSurfaces$World" 5 ∈ lw_gd := mm_gd (in_t1 (List.mem_of_getElem? (i := 32) rfl)) rfl
theorem wd_97 : Cond.methodLink "PieceSurfaces$Survey" 11 yX10_init ∈ lw_gd := mm_gd (in_t1 (List.mem_of_getElem? (i := 33) rfl)) rfl
theorem wd_98 : Cond.instanceMethod yX10_init ∈ lw_gd := mm_gd (in_t1 (List.mem_of_getElem? (i := 34) rfl)) rfl
theorem wd_99 : Cond.code yX10_init prog_12_method_1_code 2 none ∈ lw_gd := mm_gd (in_t1 (List.mem_of_getElem? (i := 35) rfl)) rfl
theorem wd_100 : Cond.methodLink "PieceSurfaces$World" 3 ⟨"java/lang/Object", "<init>", "()V"⟩ ∈ lw_gd := mm_gd (in_t1 (List.mem_of_getElem? (i := 36) rfl)) rfl
theorem wd_101 : Cond.classLink "PieceSurfaces$World" 20 "PieceSurfaces$Sheet" ∈ lw_gd := mm_gd (in_t1 (List.mem_of_getElem? (i := 37) rfl)) rfl
theorem wd_103 : Cond.instantiable "PieceSurfaces$Sheet" 1 ∈ lw_gd := mm_gd (in_t1 (List.mem_of_getElem? (i := 39) rfl)) rfl
theorem wd_104 : Cond.methodLink "PieceSurfaces$World" 26 yX7_init ∈ lw_gd := mm_gd (in_t1 (List.mem_of_getElem? (i := 40) rfl)) rfl
theorem wd_105 : Cond.instanceMethod yX7_init ∈ lw_gd := mm_gd (in_t1 (List.mem_of_getElem? (i := 41) rfl)) rfl
theorem wd_106 : Cond.code yX7_init prog_9_method_1_code 1 none ∈ lw_gd := mm_gd (in_t1 (List.mem_of_getElem? (i := 42) rfl)) rfl
theorem wd_107 : Cond.methodLink "PieceSurfaces$Sheet" 1 ⟨"java/lang/Object", "<init>", "()V"⟩ ∈ lw_gd := mm_gd (in_t1 (List.mem_of_getElem? (i := 43) rfl)) rfl
theorem wd_108 : Cond.fieldLink "PieceSurfaces$Sheet" 9 "PieceSurfaces$Sheet" "numbers" "[I" ∈ lw_gd := mm_gd (in_t1 (List.mem_of_getElem? (i := 44) rfl)) rfl
theorem wd_109 : Cond.fieldLink "PieceSurfaces$Matching" 43 "PieceSurfaces$Sheet" "numbers" "[I" ∈ lw_gd := mm_gd (in_t1 (List.mem_of_getElem? (i := 45) rfl)) rfl
theorem wd_110 : Cond.fieldLink "PieceSurfaces" 142 "PieceSurfaces$Sheet" "numbers" "[I" ∈ lw_gd := mm_gd (in_t1 (List.mem_of_getElem? (i := 46) rfl)) rfl
theorem wd_111 : Cond.fieldLink "PieceSurfaces$Survey" 129 "PieceSurfaces$Sheet" "numbers" "[I" ∈ lw_gd := mm_gd (in_t1 (List.mem_of_getElem? (i := 47) rfl)) rfl
theorem wd_115 : Cond.arrayClass .int ∈ lw_gd := mm_gd (in_t1 (List.mem_of_getElem? (i := 51) rfl)) rfl
theorem wd_116 : Cond.methodLink "PieceSurfaces$World" 31 yJ7_fill_53178 ∈ lw_gd := mm_gd (in_t1 (List.mem_of_getElem? (i := 52) rfl)) rfl
theorem wd_117 : Cond.static yJ7_fill_53178 ∈ lw_gd := mm_gd (in_t1 (List.mem_of_getElem? (i := 53) rfl)) rfl
theorem wd_118 : Cond.code yJ7_fill_53178 prog_17_method_103_code 4 none ∈ lw_gd := mm_gd (in_t1 (List.mem_of_getElem? (i := 54) rfl)) rfl
theorem wd_119 : Cond.fieldLink "PieceSurfaces$World" 27 "PieceSurfaces$World" "many" "I" ∈ lw_gd := mm_gd (in_t1 (List.mem_of_getElem? (i := 55) rfl)) rfl
theorem wd_120 : Cond.fieldLink "PieceSurfaces$Skeleton" 39 "PieceSurfaces$World" "many" "I" ∈ lw_gd := mm_gd (in_t1 (List.mem_of_getElem? (i := 56) rfl)) rfl
theorem wd_121 : Cond.fieldLink "PieceSurfaces" 56 "PieceSurfaces$World" "many" "I" ∈ lw_gd := mm_gd (in_t1 (List.mem_of_getElem? (i := 57) rfl)) rfl
theorem wd_122 : Cond.fieldLink "PieceSurfaces$Survey" 163 "PieceSurfaces$World" "many" "I" ∈ lw_gd := mm_gd (in_t1 (List.mem_of_getElem? (i := 58) rfl)) rfl
theorem wd_123 : Cond.fieldLink "PieceSurfaces$World" 37 "PieceSurfaces$World" "count" "I" ∈ lw_gd := mm_gd (in_t1 (List.mem_of_getElem? (i := 59) rfl)) rfl
theorem wd_124 : Cond.fieldLink "PieceSurfaces" 66 "PieceSurfaces$World" "count" "I" ∈ lw_gd := mm_gd (in_t1 (List.mem_of_getElem? (i := 60) rfl)) rfl
theorem wd_125 : Cond.fieldLink "PieceSurfaces$Book" 28 "PieceSurfaces$World" "count" "I" ∈ lw_gd := mm_gd (in_t1 (List.mem_of_getElem? (i := 61) rfl)) rfl
theorem wd_126 : Cond.fieldLink "PieceSurfaces$World" 11 "PieceSurfaces$World" "partner" "[I" ∈ lw_gd := mm_gd (in_t1 (List.mem_of_getElem? (i := 62) rfl)) rfl
theorem wd_127 : Cond.fieldLink "PieceSurfaces$Matching" 33 "PieceSurfaces$World" "partner" "[I" ∈ lw_gd := mm_gd (in_t1 (List.mem_of_getElem? (i := 63) rfl)) rfl
theorem wd_128 : Cond.fieldLink "PieceSurfaces" 102 "PieceSurfaces$World" "partner" "[I" ∈ lw_gd := mm_gd (in_t1 (List.mem_of_getElem? (i := 64) rfl)) rfl
theorem wd_129 : Cond.fieldLink "PieceSurfaces$Survey" 119 "PieceSurfaces$World" "partner" "[I" ∈ lw_gd := mm_gd (in_t1 (List.mem_of_getElem? (i := 65) rfl)) rfl
theorem wd_130 : Cond.fieldLink "PieceSurfaces$World" 17 "PieceSurfaces$World" "way" "[I" ∈ lw_gd := mm_gd (in_t1 (List.mem_of_getElem? (i := 66) rfl)) rfl
theorem wd_131 : Cond.fieldLink "PieceSurfaces" 106 "PieceSurfaces$World" "way" "[I" ∈ lw_gd := mm_gd (in_t1 (List.mem_of_getElem? (i := 67) rfl)) rfl
theorem wd_132 : Cond.fieldLink "PieceSurfaces$World" 22 "PieceSurfaces$World" "sheets" "[LPieceSurfaces$Sheet;" ∈ lw_gd := mm_gd (in_t1 (List.mem_of_getElem? (i := 68) rfl)) rfl
theorem wd_133 : Cond.fieldLink "PieceSurfaces$Book" 31 "PieceSurfaces$World" "sheets" "[LPieceSurfaces$Sheet;" ∈ lw_gd := mm_gd (in_t1 (List.mem_of_getElem? (i := 69) rfl)) rfl
theorem wd_134 : Cond.fieldLink "PieceSurfaces" 138 "PieceSurfaces$World" "sheets" "[LPieceSurfaces$Sheet;" ∈ lw_gd := mm_gd (in_t1 (List.mem_of_getElem? (i := 70) rfl)) rfl
theorem wd_146 : Cond.classLink "PieceSurfaces$Survey" 18 "PieceSurfaces$Skeleton" ∈ lw_gd := mm_gd (in_t1 (List.mem_of_getElem? (i := 82) rfl)) rfl
theorem wd_147 : Cond.instantiable "PieceSurfaces$Skeleton" 9 ∈ lw_gd := mm_gd (in_t1 (List.mem_of_getElem? (i := 83) rfl)) rfl
theorem wd_148 : Cond.methodLink "PieceSurfaces$Survey" 20 yX8_init ∈ lw_gd := mm_gd (in_t1 (List.mem_of_getElem? (i := 84) rfl)) rfl
theorem wd_149 : Cond.instanceMethod yX8_init ∈ lw_gd := mm_gd (in_t1 (List.mem_of_getElem? (i := 85) rfl)) rfl
theorem wd_150 : Cond.code yX8_init prog_10_method_1_code 1 none ∈ lw_gd := mm_gd (in_t1 (List.mem_of_getElem? (i := 86) rfl)) rfl
theorem wd_151 : Cond.methodLink "PieceSurfaces$Skeleton" 1 ⟨"java/lang/Object", "<init>", "()V"⟩ ∈ lw_gd := mm_gd (in_t1 (List.mem_of_getElem? (i := 87) rfl)) rfl
theorem wd_152 : Cond.classLink "PieceSurfaces$Skeleton" 7 "PieceSurfaces$Classes" ∈ lw_gd := mm_gd (in_t1 (List.mem_of_getElem? (i := 88) rfl)) rfl
theorem wd_153 : Cond.instantiable "PieceSurfaces$Classes" 2 ∈ lw_gd := mm_gd (in_t1 (List.mem_of_getElem? (i := 89) rfl)) rfl
theorem wd_154 : Cond.methodLink "PieceSurfaces$Skeleton" 11 yX1_init ∈ lw_gd := mm_gd (in_t1 (List.mem_of_getElem? (i := 90) rfl)) rfl
theorem wd_155 : Cond.instanceMethod yX1_init ∈ lw_gd := mm_gd (in_t1 (List.mem_of_getElem? (i := 91) rfl)) rfl
theorem wd_156 : Cond.code yX1_init prog_3_method_1_code 2 none ∈ lw_gd := mm_gd (in_t1 (List.mem_of_getElem? (i := 92) rfl)) rfl
theorem wd_157 : Cond.methodLink "PieceSurfaces$Classes" 1 ⟨"java/lang/Object", "<init>", "()V"⟩ ∈ lw_gd := mm_gd (in_t1 (List.mem_of_getElem? (i := 93) rfl)) rfl
theorem wd_158 : Cond.fieldLink "PieceSurfaces$Classes" 7 "PieceSurfaces$Classes" "up" "[I" ∈ lw_gd := mm_gd (in_t1 (List.mem_of_getElem? (i := 94) rfl)) rfl
theorem wd_159 : Cond.fieldLink "PieceSurfaces$Classes" 19 "PieceSurfaces$Classes" "size" "I" ∈ lw_gd := mm_gd (in_t1 (List.mem_of_getElem? (i := 95) rfl)) rfl
theorem wd_165 : Cond.fieldLink "PieceSurfaces$Skeleton" 14 "PieceSurfaces$Skeleton" "corners" "LPieceSurfaces$Classes;" ∈ lw_gd := mm_gd (in_t1 (List.mem_of_getElem? (i := 101) rfl)) rfl
theorem wd_166 : Cond.fieldLink "PieceSurfaces$Skeleton" 20 "PieceSurfaces$Skeleton" "edges" "LPieceSurfaces$Classes;" ∈ lw_gd := mm_gd (in_t1 (List.mem_of_getElem? (i := 102) rfl)) rfl
theorem wd_167 : Cond.fieldLink "PieceSurfaces$Skeleton" 23 "PieceSurfaces$Skeleton" "arrows" "LPieceSurfaces$Classes;" ∈ lw_gd := mm_gd (in_t1 (List.mem_of_getElem? (i := 103) rfl)) rfl
theorem wd_168 : Cond.fieldLink "PieceSurfaces$Skeleton" 26 "PieceSurfaces$Skeleton" "vertexOf" "[I" ∈ lw_gd := mm_gd (in_t1 (List.mem_of_getElem? (i := 104) rfl)) rfl
theorem wd_169 : Cond.fieldLink "PieceSurfaces" 113 "PieceSurfaces$Skeleton" "vertexOf" "[I" ∈ lw_gd := mm_gd (in_t1 (List.mem_of_getElem? (i := 105) rfl)) rfl
theorem wd_170 : Cond.fieldLink "PieceSurfaces$Survey" 166 "PieceSurfaces$Skeleton" "vertexOf" "[I" ∈ lw_gd := mm_gd (in_t1 (List.mem_of_getElem? (i := 106) rfl)) rfl
theorem wd_171 : Cond.fieldLink "PieceSurfaces$Skeleton" 30 "PieceSurfaces$Skeleton" "lineOf" "[I" ∈ lw_gd := mm_gd (in_t1 (List.mem_of_getElem? (i := 107) rfl)) rfl
theorem wd_172 : Cond.fieldLink "PieceSurfaces" 119 "PieceSurfaces$Skeleton" "lineOf" "[I" ∈ lw_gd := mm_gd (in_t1 (List.mem_of_getElem? (i := 108) rfl)) rfl
theorem wd_173 : Cond.fieldLink "PieceSurfaces$Skeleton" 33 "PieceSurfaces$Skeleton" "degree" "[I" ∈ lw_gd := mm_gd (in_t1 (List.mem_of_getElem? (i := 109) rfl)) rfl
theorem wd_174 : Cond.fieldLink "PieceSurfaces" 122 "PieceSurfaces$Skeleton" "degree" "[I" ∈ lw_gd := mm_gd (in_t1 (List.mem_of_getElem? (i := 110) rfl)) rfl
theorem wd_175 : Cond.fieldLink "PieceSurfaces$Skeleton" 36 "PieceSurfaces$Skeleton" "firstEdge" "[I" ∈ lw_gd := mm_gd (in_t1 (List.mem_of_getElem? (i := 111) rfl)) rfl
theorem wd_176 : Cond.fieldLink "PieceSurfaces$Survey" 109 "PieceSurfaces$Skeleton" "firstEdge" "[I" ∈ lw_gd := mm_gd (in_t1 (List.mem_of_getElem? (i := 112) rfl)) rfl
theorem wd_177 : Cond.fieldLink "PieceSurfaces$Skeleton" 64 "PieceSurfaces$Skeleton" "vertices" "I" ∈ lw_gd := mm_gd (in_t1 (List.mem_of_getElem? (i := 113) rfl)) rfl
theorem wd_178 : Cond.fieldLink "PieceSurfaces" 78 "PieceSurfaces$Skeleton" "vertices" "I" ∈ lw_gd := mm_gd (in_t1 (List.mem_of_getElem? (i := 114) rfl)) rfl
theorem wd_179 : Cond.fieldLink "PieceSurfaces$Survey" 173 "PieceSurfaces$Skeleton" "vertices" "I" ∈ lw_gd := mm_gd (in_t1 (List.mem_of_getElem? (i := 115) rfl)) rfl
theorem wd_180 : Cond.fieldLink "PieceSurfaces$Skeleton" 67 "PieceSurfaces$Skeleton" "lines" "I" ∈ lw_gd := mm_gd (in_t1 (List.mem_of_getElem? (i := 116) rfl)) rfl
theorem wd_181 : Cond.fieldLink "PieceSurfaces" 81 "PieceSurfaces$Skeleton" "lines" "I" ∈ lw_gd := mm_gd (in_t1 (List.mem_of_getElem? (i := 117) rfl)) rfl
theorem wd_182 : Cond.fieldLink "PieceSurfaces$Survey" 106 "PieceSurfaces$Skeleton" "lines" "I" ∈ lw_gd := mm_gd (in_t1 (List.mem_of_getElem? (i := 118) rfl)) rfl
theorem wd_202 : Cond.classLink "PieceSurfaces$Survey" 25 "PieceSurfaces$Matching" ∈ lw_gd := mm_gd (in_t1 (List.mem_of_getElem? (i := 138) rfl)) rfl
theorem wd_203 : Cond.instantiable "PieceSurfaces$Matching" 2 ∈ lw_gd := mm_gd (in_t1 (List.mem_of_getElem? (i := 139) rfl)) rfl
theorem wd_204 : Cond.methodLink "PieceSurfaces$Survey" 27 yX4_init ∈ lw_gd := mm_gd (in_t1 (List.mem_of_getElem? (i := 140) rfl)) rfl
theorem wd_205 : Cond.instanceMethod yX4_init ∈ lw_gd := mm_gd (in_t1 (List.mem_of_getElem? (i := 141) rfl)) rfl
theorem wd_206 : Cond.code yX4_init prog_6_method_1_code 1 none ∈ lw_gd := mm_gd (in_t1 (List.mem_of_getElem? (i := 142) rfl)) rfl
theorem wd_207 : Cond.methodLink "PieceSurfaces$Matching" 1 ⟨"java/lang/Object", "<init>", "()V"⟩ ∈ lw_gd := mm_gd (in_t1 (List.mem_of_getElem? (i := 143) rfl)) rfl
theorem wd_208 : Cond.fieldLink "PieceSurfaces$Matching" 9 "PieceSurfaces$Matching" "terms" "[I" ∈ lw_gd := mm_gd (in_t1 (List.mem_of_getElem? (i := 144) rfl)) rfl
theorem wd_209 : Cond.fieldLink "PieceSurfaces$Matching" 15 "PieceSurfaces$Matching" "count" "I" ∈ lw_gd := mm_gd (in_t1 (List.mem_of_getElem? (i := 145) rfl)) rfl
theorem wd_215 : Cond.classLink "PieceSurfaces$Survey" 32 "PieceSurfaces$Classes" ∈ lw_gd := mm_gd (in_t1 (List.mem_of_getElem? (i := 151) rfl)) rfl
theorem wd_216 : Cond.methodLink "PieceSurfaces$Survey" 36 yX1_init ∈ lw_gd := mm_gd (in_t1 (List.mem_of_getElem? (i := 152) rfl)) rfl
theorem wd_217 : Cond.classLink "PieceSurfaces$Survey" 50 "PieceSurfaces$Sheet" ∈ lw_gd := mm_gd (in_t1 (List.mem_of_getElem? (i := 153) rfl)) rfl
theorem wd_218 : Cond.methodLink "PieceSurfaces$Survey" 52 yX7_init ∈ lw_gd := mm_gd (in_t1 (List.mem_of_getElem? (i := 154) rfl)) rfl
theorem wd_219 : Cond.fieldLink "PieceSurfaces$Survey" 12 "PieceSurfaces$Survey" "world" "LPieceSurfaces$World;" ∈ lw_gd := mm_gd (in_t1 (List.mem_of_getElem? (i := 155) rfl)) rfl
theorem wd_220 : Cond.fieldLink "PieceSurfaces" 16 "PieceSurfaces$Survey" "world" "LPieceSurfaces$World;" ∈ lw_gd := mm_gd (in_t1 (List.mem_of_getElem? (i := 156) rfl)) rfl
theorem wd_221 : Cond.fieldLink "PieceSurfaces$Survey" 21 "PieceSurfaces$Survey" "skeleton" "LPieceSurfaces$Skeleton;" ∈ lw_gd := mm_gd (in_t1 (List.mem_of_getElem? (i := 157) rfl)) rfl
theorem wd_222 : Cond.fieldLink "PieceSurfaces" 21 "PieceSurfaces$Survey" "skeleton" "LPieceSurfaces$Skeleton;" ∈ lw_gd := mm_gd (in_t1 (List.mem_of_getElem? (i := 158) rfl)) rfl
theorem wd_223 : Cond.fieldLink "PieceSurfaces$Survey" 28 "PieceSurfaces$Survey" "matching" "LPieceSurfaces$Matching;" ∈ lw_gd := mm_gd (in_t1 (List.mem_of_getElem? (i := 159) rfl)) rfl
theorem wd_224 : Cond.fieldLink "PieceSurfaces$Survey" 39 "PieceSurfaces$Survey" "joined" "LPieceSurfaces$Classes;" ∈ lw_gd := mm_gd (in_t1 (List.mem_of_getElem? (i := 160) rfl)) rfl
theorem wd_225 : Cond.fieldLink "PieceSurfaces$Survey" 43 "PieceSurfaces$Survey" "sides" "LPieceSurfaces$Classes;" ∈ lw_gd := mm_gd (in_t1 (List.mem_of_getElem? (i := 161) rfl)) rfl
theorem wd_226 : Cond.fieldLink "PieceSurfaces$Survey" 46 "PieceSurfaces$Survey" "start" "[I" ∈ lw_gd := mm_gd (in_t1 (List.mem_of_getElem? (i := 162) rfl)) rfl
theorem wd_227 : Cond.fieldLink "PieceSurfaces$Survey" 53 "PieceSurfaces$Survey" "link" "LPieceSurfaces$Sheet;" ∈ lw_gd := mm_gd (in_t1 (List.mem_of_getElem? (i := 163) rfl)) rfl
theorem wd_228 : Cond.fieldLink "PieceSurfaces$Survey" 57 "PieceSurfaces$Survey" "part" "LPieceSurfaces$Sheet;" ∈ lw_gd := mm_gd (in_t1 (List.mem_of_getElem? (i := 164) rfl)) rfl
theorem wd_229 : Cond.fieldLink "PieceSurfaces$Survey" 60 "PieceSurfaces$Survey" "used" "[I" ∈ lw_gd := mm_gd (in_t1 (List.mem_of_getElem? (i := 165) rfl)) rfl
theorem wd_230 : Cond.fieldLink "PieceSurfaces$Survey" 191 "PieceSurfaces$Survey" "usedCount" "I" ∈ lw_gd := mm_gd (in_t1 (List.mem_of_getElem? (i := 166) rfl)) rfl
theorem wd_231 : Cond.fieldLink "PieceSurfaces$Survey" 95 "PieceSurfaces$Survey" "components" "I" ∈ lw_gd := mm_gd (in_t1 (List.mem_of_getElem? (i := 167) rfl)) rfl
theorem wd_232 : Cond.fieldLink "PieceSurfaces$Survey" 99 "PieceSurfaces$Survey" "twoSided" "I" ∈ lw_gd := mm_gd (in_t1 (List.mem_of_getElem? (i := 168) rfl)) rfl
theorem wd_258 : Cond.classLink "PieceSurfaces" 26 "PieceSurfaces$Past" ∈ lw_gd := mm_gd (in_t1 (List.mem_of_getElem? (i := 194) rfl)) rfl
theorem wd_259 : Cond.instantiable "PieceSurfaces$Past" 3 ∈ lw_gd := mm_gd (in_t1 (List.mem_of_getElem? (i := 195) rfl)) rfl
theorem wd_260 : Cond.methodLink "PieceSurfaces" 28 yX5_init ∈ lw_gd := mm_gd (in_t1 (List.mem_of_getElem? (i := 196) rfl)) rfl
theorem wd_261 : Cond.instanceMethod yX5_init ∈ lw_gd := mm_gd (in_t1 (List.mem_of_getElem? (i := 197) rfl)) rfl
theorem wd_262 : Cond.code yX5_init prog_7_method_1_code 2 none ∈ lw_gd := mm_gd (in_t1 (List.mem_of_getElem? (i := 198) rfl)) rfl
theorem wd_263 : Cond.methodLink "PieceSurfaces$Past" 1 ⟨"java/lang/Object", "<init>", "()V"⟩ ∈ lw_gd := mm_gd (in_t1 (List.mem_of_getElem? (i := 199) rfl)) rfl
theorem wd_264 : Cond.classLink "PieceSurfaces$Past" 9 "PieceSurfaces$World" ∈ lw_gd := mm_gd (in_t1 (List.mem_of_getElem? (i := 200) rfl)) rfl
theorem wd_266 : Cond.methodLink "PieceSurfaces$Past" 17 yX10_init ∈ lw_gd := mm_gd (in_t1 (List.mem_of_getElem? (i := 202) rfl)) rfl
theorem wd_267 : Cond.fieldLink "PieceSurfaces$Past" 11 "PieceSurfaces$Past" "ring" "[LPieceSurfaces$World;" ∈ lw_gd := mm_gd (in_t1 (List.mem_of_getElem? (i := 203) rfl)) rfl
theorem wd_268 : Cond.fieldLink "PieceSurfaces$Past" 18 "PieceSurfaces$Past" "next" "I" ∈ lw_gd := mm_gd (in_t1 (List.mem_of_getElem? (i := 204) rfl)) rfl
theorem wd_269 : Cond.fieldLink "PieceSurfaces$Past" 26 "PieceSurfaces$Past" "count" "I" ∈ lw_gd := mm_gd (in_t1 (List.mem_of_getElem? (i := 205) rfl)) rfl
theorem wd_270 : Cond.fieldLink "PieceSurfaces" 70 "PieceSurfaces$Past" "count" "I" ∈ lw_gd := mm_gd (in_t1 (List.mem_of_getElem? (i := 206) rfl)) rfl
theorem wd_278 : Cond.classLink "PieceSurfaces" 33 "PieceSurfaces$Book" ∈ lw_gd := mm_gd (in_t1 (List.mem_of_getElem? (i := 214) rfl)) rfl
theorem wd_279 : Cond.instantiable "PieceSurfaces$Book" 3 ∈ lw_gd := mm_gd (in_t1 (List.mem_of_getElem? (i := 215) rfl)) rfl
theorem wd_280 : Cond.methodLink "PieceSurfaces" 35 yX0_init ∈ lw_gd := mm_gd (in_t1 (List.mem_of_getElem? (i := 216) rfl)) rfl
theorem wd_281 : Cond.instanceMethod yX0_init ∈ lw_gd := mm_gd (in_t1 (List.mem_of_getElem? (i := 217) rfl)) rfl
theorem wd_282 : Cond.code yX0_init prog_2_method_1_code 1 none ∈ lw_gd := mm_gd (in_t1 (List.mem_of_getElem? (i := 218) rfl)) rfl
theorem wd_283 : Cond.methodLink "PieceSurfaces$Book" 3 ⟨"java/lang/Object", "<init>", "()V"⟩ ∈ lw_gd := mm_gd (in_t1 (List.mem_of_getElem? (i := 219) rfl)) rfl
theorem wd_284 : Cond.fieldLink "PieceSurfaces$Book" 11 "PieceSurfaces$Book" "surfaces" "[I" ∈ lw_gd := mm_gd (in_t1 (List.mem_of_getElem? (i := 220) rfl)) rfl
theorem wd_285 : Cond.fieldLink "PieceSurfaces$Book" 17 "PieceSurfaces$Book" "values" "[I" ∈ lw_gd := mm_gd (in_t1 (List.mem_of_getElem? (i := 221) rfl)) rfl
theorem wd_286 : Cond.fieldLink "PieceSurfaces$Book" 20 "PieceSurfaces$Book" "count" "I" ∈ lw_gd := mm_gd (in_t1 (List.mem_of_getElem? (i := 222) rfl)) rfl
theorem wd_287 : Cond.fieldLink "PieceSurfaces" 69 "PieceSurfaces$Book" "count" "I" ∈ lw_gd := mm_gd (in_t1 (List.mem_of_getElem? (i := 223) rfl)) rfl
theorem wd_295 : Cond.classLink "PieceSurfaces" 40 "PieceSurfaces$Dice" ∈ lw_gd := mm_gd (in_t1 (List.mem_of_getElem? (i := 231) rfl)) rfl
theorem wd_296 : Cond.instantiable "PieceSurfaces$Dice" 1 ∈ lw_gd := mm_gd (in_t1 (List.mem_of_getElem? (i := 232) rfl)) rfl
theorem wd_298 : Cond.instanceMethod yX2_init ∈ lw_gd := mm_gd (in_t1 (List.mem_of_getElem? (i := 234) rfl)) rfl
theorem wd_299 : Cond.code yX2_init prog_4_method_1_code 1 none ∈ lw_gd := mm_gd (in_t1 (List.mem_of_getElem? (i := 235) rfl)) rfl
theorem wd_300 : Cond.methodLink "PieceSurfaces$Dice" 1 ⟨"java/lang/Object", "<init>", "()V"⟩ ∈ lw_gd := mm_gd (in_t1 (List.mem_of_getElem? (i := 236) rfl)) rfl
theorem wd_301 : Cond.fieldLink "PieceSurfaces$Dice" 9 "PieceSurfaces$Dice" "state" "I" ∈ lw_gd := mm_gd (in_t1 (List.mem_of_getElem? (i := 237) rfl)) rfl
theorem wd_302 : Cond.fieldLink "PieceSurfaces$Image" 20 "PieceSurfaces$Dice" "state" "I" ∈ lw_gd := mm_gd (in_t1 (List.mem_of_getElem? (i := 238) rfl)) rfl
theorem wd_303 : Cond.fieldLink "PieceSurfaces" 226 "PieceSurfaces$Dice" "state" "I" ∈ lw_gd := mm_gd (in_t1 (List.mem_of_getElem? (i := 239) rfl)) rfl
theorem wd_307 : Cond.classLink "PieceSurfaces" 49 "PieceSurfaces$Image" ∈ lw_gd := mm_gd (in_t2 (List.mem_of_getElem? (i := 3) rfl)) rfl
theorem wd_309 : Cond.instantiable "PieceSurfaces$Image" 3 ∈ lw_gd := mm_gd (in_t2 (List.mem_of_getElem? (i := 5) rfl)) rfl
theorem wd_310 : Cond.methodLink "PieceSurfaces" 55 yX3_init ∈ lw_gd := mm_gd (in_t2 (List.mem_of_getElem? (i := 6) rfl)) rfl
theorem wd_311 : Cond.instanceMethod yX3_init ∈ lw_gd := mm_gd (in_t2 (List.mem_of_getElem? (i := 7) rfl)) rfl
theorem wd_312 : Cond.code yX3_init prog_5_method_1_code 1 none ∈ lw_gd := mm_gd (in_t2 (List.mem_of_getElem? (i := 8) rfl)) rfl
theorem wd_313 : Cond.methodLink "PieceSurfaces$Image" 1 ⟨"java/lang/Object", "<init>", "()V"⟩ ∈ lw_gd := mm_gd (in_t2 (List.mem_of_getElem? (i := 9) rfl)) rfl
theorem wd_314 : Cond.classLink "PieceSurfaces$Image" 7 "PieceSurfaces$World" ∈ lw_gd := mm_gd (in_t2 (List.mem_of_getElem? (i := 10) rfl)) rfl
theorem wd_315 : Cond.methodLink "PieceSurfaces$Image" 9 yX10_init ∈ lw_gd := mm_gd (in_t2 (List.mem_of_getElem? (i := 11) rfl)) rfl
theorem wd_316 : Cond.fieldLink "PieceSurfaces$Image" 10 "PieceSurfaces$Image" "world" "LPieceSurfaces$World;" ∈ lw_gd := mm_gd (in_t2 (List.mem_of_getElem? (i := 12) rfl)) rfl
theorem wd_317 : Cond.fieldLink "PieceSurfaces$Image" 26 "PieceSurfaces$Image" "state" "I" ∈ lw_gd := mm_gd (in_t2 (List.mem_of_getElem? (i := 13) rfl)) rfl
theorem wd_318 : Cond.fieldLink "PieceSurfaces$Image" 27 "PieceSurfaces$Image" "saved" "Z" ∈ lw_gd := mm_gd (in_t2 (List.mem_of_getElem? (i := 14) rfl)) rfl
theorem wd_319 : Cond.fieldLink "PieceSurfaces" 236 "PieceSurfaces$Image" "saved" "Z" ∈ lw_gd := mm_gd (in_t2 (List.mem_of_getElem? (i := 15) rfl)) rfl
theorem wd_327 : Cond.fieldLink "PieceSurfaces" 20 "PieceSurfaces" "world" "LPieceSurfaces$World;" ∈ lw_gd := mm_gd (in_t2 (List.mem_of_getElem? (i := 23) rfl)) rfl
theorem wd_328 : Cond.fieldLink "PieceSurfaces" 25 "PieceSurfaces" "skeleton" "LPieceSurfaces$Skeleton;" ∈ lw_gd := mm_gd (in_t2 (List.mem_of_getElem? (i := 24) rfl)) rfl
theorem wd_329 : Cond.fieldLink "PieceSurfaces" 10 "PieceSurfaces" "survey" "LPieceSurfaces$Survey;" ∈ lw_gd := mm_gd (in_t2 (List.mem_of_getElem? (i := 25) rfl)) rfl
theorem wd_330 : Cond.fieldLink "PieceSurfaces" 29 "PieceSurfaces" "past" "LPieceSurfaces$Past;" ∈ lw_gd := mm_gd (in_t2 (List.mem_of_getElem? (i := 26) rfl)) rfl
theorem wd_331 : Cond.fieldLink "PieceSurfaces" 36 "PieceSurfaces" "book" "LPieceSurfaces$Book;" ∈ lw_gd := mm_gd (in_t2 (List.mem_of_getElem? (i := 27) rfl)) rfl
theorem wd_332 : Cond.fieldLink "PieceSurfaces" 43 "PieceSurfaces" "dice" "LPieceSurfaces$Dice;" ∈ lw_gd := mm_gd (in_t2 (List.mem_of_getElem? (i := 28) rfl)) rfl
theorem wd_333 : Cond.fieldLink "PieceSurfaces" 51 "PieceSurfaces" "images" "[LPieceSurfaces$Image;" ∈ lw_gd := mm_gd (in_t2 (List.mem_of_getElem? (i := 29) rfl)) rfl
theorem wd_349 : Cond.methodLink "PieceSurfacesLaw" 13 yX11_told ∈ lw_gd := mm_gd (in_t2 (List.mem_of_getElem? (i := 45) rfl)) rfl
theorem wd_350 : Cond.instanceMethod yX11_told ∈ lw_gd := mm_gd (in_t2 (List.mem_of_getElem? (i := 46) rfl)) rfl
theorem wd_351 : Cond.selects "PieceSurfaces" yX11_told yX11_told ∈ lw_gd := mm_gd (in_t2 (List.mem_of_getElem? (i := 47) rfl)) rfl
theorem wd_352 : Cond.code yX11_told prog_1_method_2_code 2 (some FieldType.int) ∈ lw_gd := mm_gd (in_t2 (List.mem_of_getElem? (i := 48) rfl)) rfl
theorem wd_353 : Cond.methodLink "PieceSurfaces" 62 yX10_freeFaces ∈ lw_gd := mm_gd (in_t2 (List.mem_of_getElem? (i := 49) rfl)) rfl
theorem wd_354 : Cond.instanceMethod yX10_freeFaces ∈ lw_gd := mm_gd (in_t2 (List.mem_of_getElem? (i := 50) rfl)) rfl
theorem wd_355 : Cond.selects "PieceSurfaces$World" yX10_freeFaces yX10_freeFaces ∈ lw_gd := mm_gd (in_t2 (List.mem_of_getElem? (i := 51) rfl)) rfl
theorem wd_356 : Cond.code yX10_freeFaces prog_12_method_5_code 3 (some FieldType.int) ∈ lw_gd := mm_gd (in_t2 (List.mem_of_getElem? (i := 52) rfl)) rfl
theorem wd_357 : Cond.methodLink "PieceSurfaces$World" 50 yX10_faces ∈ lw_gd := mm_gd (in_t2 (List.mem_of_getElem? (i := 53) rfl)) rfl
theorem wd_358 : Cond.instanceMethod yX10_faces ∈ lw_gd := mm_gd (in_t2 (List.mem_of_getElem? (i := 54) rfl)) rfl
theorem wd_359 : Cond.selects "PieceSurfaces$World" yX10_faces yX10_faces ∈ lw_gd := mm_gd (in_t2 (List.mem_of_getElem? (i := 55) rfl)) rfl
theorem wd_360 : Cond.code yX10_faces prog_12_method_4_code 1 (some FieldType.int) ∈ lw_gd := mm_gd (in_t2 (List.mem_of_getElem? (i := 56) rfl)) rfl
theorem wd_361 : Cond.constant "PieceSurfaces" 71 (Int32.ofInt (-1000000002)) ∈ lw_gd := mm_gd (in_t2 (List.mem_of_getElem? (i := 57) rfl)) rfl
theorem wd_362 : Cond.methodLink "PieceSurfaces" 72 yX8_read ∈ lw_gd := mm_gd (in_t2 (List.mem_of_getElem? (i := 58) rfl)) rfl
theorem wd_363 : Cond.instanceMethod yX8_read ∈ lw_gd := mm_gd (in_t2 (List.mem_of_getElem? (i := 59) rfl)) rfl
theorem wd_364 : Cond.selects "PieceSurfaces$Skeleton" yX8_read yX8_read ∈ lw_gd := mm_gd (in_t2 (List.mem_of_getElem? (i := 60) rfl)) rfl
theorem wd_365 : Cond.code yX8_read prog_10_method_2_code 3 none ∈ lw_gd := mm_gd (in_t2 (List.mem_of_getElem? (i := 61) rfl)) rfl
theorem wd_366 : Cond.methodLink "PieceSurfaces$Skeleton" 45 yX1_begin ∈ lw_gd := mm_gd (in_t2 (List.mem_of_getElem? (i := 62) rfl)) rfl
theorem wd_367 : Cond.instanceMethod yX1_begin ∈ lw_gd := mm_gd (in_t2 (List.mem_of_getElem? (i := 63) rfl)) rfl
theorem wd_368 : Cond.selects "PieceSurfaces$Classes" yX1_begin yX1_begin ∈ lw_gd := mm_gd (in_t2 (List.mem_of_getElem? (i := 64) rfl)) rfl
theorem wd_369 : Cond.code yX1_begin prog_3_method_2_code 3 none ∈ lw_gd := mm_gd (in_t2 (List.mem_of_getElem? (i := 65) rfl)) rfl
theorem wd_370 : Cond.methodLink "PieceSurfaces$Classes" 13 yJ9_min_7cf53 ∈ lw_gd := mm_gd (in_t2 (List.mem_of_getElem? (i := 66) rfl)) rfl
theorem wd_371 : Cond.static yJ9_min_7cf53 ∈ lw_gd := mm_gd (in_t2 (List.mem_of_getElem? (i := 67) rfl)) rfl
theorem wd_372 : Cond.code yJ9_min_7cf53 prog_15_method_69_code 2 (some FieldType.int) ∈ lw_gd := mm_gd (in_t2 (List.mem_of_getElem? (i := 68) rfl)) rfl
theorem wd_373 : Cond.methodLink "PieceSurfaces$Skeleton" 48 yX10_faces ∈ lw_gd := mm_gd (in_t2 (List.mem_of_getElem? (i := 69) rfl)) rfl
theorem wd_374 : Cond.methodLink "PieceSurfaces$Skeleton" 52 yX10_leads ∈ lw_gd := mm_gd (in_t2 (List.mem_of_getElem? (i := 70) rfl)) rfl
theorem wd_375 : Cond.instanceMethod yX10_leads ∈ lw_gd := mm_gd (in_t2 (List.mem_of_getElem? (i := 71) rfl)) rfl
theorem wd_376 : Cond.selects "PieceSurfaces$World" yX10_leads yX10_leads ∈ lw_gd := mm_gd (in_t2 (List.mem_of_getElem? (i := 72) rfl)) rfl
theorem wd_377 : Cond.code yX10_leads prog_12_method_9_code 2 (some FieldType.boolean) ∈ lw_gd := mm_gd (in_t2 (List.mem_of_getElem? (i := 73) rfl)) rfl
theorem wd_378 : Cond.methodLink "PieceSurfaces$Skeleton" 56 yX8_joinFaces ∈ lw_gd := mm_gd (in_t2 (List.mem_of_getElem? (i := 74) rfl)) rfl
theorem wd_380 : Cond.instanceMethod yX8_joinFaces ∈ lw_gd := mm_gd (in_t2 (List.mem_of_getElem? (i := 76) rfl)) rfl
theorem wd_381 : Cond.code yX8_joinFaces prog_10_method_3_code 9 none ∈ lw_gd := mm_gd (in_t2 (List.mem_of_getElem? (i := 77) rfl)) rfl
theorem wd_382 : Cond.methodLink "PieceSurfaces$Skeleton" 73 yX10_across ∈ lw_gd := mm_gd (in_t2 (List.mem_of_getElem? (i := 78) rfl)) rfl
theorem wd_383 : Cond.instanceMethod yX10_across ∈ lw_gd := mm_gd (in_t2 (List.mem_of_getElem? (i := 79) rfl)) rfl
theorem wd_384 : Cond.selects "PieceSurfaces$World" yX10_across yX10_across ∈ lw_gd := mm_gd (in_t2 (List.mem_of_getElem? (i := 80) rfl)) rfl
theorem wd_385 : Cond.code yX10_across prog_12_method_10_code 7 (some FieldType.int) ∈ lw_gd := mm_gd (in_t2 (List.mem_of_getElem? (i := 81) rfl)) rfl
theorem wd_386 : Cond.fieldLink "PieceSurfaces$World" 57 "PieceSurfaces$Shape" "WAYS" "[I" ∈ lw_gd := mm_gd (in_t2 (List.mem_of_getElem? (i := 82) rfl)) rfl
theorem wd_388 : Cond.methodLink "PieceSurfaces$Skeleton" 77 yX1_join ∈ lw_gd := mm_gd (in_t2 (List.mem_of_getElem? (i := 84) rfl)) rfl
theorem wd_389 : Cond.instanceMethod yX1_join ∈ lw_gd := mm_gd (in_t2 (List.mem_of_getElem? (i := 85) rfl)) rfl
theorem wd_390 : Cond.selects "PieceSurfaces$Classes" yX1_join yX1_join ∈ lw_gd := mm_gd (in_t2 (List.mem_of_getElem? (i := 86) rfl)) rfl
theorem wd_391 : Cond.code yX1_join prog_3_method_4_code 5 none ∈ lw_gd := mm_gd (in_t2 (List.mem_of_getElem? (i := 87) rfl)) rfl
theorem wd_392 : Cond.methodLink "PieceSurfaces$Classes" 23 yX1_least ∈ lw_gd := mm_gd (in_t2 (List.mem_of_getElem? (i := 88) rfl)) rfl
theorem wd_393 : Cond.instanceMethod yX1_least ∈ lw_gd := mm_gd (in_t2 (List.mem_of_getElem? (i := 89) rfl)) rfl
theorem wd_394 : Cond.selects "PieceSurfaces$Classes" yX1_least yX1_least ∈ lw_gd := mm_gd (in_t2 (List.mem_of_getElem? (i := 90) rfl)) rfl
theorem wd_395 : Cond.code yX1_least prog_3_method_3_code 4 (some FieldType.int) ∈ lw_gd := mm_gd (in_t2 (List.mem_of_getElem? (i := 91) rfl)) rfl
theorem wd_396 : Cond.methodLink "PieceSurfaces$Skeleton" 81 yX8_joinArrows ∈ lw_gd := mm_gd (in_t2 (List.mem_of_getElem? (i := 92) rfl)) rfl
theorem wd_398 : Cond.instanceMethod yX8_joinArrows ∈ lw_gd := mm_gd (in_t2 (List.mem_of_getElem? (i := 94) rfl)) rfl
theorem wd_399 : Cond.code yX8_joinArrows prog_10_method_4_code 3 none ∈ lw_gd := mm_gd (in_t2 (List.mem_of_getElem? (i := 95) rfl)) rfl
theorem wd_400 : Cond.methodLink "PieceSurfaces$Skeleton" 84 yX8_edgeOf ∈ lw_gd := mm_gd (in_t2 (List.mem_of_getElem? (i := 96) rfl)) rfl
theorem wd_401 : Cond.static yX8_edgeOf ∈ lw_gd := mm_gd (in_t2 (List.mem_of_getElem? (i := 97) rfl)) rfl
theorem wd_402 : Cond.code yX8_edgeOf prog_10_method_5_code 1 (some FieldType.int) ∈ lw_gd := mm_gd (in_t2 (List.mem_of_getElem? (i := 98) rfl)) rfl
theorem wd_403 : Cond.fieldLink "PieceSurfaces$Skeleton" 88 "PieceSurfaces$Shape" "EDGE" "[I" ∈ lw_gd := mm_gd (in_t2 (List.mem_of_getElem? (i := 99) rfl)) rfl
theorem wd_405 : Cond.methodLink "PieceSurfaces$Skeleton" 60 yX1_numberThem ∈ lw_gd := mm_gd (in_t2 (List.mem_of_getElem? (i := 101) rfl)) rfl
theorem wd_406 : Cond.instanceMethod yX1_numberThem ∈ lw_gd := mm_gd (in_t2 (List.mem_of_getElem? (i := 102) rfl)) rfl
theorem wd_407 : Cond.selects "PieceSurfaces$Classes" yX1_numberThem yX1_numberThem ∈ lw_gd := mm_gd (in_t2 (List.mem_of_getElem? (i := 103) rfl)) rfl
theorem wd_408 : Cond.code yX1_numberThem prog_3_method_6_code 5 (some FieldType.int) ∈ lw_gd := mm_gd (in_t2 (List.mem_of_getElem? (i := 104) rfl)) rfl
theorem wd_409 : Cond.methodLink "PieceSurfaces$Skeleton" 70 yX8_measureLines ∈ lw_gd := mm_gd (in_t2 (List.mem_of_getElem? (i := 105) rfl)) rfl
theorem wd_411 : Cond.instanceMethod yX8_measureLines ∈ lw_gd := mm_gd (in_t2 (List.mem_of_getElem? (i := 107) rfl)) rfl
theorem wd_412 : Cond.code yX8_measureLines prog_10_method_6_code 3 none ∈ lw_gd := mm_gd (in_t2 (List.mem_of_getElem? (i := 108) rfl)) rfl
theorem wd_413 : Cond.methodLink "PieceSurfaces$Skeleton" 91 yJ7_fill_53178 ∈ lw_gd := mm_gd (in_t2 (List.mem_of_getElem? (i := 109) rfl)) rfl
theorem wd_414 : Cond.methodLink "PieceSurfaces" 84 yX8_reversedLines ∈ lw_gd := mm_gd (in_t2 (List.mem_of_getElem? (i := 110) rfl)) rfl
theorem wd_415 : Cond.instanceMethod yX8_reversedLines ∈ lw_gd := mm_gd (in_t2 (List.mem_of_getElem? (i := 111) rfl)) rfl
theorem wd_416 : Cond.selects "PieceSurfaces$Skeleton" yX8_reversedLines yX8_reversedLines ∈ lw_gd := mm_gd (in_t2 (List.mem_of_getElem? (i := 112) rfl)) rfl
theorem wd_417 : Cond.code yX8_reversedLines prog_10_method_8_code 3 (some FieldType.int) ∈ lw_gd := mm_gd (in_t2 (List.mem_of_getElem? (i := 113) rfl)) rfl
theorem wd_418 : Cond.methodLink "PieceSurfaces$Skeleton" 106 yX8_isReversed ∈ lw_gd := mm_gd (in_t2 (List.mem_of_getElem? (i := 114) rfl)) rfl
theorem wd_419 : Cond.instanceMethod yX8_isReversed ∈ lw_gd := mm_gd (in_t2 (List.mem_of_getElem? (i := 115) rfl)) rfl
theorem wd_420 : Cond.selects "PieceSurfaces$Skeleton" yX8_isReversed yX8_isReversed ∈ lw_gd := mm_gd (in_t2 (List.mem_of_getElem? (i := 116) rfl)) rfl
theorem wd_421 : Cond.code yX8_isReversed prog_10_method_7_code 6 (some FieldType.boolean) ∈ lw_gd := mm_gd (in_t2 (List.mem_of_getElem? (i := 117) rfl)) rfl
theorem wd_422 : Cond.fieldLink "PieceSurfaces$Skeleton" 97 "PieceSurfaces$Shape" "LOW" "[I" ∈ lw_gd := mm_gd (in_t2 (List.mem_of_getElem? (i := 118) rfl)) rfl
theorem wd_424 : Cond.fieldLink "PieceSurfaces$Skeleton" 100 "PieceSurfaces$Shape" "HIGH" "[I" ∈ lw_gd := mm_gd (in_t2 (List.mem_of_getElem? (i := 120) rfl)) rfl
theorem wd_426 : Cond.methodLink "PieceSurfaces$Skeleton" 103 yX1_least ∈ lw_gd := mm_gd (in_t2 (List.mem_of_getElem? (i := 122) rfl)) rfl
theorem wd_427 : Cond.methodLink "PieceSurfaces" 87 yX9_goodVertices ∈ lw_gd := mm_gd (in_t2 (List.mem_of_getElem? (i := 123) rfl)) rfl
theorem wd_428 : Cond.instanceMethod yX9_goodVertices ∈ lw_gd := mm_gd (in_t2 (List.mem_of_getElem? (i := 124) rfl)) rfl
theorem wd_429 : Cond.selects "PieceSurfaces$Survey" yX9_goodVertices yX9_goodVertices ∈ lw_gd := mm_gd (in_t2 (List.mem_of_getElem? (i := 125) rfl)) rfl
theorem wd_430 : Cond.code yX9_goodVertices prog_11_method_13_code 3 (some FieldType.int) ∈ lw_gd := mm_gd (in_t2 (List.mem_of_getElem? (i := 126) rfl)) rfl
theorem wd_431 : Cond.methodLink "PieceSurfaces$Survey" 176 yX9_isGood ∈ lw_gd := mm_gd (in_t2 (List.mem_of_getElem? (i := 127) rfl)) rfl
theorem wd_433 : Cond.instanceMethod yX9_isGood ∈ lw_gd := mm_gd (in_t2 (List.mem_of_getElem? (i := 129) rfl)) rfl
theorem wd_434 : Cond.code yX9_isGood prog_11_method_12_code 3 (some FieldType.boolean) ∈ lw_gd := mm_gd (in_t2 (List.mem_of_getElem? (i := 130) rfl)) rfl
theorem wd_435 : Cond.methodLink "PieceSurfaces$Survey" 169 yX9_fillLink ∈ lw_gd := mm_gd (in_t2 (List.mem_of_getElem? (i := 131) rfl)) rfl
theorem wd_436 : Cond.instanceMethod yX9_fillLink ∈ lw_gd := mm_gd (in_t2 (List.mem_of_getElem? (i := 132) rfl)) rfl
theorem wd_437 : Cond.selects "PieceSurfaces$Survey" yX9_fillLink yX9_fillLink ∈ lw_gd := mm_gd (in_t2 (List.mem_of_getElem? (i := 133) rfl)) rfl
theorem wd_438 : Cond.code yX9_fillLink prog_11_method_11_code 4 none ∈ lw_gd := mm_gd (in_t2 (List.mem_of_getElem? (i := 134) rfl)) rfl
theorem wd_439 : Cond.methodLink "PieceSurfaces$Survey" 160 yX7_clear ∈ lw_gd := mm_gd (in_t2 (List.mem_of_getElem? (i := 135) rfl)) rfl
theorem wd_440 : Cond.instanceMethod yX7_clear ∈ lw_gd := mm_gd (in_t2 (List.mem_of_getElem? (i := 136) rfl)) rfl
theorem wd_441 : Cond.selects "PieceSurfaces$Sheet" yX7_clear yX7_clear ∈ lw_gd := mm_gd (in_t2 (List.mem_of_getElem? (i := 137) rfl)) rfl
theorem wd_442 : Cond.code yX7_clear prog_9_method_2_code 1 none ∈ lw_gd := mm_gd (in_t2 (List.mem_of_getElem? (i := 138) rfl)) rfl
theorem wd_443 : Cond.methodLink "PieceSurfaces$Sheet" 15 yJ7_fill_53178 ∈ lw_gd := mm_gd (in_t2 (List.mem_of_getElem? (i := 139) rfl)) rfl
theorem wd_444 : Cond.methodLink "PieceSurfaces$Survey" 91 yX9_trace ∈ lw_gd := mm_gd (in_t2 (List.mem_of_getElem? (i := 140) rfl)) rfl
theorem wd_446 : Cond.instanceMethod yX9_trace ∈ lw_gd := mm_gd (in_t2 (List.mem_of_getElem? (i := 142) rfl)) rfl
theorem wd_447 : Cond.code yX9_trace prog_11_method_8_code 4 none ∈ lw_gd := mm_gd (in_t2 (List.mem_of_getElem? (i := 143) rfl)) rfl
theorem wd_448 : Cond.methodLink "PieceSurfaces$Survey" 132 yX1_begin ∈ lw_gd := mm_gd (in_t2 (List.mem_of_getElem? (i := 144) rfl)) rfl
theorem wd_449 : Cond.methodLink "PieceSurfaces$Survey" 116 yX10_faces ∈ lw_gd := mm_gd (in_t2 (List.mem_of_getElem? (i := 145) rfl)) rfl
theorem wd_450 : Cond.methodLink "PieceSurfaces$Survey" 122 yX10_leads ∈ lw_gd := mm_gd (in_t2 (List.mem_of_getElem? (i := 146) rfl)) rfl
theorem wd_451 : Cond.methodLink "PieceSurfaces$Survey" 135 yX9_joinPieces ∈ lw_gd := mm_gd (in_t2 (List.mem_of_getElem? (i := 147) rfl)) rfl
theorem wd_453 : Cond.instanceMethod yX9_joinPieces ∈ lw_gd := mm_gd (in_t2 (List.mem_of_getElem? (i := 149) rfl)) rfl
theorem wd_454 : Cond.code yX9_joinPieces prog_11_method_9_code 9 none ∈ lw_gd := mm_gd (in_t2 (List.mem_of_getElem? (i := 150) rfl)) rfl
theorem wd_455 : Cond.methodLink "PieceSurfaces$Survey" 142 yX10_across ∈ lw_gd := mm_gd (in_t2 (List.mem_of_getElem? (i := 151) rfl)) rfl
theorem wd_456 : Cond.methodLink "PieceSurfaces$Survey" 145 yX7_arcsAt ∈ lw_gd := mm_gd (in_t2 (List.mem_of_getElem? (i := 152) rfl)) rfl
theorem wd_457 : Cond.instanceMethod yX7_arcsAt ∈ lw_gd := mm_gd (in_t2 (List.mem_of_getElem? (i := 153) rfl)) rfl
theorem wd_458 : Cond.selects "PieceSurfaces$Sheet" yX7_arcsAt yX7_arcsAt ∈ lw_gd := mm_gd (in_t2 (List.mem_of_getElem? (i := 154) rfl)) rfl
theorem wd_459 : Cond.code yX7_arcsAt prog_9_method_8_code 4 (some FieldType.int) ∈ lw_gd := mm_gd (in_t2 (List.mem_of_getElem? (i := 155) rfl)) rfl
theorem wd_460 : Cond.methodLink "PieceSurfaces$Sheet" 33 yX6_together ∈ lw_gd := mm_gd (in_t2 (List.mem_of_getElem? (i := 156) rfl)) rfl
theorem wd_461 : Cond.static yX6_together ∈ lw_gd := mm_gd (in_t2 (List.mem_of_getElem? (i := 157) rfl)) rfl
theorem wd_462 : Cond.code yX6_together prog_8_method_2_code 2 (some FieldType.int) ∈ lw_gd := mm_gd (in_t2 (List.mem_of_getElem? (i := 158) rfl)) rfl
theorem wd_463 : Cond.methodLink "PieceSurfaces$Survey" 149 yX9_sideAt ∈ lw_gd := mm_gd (in_t2 (List.mem_of_getElem? (i := 159) rfl)) rfl
theorem wd_465 : Cond.instanceMethod yX9_sideAt ∈ lw_gd := mm_gd (in_t2 (List.mem_of_getElem? (i := 161) rfl)) rfl
theorem wd_466 : Cond.code yX9_sideAt prog_11_method_10_code 10 (some FieldType.int) ∈ lw_gd := mm_gd (in_t2 (List.mem_of_getElem? (i := 162) rfl)) rfl
theorem wd_467 : Cond.methodLink "PieceSurfaces$Survey" 157 yX6_together ∈ lw_gd := mm_gd (in_t2 (List.mem_of_getElem? (i := 163) rfl)) rfl
theorem wd_468 : Cond.methodLink "PieceSurfaces$Survey" 153 yX1_join ∈ lw_gd := mm_gd (in_t2 (List.mem_of_getElem? (i := 164) rfl)) rfl
theorem wd_469 : Cond.methodLink "PieceSurfaces$Survey" 139 yX1_countClasses ∈ lw_gd := mm_gd (in_t2 (List.mem_of_getElem? (i := 165) rfl)) rfl
theorem wd_470 : Cond.instanceMethod yX1_countClasses ∈ lw_gd := mm_gd (in_t2 (List.mem_of_getElem? (i := 166) rfl)) rfl
theorem wd_471 : Cond.selects "PieceSurfaces$Classes" yX1_countClasses yX1_countClasses ∈ lw_gd := mm_gd (in_t2 (List.mem_of_getElem? (i := 167) rfl)) rfl
theorem wd_472 : Cond.code yX1_countClasses prog_3_method_5_code 3 (some FieldType.int) ∈ lw_gd := mm_gd (in_t2 (List.mem_of_getElem? (i := 168) rfl)) rfl
theorem wd_473 : Cond.methodLink "PieceSurfaces$Survey" 82 yX9_boundary ∈ lw_gd := mm_gd (in_t2 (List.mem_of_getElem? (i := 169) rfl)) rfl
theorem wd_474 : Cond.instanceMethod yX9_boundary ∈ lw_gd := mm_gd (in_t2 (List.mem_of_getElem? (i := 170) rfl)) rfl
theorem wd_475 : Cond.selects "PieceSurfaces$Survey" yX9_boundary yX9_boundary ∈ lw_gd := mm_gd (in_t2 (List.mem_of_getElem? (i := 171) rfl)) rfl
theorem wd_476 : Cond.code yX9_boundary prog_11_method_6_code 4 (some FieldType.int) ∈ lw_gd := mm_gd (in_t2 (List.mem_of_getElem? (i := 172) rfl)) rfl
theorem wd_477 : Cond.methodLink "PieceSurfaces$Survey" 126 yX7_arcsOn ∈ lw_gd := mm_gd (in_t2 (List.mem_of_getElem? (i := 173) rfl)) rfl
theorem wd_478 : Cond.instanceMethod yX7_arcsOn ∈ lw_gd := mm_gd (in_t2 (List.mem_of_getElem? (i := 174) rfl)) rfl
theorem wd_479 : Cond.selects "PieceSurfaces$Sheet" yX7_arcsOn yX7_arcsOn ∈ lw_gd := mm_gd (in_t2 (List.mem_of_getElem? (i := 175) rfl)) rfl
theorem wd_480 : Cond.code yX7_arcsOn prog_9_method_9_code 5 (some FieldType.int) ∈ lw_gd := mm_gd (in_t2 (List.mem_of_getElem? (i := 176) rfl)) rfl
theorem wd_481 : Cond.methodLink "PieceSurfaces$Sheet" 36 yX7_arcsAt ∈ lw_gd := mm_gd (in_t2 (List.mem_of_getElem? (i := 177) rfl)) rfl
theorem wd_482 : Cond.methodLink "PieceSurfaces$Survey" 78 yX9_characteristic ∈ lw_gd := mm_gd (in_t2 (List.mem_of_getElem? (i := 178) rfl)) rfl
theorem wd_483 : Cond.instanceMethod yX9_characteristic ∈ lw_gd := mm_gd (in_t2 (List.mem_of_getElem? (i := 179) rfl)) rfl
theorem wd_484 : Cond.selects "PieceSurfaces$Survey" yX9_characteristic yX9_characteristic ∈ lw_gd := mm_gd (in_t2 (List.mem_of_getElem? (i := 180) rfl)) rfl
theorem wd_485 : Cond.code yX9_characteristic prog_11_method_5_code 5 (some FieldType.int) ∈ lw_gd := mm_gd (in_t2 (List.mem_of_getElem? (i := 181) rfl)) rfl
theorem wd_486 : Cond.methodLink "PieceSurfaces$Survey" 102 yX7_total ∈ lw_gd := mm_gd (in_t2 (List.mem_of_getElem? (i := 182) rfl)) rfl
theorem wd_487 : Cond.instanceMethod yX7_total ∈ lw_gd := mm_gd (in_t2 (List.mem_of_getElem? (i := 183) rfl)) rfl
theorem wd_488 : Cond.selects "PieceSurfaces$Sheet" yX7_total yX7_total ∈ lw_gd := mm_gd (in_t2 (List.mem_of_getElem? (i := 184) rfl)) rfl
theorem wd_489 : Cond.code yX7_total prog_9_method_5_code 3 (some FieldType.int) ∈ lw_gd := mm_gd (in_t2 (List.mem_of_getElem? (i := 185) rfl)) rfl
theorem wd_490 : Cond.methodLink "PieceSurfaces$Survey" 112 yX7_weightOn ∈ lw_gd := mm_gd (in_t2 (List.mem_of_getElem? (i := 186) rfl)) rfl
theorem wd_491 : Cond.instanceMethod yX7_weightOn ∈ lw_gd := mm_gd (in_t2 (List.mem_of_getElem? (i := 187) rfl)) rfl
theorem wd_492 : Cond.selects "PieceSurfaces$Sheet" yX7_weightOn yX7_weightOn ∈ lw_gd := mm_gd (in_t2 (List.mem_of_getElem? (i := 188) rfl)) rfl
theorem wd_493 : Cond.code yX7_weightOn prog_9_method_10_code 7 (some FieldType.int) ∈ lw_gd := mm_gd (in_t2 (List.mem_of_getElem? (i := 189) rfl)) rfl
theorem wd_494 : Cond.fieldLink "PieceSurfaces$Sheet" 40 "PieceSurfaces$Shape" "LOW" "[I" ∈ lw_gd := mm_gd (in_t2 (List.mem_of_getElem? (i := 190) rfl)) rfl
theorem wd_495 : Cond.fieldLink "PieceSurfaces$Sheet" 43 "PieceSurfaces$Shape" "HIGH" "[I" ∈ lw_gd := mm_gd (in_t2 (List.mem_of_getElem? (i := 191) rfl)) rfl
theorem wd_496 : Cond.methodLink "PieceSurfaces" 90 yX9_wholeCharacteristic ∈ lw_gd := mm_gd (in_t2 (List.mem_of_getElem? (i := 192) rfl)) rfl
theorem wd_497 : Cond.instanceMethod yX9_wholeCharacteristic ∈ lw_gd := mm_gd (in_t2 (List.mem_of_getElem? (i := 193) rfl)) rfl
theorem wd_498 : Cond.selects "PieceSurfaces$Survey" yX9_wholeCharacteristic yX9_wholeCharacteristic ∈ lw_gd := mm_gd (in_t2 (List.mem_of_getElem? (i := 194) rfl)) rfl
theorem wd_499 : Cond.code yX9_wholeCharacteristic prog_11_method_14_code 2 (some FieldType.int) ∈ lw_gd := mm_gd (in_t2 (List.mem_of_getElem? (i := 195) rfl)) rfl
theorem wd_500 : Cond.methodLink "PieceSurfaces$Survey" 179 yX10_freeFaces ∈ lw_gd := mm_gd (in_t2 (List.mem_of_getElem? (i := 196) rfl)) rfl
theorem wd_501 : Cond.methodLink "PieceSurfaces" 93 yX0_firstWrong ∈ lw_gd := mm_gd (in_t2 (List.mem_of_getElem? (i := 197) rfl)) rfl
theorem wd_502 : Cond.instanceMethod yX0_firstWrong ∈ lw_gd := mm_gd (in_t2 (List.mem_of_getElem? (i := 198) rfl)) rfl
theorem wd_503 : Cond.selects "PieceSurfaces$Book" yX0_firstWrong yX0_firstWrong ∈ lw_gd := mm_gd (in_t2 (List.mem_of_getElem? (i := 199) rfl)) rfl
theorem wd_504 : Cond.code yX0_firstWrong prog_2_method_4_code 4 (some FieldType.int) ∈ lw_gd := mm_gd (in_t2 (List.mem_of_getElem? (i := 200) rfl)) rfl
theorem wd_505 : Cond.methodLink "PieceSurfaces$Book" 24 yX0_isTrue ∈ lw_gd := mm_gd (in_t2 (List.mem_of_getElem? (i := 201) rfl)) rfl
theorem wd_507 : Cond.instanceMethod yX0_isTrue ∈ lw_gd := mm_gd (in_t2 (List.mem_of_getElem? (i := 203) rfl)) rfl
theorem wd_508 : Cond.code yX0_isTrue prog_2_method_5_code 5 (some FieldType.boolean) ∈ lw_gd := mm_gd (in_t2 (List.mem_of_getElem? (i := 204) rfl)) rfl
theorem wd_509 : Cond.methodLink "PieceSurfaces$Book" 35 yX9_isNormal ∈ lw_gd := mm_gd (in_t2 (List.mem_of_getElem? (i := 205) rfl)) rfl
theorem wd_510 : Cond.instanceMethod yX9_isNormal ∈ lw_gd := mm_gd (in_t2 (List.mem_of_getElem? (i := 206) rfl)) rfl
theorem wd_511 : Cond.selects "PieceSurfaces$Survey" yX9_isNormal yX9_isNormal ∈ lw_gd := mm_gd (in_t2 (List.mem_of_getElem? (i := 207) rfl)) rfl
theorem wd_512 : Cond.code yX9_isNormal prog_11_method_3_code 2 (some FieldType.boolean) ∈ lw_gd := mm_gd (in_t2 (List.mem_of_getElem? (i := 208) rfl)) rfl
theorem wd_513 : Cond.methodLink "PieceSurfaces$Survey" 71 yX7_crosses ∈ lw_gd := mm_gd (in_t2 (List.mem_of_getElem? (i := 209) rfl)) rfl
theorem wd_514 : Cond.instanceMethod yX7_crosses ∈ lw_gd := mm_gd (in_t2 (List.mem_of_getElem? (i := 210) rfl)) rfl
theorem wd_515 : Cond.selects "PieceSurfaces$Sheet" yX7_crosses yX7_crosses ∈ lw_gd := mm_gd (in_t2 (List.mem_of_getElem? (i := 211) rfl)) rfl
theorem wd_516 : Cond.code yX7_crosses prog_9_method_7_code 4 (some FieldType.boolean) ∈ lw_gd := mm_gd (in_t2 (List.mem_of_getElem? (i := 212) rfl)) rfl
theorem wd_517 : Cond.methodLink "PieceSurfaces$Survey" 75 yX9_matches ∈ lw_gd := mm_gd (in_t2 (List.mem_of_getElem? (i := 213) rfl)) rfl
theorem wd_518 : Cond.instanceMethod yX9_matches ∈ lw_gd := mm_gd (in_t2 (List.mem_of_getElem? (i := 214) rfl)) rfl
theorem wd_519 : Cond.selects "PieceSurfaces$Survey" yX9_matches yX9_matches ∈ lw_gd := mm_gd (in_t2 (List.mem_of_getElem? (i := 215) rfl)) rfl
theorem wd_520 : Cond.code yX9_matches prog_11_method_2_code 2 (some FieldType.boolean) ∈ lw_gd := mm_gd (in_t2 (List.mem_of_getElem? (i := 216) rfl)) rfl
theorem wd_521 : Cond.methodLink "PieceSurfaces$Survey" 63 yX4_read ∈ lw_gd := mm_gd (in_t2 (List.mem_of_getElem? (i := 217) rfl)) rfl
theorem wd_522 : Cond.instanceMethod yX4_read ∈ lw_gd := mm_gd (in_t2 (List.mem_of_getElem? (i := 218) rfl)) rfl
theorem wd_523 : Cond.selects "PieceSurfaces$Matching" yX4_read yX4_read ∈ lw_gd := mm_gd (in_t2 (List.mem_of_getElem? (i := 219) rfl)) rfl
theorem wd_524 : Cond.code yX4_read prog_6_method_2_code 6 none ∈ lw_gd := mm_gd (in_t2 (List.mem_of_getElem? (i := 220) rfl)) rfl
theorem wd_525 : Cond.methodLink "PieceSurfaces$Matching" 19 yX10_faces ∈ lw_gd := mm_gd (in_t2 (List.mem_of_getElem? (i := 221) rfl)) rfl
theorem wd_526 : Cond.methodLink "PieceSurfaces$Matching" 25 yX10_across ∈ lw_gd := mm_gd (in_t2 (List.mem_of_getElem? (i := 222) rfl)) rfl
theorem wd_527 : Cond.methodLink "PieceSurfaces$Matching" 29 yX10_leads ∈ lw_gd := mm_gd (in_t2 (List.mem_of_getElem? (i := 223) rfl)) rfl
theorem wd_528 : Cond.methodLink "PieceSurfaces$Matching" 36 yX4_enter ∈ lw_gd := mm_gd (in_t2 (List.mem_of_getElem? (i := 224) rfl)) rfl
theorem wd_530 : Cond.instanceMethod yX4_enter ∈ lw_gd := mm_gd (in_t2 (List.mem_of_getElem? (i := 226) rfl)) rfl
theorem wd_531 : Cond.code yX4_enter prog_6_method_3_code 10 none ∈ lw_gd := mm_gd (in_t2 (List.mem_of_getElem? (i := 227) rfl)) rfl
theorem wd_532 : Cond.methodLink "PieceSurfaces$Matching" 40 yX6_together ∈ lw_gd := mm_gd (in_t2 (List.mem_of_getElem? (i := 228) rfl)) rfl
theorem wd_533 : Cond.methodLink "PieceSurfaces$Survey" 67 yX4_holds ∈ lw_gd := mm_gd (in_t2 (List.mem_of_getElem? (i := 229) rfl)) rfl
theorem wd_534 : Cond.instanceMethod yX4_holds ∈ lw_gd := mm_gd (in_t2 (List.mem_of_getElem? (i := 230) rfl)) rfl
theorem wd_535 : Cond.selects "PieceSurfaces$Matching" yX4_holds yX4_holds ∈ lw_gd := mm_gd (in_t2 (List.mem_of_getElem? (i := 231) rfl)) rfl
theorem wd_536 : Cond.code yX4_holds prog_6_method_4_code 4 (some FieldType.boolean) ∈ lw_gd := mm_gd (in_t2 (List.mem_of_getElem? (i := 232) rfl)) rfl
theorem wd_537 : Cond.methodLink "PieceSurfaces$Book" 41 yX9_characteristic ∈ lw_gd := mm_gd (in_t2 (List.mem_of_getElem? (i := 233) rfl)) rfl
theorem wd_538 : Cond.methodLink "PieceSurfacesLaw" 18 yX11_wall ∈ lw_gd := mm_gd (in_t2 (List.mem_of_getElem? (i := 234) rfl)) rfl
theorem wd_539 : Cond.instanceMethod yX11_wall ∈ lw_gd := mm_gd (in_t2 (List.mem_of_getElem? (i := 235) rfl)) rfl
theorem wd_540 : Cond.selects "PieceSurfaces" yX11_wall yX11_wall ∈ lw_gd := mm_gd (in_t2 (List.mem_of_getElem? (i := 236) rfl)) rfl
theorem wd_541 : Cond.code yX11_wall prog_1_method_3_code 6 (some FieldType.int) ∈ lw_gd := mm_gd (in_t2 (List.mem_of_getElem? (i := 237) rfl)) rfl
theorem wd_542 : Cond.methodLink "PieceSurfaces" 97 yX11_hasFace ∈ lw_gd := mm_gd (in_t2 (List.mem_of_getElem? (i := 238) rfl)) rfl
theorem wd_544 : Cond.instanceMethod yX11_hasFace ∈ lw_gd := mm_gd (in_t3 (List.mem_of_getElem? (i := 0) rfl)) rfl
theorem wd_545 : Cond.code yX11_hasFace prog_1_method_26_code 3 (some FieldType.boolean) ∈ lw_gd := mm_gd (in_t3 (List.mem_of_getElem? (i := 1) rfl)) rfl
theorem wd_546 : Cond.methodLink "PieceSurfaces" 132 yX11_hasBody ∈ lw_gd := mm_gd (in_t3 (List.mem_of_getElem? (i := 2) rfl)) rfl
theorem wd_548 : Cond.instanceMethod yX11_hasBody ∈ lw_gd := mm_gd (in_t3 (List.mem_of_getElem? (i := 4) rfl)) rfl
theorem wd_549 : Cond.code yX11_hasBody prog_1_method_25_code 2 (some FieldType.boolean) ∈ lw_gd := mm_gd (in_t3 (List.mem_of_getElem? (i := 5) rfl)) rfl
theorem wd_550 : Cond.constant "PieceSurfaces" 101 (Int32.ofInt (-1000000001)) ∈ lw_gd := mm_gd (in_t3 (List.mem_of_getElem? (i := 6) rfl)) rfl
theorem wd_551 : Cond.methodLink "PieceSurfacesLaw" 23 yX11_corner ∈ lw_gd := mm_gd (in_t3 (List.mem_of_getElem? (i := 7) rfl)) rfl
theorem wd_552 : Cond.instanceMethod yX11_corner ∈ lw_gd := mm_gd (in_t3 (List.mem_of_getElem? (i := 8) rfl)) rfl
theorem wd_553 : Cond.selects "PieceSurfaces" yX11_corner yX11_corner ∈ lw_gd := mm_gd (in_t3 (List.mem_of_getElem? (i := 9) rfl)) rfl
theorem wd_554 : Cond.code yX11_corner prog_1_method_4_code 4 (some FieldType.int) ∈ lw_gd := mm_gd (in_t3 (List.mem_of_getElem? (i := 10) rfl)) rfl
theorem wd_555 : Cond.methodLink "PieceSurfaces" 109 yX10_across ∈ lw_gd := mm_gd (in_t3 (List.mem_of_getElem? (i := 11) rfl)) rfl
theorem wd_556 : Cond.methodLink "PieceSurfacesLaw" 27 yX11_edge ∈ lw_gd := mm_gd (in_t3 (List.mem_of_getElem? (i := 12) rfl)) rfl
theorem wd_557 : Cond.instanceMethod yX11_edge ∈ lw_gd := mm_gd (in_t3 (List.mem_of_getElem? (i := 13) rfl)) rfl
theorem wd_558 : Cond.selects "PieceSurfaces" yX11_edge yX11_edge ∈ lw_gd := mm_gd (in_t3 (List.mem_of_getElem? (i := 14) rfl)) rfl
theorem wd_559 : Cond.code yX11_edge prog_1_method_5_code 5 (some FieldType.int) ∈ lw_gd := mm_gd (in_t3 (List.mem_of_getElem? (i := 15) rfl)) rfl
theorem wd_560 : Cond.methodLink "PieceSurfaces" 116 yX11_hasEdge ∈ lw_gd := mm_gd (in_t3 (List.mem_of_getElem? (i := 16) rfl)) rfl
theorem wd_562 : Cond.instanceMethod yX11_hasEdge ∈ lw_gd := mm_gd (in_t3 (List.mem_of_getElem? (i := 18) rfl)) rfl
theorem wd_563 : Cond.code yX11_hasEdge prog_1_method_27_code 3 (some FieldType.boolean) ∈ lw_gd := mm_gd (in_t3 (List.mem_of_getElem? (i := 19) rfl)) rfl
theorem wd_564 : Cond.methodLink "PieceSurfaces" 125 yX8_isReversed ∈ lw_gd := mm_gd (in_t3 (List.mem_of_getElem? (i := 20) rfl)) rfl
theorem wd_565 : Cond.methodLink "PieceSurfacesLaw" 31 yX11_pieces ∈ lw_gd := mm_gd (in_t3 (List.mem_of_getElem? (i := 21) rfl)) rfl
theorem wd_566 : Cond.instanceMethod yX11_pieces ∈ lw_gd := mm_gd (in_t3 (List.mem_of_getElem? (i := 22) rfl)) rfl
theorem wd_567 : Cond.selects "PieceSurfaces" yX11_pieces yX11_pieces ∈ lw_gd := mm_gd (in_t3 (List.mem_of_getElem? (i := 23) rfl)) rfl
theorem wd_568 : Cond.code yX11_pieces prog_1_method_6_code 4 (some FieldType.int) ∈ lw_gd := mm_gd (in_t3 (List.mem_of_getElem? (i := 24) rfl)) rfl
theorem wd_569 : Cond.methodLink "PieceSurfaces" 129 yX11_hasSurface ∈ lw_gd := mm_gd (in_t3 (List.mem_of_getElem? (i := 25) rfl)) rfl
theorem wd_571 : Cond.instanceMethod yX11_hasSurface ∈ lw_gd := mm_gd (in_t3 (List.mem_of_getElem? (i := 27) rfl)) rfl
theorem wd_572 : Cond.code yX11_hasSurface prog_1_method_28_code 2 (some FieldType.boolean) ∈ lw_gd := mm_gd (in_t3 (List.mem_of_getElem? (i := 28) rfl)) rfl
theorem wd_573 : Cond.methodLink "PieceSurfaces" 135 yX11_isKind ∈ lw_gd := mm_gd (in_t3 (List.mem_of_getElem? (i := 29) rfl)) rfl
theorem wd_574 : Cond.static yX11_isKind ∈ lw_gd := mm_gd (in_t3 (List.mem_of_getElem? (i := 30) rfl)) rfl
theorem wd_575 : Cond.code yX11_isKind prog_1_method_30_code 1 (some FieldType.boolean) ∈ lw_gd := mm_gd (in_t3 (List.mem_of_getElem? (i := 31) rfl)) rfl
theorem wd_576 : Cond.methodLink "PieceSurfacesLaw" 35 yX11_surface ∈ lw_gd := mm_gd (in_t3 (List.mem_of_getElem? (i := 32) rfl)) rfl
theorem wd_577 : Cond.instanceMethod yX11_surface ∈ lw_gd := mm_gd (in_t3 (List.mem_of_getElem? (i := 33) rfl)) rfl
theorem wd_578 : Cond.selects "PieceSurfaces" yX11_surface yX11_surface ∈ lw_gd := mm_gd (in_t3 (List.mem_of_getElem? (i := 34) rfl)) rfl
theorem wd_579 : Cond.code yX11_surface prog_1_method_7_code 4 (some FieldType.int) ∈ lw_gd := mm_gd (in_t3 (List.mem_of_getElem? (i := 35) rfl)) rfl
theorem wd_580 : Cond.methodLink "PieceSurfaces" 147 yX9_matches ∈ lw_gd := mm_gd (in_t3 (List.mem_of_getElem? (i := 36) rfl)) rfl
theorem wd_581 : Cond.methodLink "PieceSurfaces" 151 yX7_crosses ∈ lw_gd := mm_gd (in_t3 (List.mem_of_getElem? (i := 37) rfl)) rfl
theorem wd_582 : Cond.methodLink "PieceSurfaces" 155 yX7_total ∈ lw_gd := mm_gd (in_t3 (List.mem_of_getElem? (i := 38) rfl)) rfl
theorem wd_583 : Cond.methodLink "PieceSurfaces" 158 yX9_isNormal ∈ lw_gd := mm_gd (in_t3 (List.mem_of_getElem? (i := 39) rfl)) rfl
theorem wd_584 : Cond.methodLink "PieceSurfaces" 161 yX9_ofNormal ∈ lw_gd := mm_gd (in_t3 (List.mem_of_getElem? (i := 40) rfl)) rfl
theorem wd_585 : Cond.instanceMethod yX9_ofNormal ∈ lw_gd := mm_gd (in_t3 (List.mem_of_getElem? (i := 41) rfl)) rfl
theorem wd_586 : Cond.selects "PieceSurfaces$Survey" yX9_ofNormal yX9_ofNormal ∈ lw_gd := mm_gd (in_t3 (List.mem_of_getElem? (i := 42) rfl)) rfl
theorem wd_587 : Cond.code yX9_ofNormal prog_11_method_4_code 3 (some FieldType.int) ∈ lw_gd := mm_gd (in_t3 (List.mem_of_getElem? (i := 43) rfl)) rfl
theorem wd_588 : Cond.methodLink "PieceSurfaces$Survey" 85 yX9_type ∈ lw_gd := mm_gd (in_t3 (List.mem_of_getElem? (i := 44) rfl)) rfl
theorem wd_590 : Cond.instanceMethod yX9_type ∈ lw_gd := mm_gd (in_t3 (List.mem_of_getElem? (i := 46) rfl)) rfl
theorem wd_591 : Cond.code yX9_type prog_11_method_7_code 2 (some FieldType.int) ∈ lw_gd := mm_gd (in_t3 (List.mem_of_getElem? (i := 47) rfl)) rfl
theorem wd_592 : Cond.methodLink "PieceSurfaces$Survey" 88 yX9_splits ∈ lw_gd := mm_gd (in_t3 (List.mem_of_getElem? (i := 48) rfl)) rfl
theorem wd_594 : Cond.instanceMethod yX9_splits ∈ lw_gd := mm_gd (in_t3 (List.mem_of_getElem? (i := 50) rfl)) rfl
theorem wd_595 : Cond.code yX9_splits prog_11_method_15_code 4 (some FieldType.int) ∈ lw_gd := mm_gd (in_t3 (List.mem_of_getElem? (i := 51) rfl)) rfl
theorem wd_596 : Cond.methodLink "PieceSurfaces$Survey" 182 yX9_countParts ∈ lw_gd := mm_gd (in_t3 (List.mem_of_getElem? (i := 52) rfl)) rfl
theorem wd_597 : Cond.static yX9_countParts ∈ lw_gd := mm_gd (in_t3 (List.mem_of_getElem? (i := 53) rfl)) rfl
theorem wd_598 : Cond.code yX9_countParts prog_11_method_16_code 3 (some FieldType.int) ∈ lw_gd := mm_gd (in_t3 (List.mem_of_getElem? (i := 54) rfl)) rfl
theorem wd_599 : Cond.methodLink "PieceSurfaces$Survey" 185 yX9_listUsed ∈ lw_gd := mm_gd (in_t3 (List.mem_of_getElem? (i := 55) rfl)) rfl
theorem wd_601 : Cond.instanceMethod yX9_listUsed ∈ lw_gd := mm_gd (in_t3 (List.mem_of_getElem? (i := 57) rfl)) rfl
theorem wd_602 : Cond.code yX9_listUsed prog_11_method_17_code 3 none ∈ lw_gd := mm_gd (in_t3 (List.mem_of_getElem? (i := 58) rfl)) rfl
theorem wd_603 : Cond.methodLink "PieceSurfaces$Survey" 188 yX9_nextPart ∈ lw_gd := mm_gd (in_t3 (List.mem_of_getElem? (i := 59) rfl)) rfl
theorem wd_605 : Cond.instanceMethod yX9_nextPart ∈ lw_gd := mm_gd (in_t3 (List.mem_of_getElem? (i := 61) rfl)) rfl
theorem wd_606 : Cond.code yX9_nextPart prog_11_method_18_code 4 none ∈ lw_gd := mm_gd (in_t3 (List.mem_of_getElem? (i := 62) rfl)) rfl
theorem wd_607 : Cond.methodLink "PieceSurfacesLaw" 40 yX11_weight ∈ lw_gd := mm_gd (in_t3 (List.mem_of_getElem? (i := 63) rfl)) rfl
theorem wd_608 : Cond.instanceMethod yX11_weight ∈ lw_gd := mm_gd (in_t3 (List.mem_of_getElem? (i := 64) rfl)) rfl
theorem wd_609 : Cond.selects "PieceSurfaces" yX11_weight yX11_weight ∈ lw_gd := mm_gd (in_t3 (List.mem_of_getElem? (i := 65) rfl)) rfl
theorem wd_610 : Cond.code yX11_weight prog_1_method_8_code 4 (some FieldType.int) ∈ lw_gd := mm_gd (in_t3 (List.mem_of_getElem? (i := 66) rfl)) rfl
theorem wd_611 : Cond.methodLink "PieceSurfaces" 165 yX7_weightOn ∈ lw_gd := mm_gd (in_t3 (List.mem_of_getElem? (i := 67) rfl)) rfl
theorem wd_612 : Cond.methodLink "PieceSurfacesLaw" 44 yX11_arcs ∈ lw_gd := mm_gd (in_t3 (List.mem_of_getElem? (i := 68) rfl)) rfl
theorem wd_613 : Cond.instanceMethod yX11_arcs ∈ lw_gd := mm_gd (in_t3 (List.mem_of_getElem? (i := 69) rfl)) rfl
theorem wd_614 : Cond.selects "PieceSurfaces" yX11_arcs yX11_arcs ∈ lw_gd := mm_gd (in_t3 (List.mem_of_getElem? (i := 70) rfl)) rfl
theorem wd_615 : Cond.code yX11_arcs prog_1_method_9_code 5 (some FieldType.int) ∈ lw_gd := mm_gd (in_t3 (List.mem_of_getElem? (i := 71) rfl)) rfl
theorem wd_616 : Cond.methodLink "PieceSurfaces" 168 yX7_arcsAt ∈ lw_gd := mm_gd (in_t3 (List.mem_of_getElem? (i := 72) rfl)) rfl
theorem wd_617 : Cond.methodLink "PieceSurfacesLaw" 49 yX11_bodies ∈ lw_gd := mm_gd (in_t3 (List.mem_of_getElem? (i := 73) rfl)) rfl
theorem wd_618 : Cond.instanceMethod yX11_bodies ∈ lw_gd := mm_gd (in_t3 (List.mem_of_getElem? (i := 74) rfl)) rfl
theorem wd_619 : Cond.selects "PieceSurfaces" yX11_bodies yX11_bodies ∈ lw_gd := mm_gd (in_t3 (List.mem_of_getElem? (i := 75) rfl)) rfl
theorem wd_620 : Cond.code yX11_bodies prog_1_method_10_code 3 (some FieldType.int) ∈ lw_gd := mm_gd (in_t3 (List.mem_of_getElem? (i := 76) rfl)) rfl
theorem wd_621 : Cond.methodLink "PieceSurfaces" 172 yX5_record ∈ lw_gd := mm_gd (in_t3 (List.mem_of_getElem? (i := 77) rfl)) rfl
theorem wd_622 : Cond.instanceMethod yX5_record ∈ lw_gd := mm_gd (in_t3 (List.mem_of_getElem? (i := 78) rfl)) rfl
theorem wd_623 : Cond.selects "PieceSurfaces$Past" yX5_record yX5_record ∈ lw_gd := mm_gd (in_t3 (List.mem_of_getElem? (i := 79) rfl)) rfl
theorem wd_624 : Cond.code yX5_record prog_7_method_2_code 2 none ∈ lw_gd := mm_gd (in_t3 (List.mem_of_getElem? (i := 80) rfl)) rfl
theorem wd_625 : Cond.methodLink "PieceSurfaces$Past" 22 yX10_copyFrom ∈ lw_gd := mm_gd (in_t3 (List.mem_of_getElem? (i := 81) rfl)) rfl
theorem wd_626 : Cond.instanceMethod yX10_copyFrom ∈ lw_gd := mm_gd (in_t3 (List.mem_of_getElem? (i := 82) rfl)) rfl
theorem wd_627 : Cond.selects "PieceSurfaces$World" yX10_copyFrom yX10_copyFrom ∈ lw_gd := mm_gd (in_t3 (List.mem_of_getElem? (i := 83) rfl)) rfl
theorem wd_628 : Cond.code yX10_copyFrom prog_12_method_3_code 3 none ∈ lw_gd := mm_gd (in_t3 (List.mem_of_getElem? (i := 84) rfl)) rfl
theorem wd_629 : Cond.methodLink "PieceSurfaces$World" 40 ⟨"java/lang/System", "arraycopy", "(Ljava/lang/Object;ILjava/lang/Object;II)V"⟩ ∈ lw_gd := mm_gd (in_t3 (List.mem_of_getElem? (i := 85) rfl)) rfl
theorem wd_630 : Cond.static ⟨"java/lang/System", "arraycopy", "(Ljava/lang/Object;ILjava/lang/Object;II)V"⟩ ∈ lw_gd := mm_gd (in_t3 (List.mem_of_getElem? (i := 86) rfl)) rfl
theorem wd_631 : Cond.native ⟨"java/lang/System", "arraycopy", "(Ljava/lang/Object;ILjava/lang/Object;II)V"⟩ ∈ lw_gd := mm_gd (in_t3 (List.mem_of_getElem? (i := 87) rfl)) rfl
theorem wd_632 : Cond.methodLink "PieceSurfaces$World" 46 yX7_copyFrom ∈ lw_gd := mm_gd (in_t3 (List.mem_of_getElem? (i := 88) rfl)) rfl
theorem wd_633 : Cond.instanceMethod yX7_copyFrom ∈ lw_gd := mm_gd (in_t3 (List.mem_of_getElem? (i := 89) rfl)) rfl
theorem wd_634 : Cond.selects "PieceSurfaces$Sheet" yX7_copyFrom yX7_copyFrom ∈ lw_gd := mm_gd (in_t3 (List.mem_of_getElem? (i := 90) rfl)) rfl
theorem wd_635 : Cond.code yX7_copyFrom prog_9_method_3_code 2 none ∈ lw_gd := mm_gd (in_t3 (List.mem_of_getElem? (i := 91) rfl)) rfl
theorem wd_636 : Cond.methodLink "PieceSurfaces$Sheet" 21 ⟨"java/lang/System", "arraycopy", "(Ljava/lang/Object;ILjava/lang/Object;II)V"⟩ ∈ lw_gd := mm_gd (in_t3 (List.mem_of_getElem? (i := 92) rfl)) rfl
theorem wd_637 : Cond.methodLink "PieceSurfaces$Past" 29 yJ9_min_7cf53 ∈ lw_gd := mm_gd (in_t3 (List.mem_of_getElem? (i := 93) rfl)) rfl
theorem wd_638 : Cond.methodLink "PieceSurfaces" 175 yX10_begin ∈ lw_gd := mm_gd (in_t3 (List.mem_of_getElem? (i := 94) rfl)) rfl
theorem wd_639 : Cond.instanceMethod yX10_begin ∈ lw_gd := mm_gd (in_t3 (List.mem_of_getElem? (i := 95) rfl)) rfl
theorem wd_640 : Cond.selects "PieceSurfaces$World" yX10_begin yX10_begin ∈ lw_gd := mm_gd (in_t3 (List.mem_of_getElem? (i := 96) rfl)) rfl
theorem wd_641 : Cond.code yX10_begin prog_12_method_2_code 2 none ∈ lw_gd := mm_gd (in_t3 (List.mem_of_getElem? (i := 97) rfl)) rfl
theorem wd_642 : Cond.methodLink "PieceSurfacesLaw" 53 yX11_glue ∈ lw_gd := mm_gd (in_t3 (List.mem_of_getElem? (i := 98) rfl)) rfl
theorem wd_643 : Cond.instanceMethod yX11_glue ∈ lw_gd := mm_gd (in_t3 (List.mem_of_getElem? (i := 99) rfl)) rfl
theorem wd_644 : Cond.selects "PieceSurfaces" yX11_glue yX11_glue ∈ lw_gd := mm_gd (in_t3 (List.mem_of_getElem? (i := 100) rfl)) rfl
theorem wd_645 : Cond.code yX11_glue prog_1_method_11_code 6 (some FieldType.int) ∈ lw_gd := mm_gd (in_t3 (List.mem_of_getElem? (i := 101) rfl)) rfl
theorem wd_646 : Cond.methodLink "PieceSurfaces" 179 yX10_canFasten ∈ lw_gd := mm_gd (in_t3 (List.mem_of_getElem? (i := 102) rfl)) rfl
theorem wd_647 : Cond.instanceMethod yX10_canFasten ∈ lw_gd := mm_gd (in_t3 (List.mem_of_getElem? (i := 103) rfl)) rfl
theorem wd_648 : Cond.selects "PieceSurfaces$World" yX10_canFasten yX10_canFasten ∈ lw_gd := mm_gd (in_t3 (List.mem_of_getElem? (i := 104) rfl)) rfl
theorem wd_649 : Cond.code yX10_canFasten prog_12_method_6_code 3 (some FieldType.boolean) ∈ lw_gd := mm_gd (in_t3 (List.mem_of_getElem? (i := 105) rfl)) rfl
theorem wd_650 : Cond.constant "PieceSurfaces" 182 (Int32.ofInt (-1000000003)) ∈ lw_gd := mm_gd (in_t3 (List.mem_of_getElem? (i := 106) rfl)) rfl
theorem wd_651 : Cond.methodLink "PieceSurfaces" 183 yX10_fasten ∈ lw_gd := mm_gd (in_t3 (List.mem_of_getElem? (i := 107) rfl)) rfl
theorem wd_652 : Cond.instanceMethod yX10_fasten ∈ lw_gd := mm_gd (in_t3 (List.mem_of_getElem? (i := 108) rfl)) rfl
theorem wd_653 : Cond.selects "PieceSurfaces$World" yX10_fasten yX10_fasten ∈ lw_gd := mm_gd (in_t3 (List.mem_of_getElem? (i := 109) rfl)) rfl
theorem wd_654 : Cond.code yX10_fasten prog_12_method_7_code 4 none ∈ lw_gd := mm_gd (in_t3 (List.mem_of_getElem? (i := 110) rfl)) rfl
theorem wd_655 : Cond.fieldLink "PieceSurfaces$World" 54 "PieceSurfaces$Shape" "BACK" "[I" ∈ lw_gd := mm_gd (in_t3 (List.mem_of_getElem? (i := 111) rfl)) rfl
theorem wd_657 : Cond.methodLink "PieceSurfacesLaw" 58 yX11_free ∈ lw_gd := mm_gd (in_t3 (List.mem_of_getElem? (i := 113) rfl)) rfl
theorem wd_658 : Cond.instanceMethod yX11_free ∈ lw_gd := mm_gd (in_t3 (List.mem_of_getElem? (i := 114) rfl)) rfl
theorem wd_659 : Cond.selects "PieceSurfaces" yX11_free yX11_free ∈ lw_gd := mm_gd (in_t3 (List.mem_of_getElem? (i := 115) rfl)) rfl
theorem wd_660 : Cond.code yX11_free prog_1_method_12_code 3 (some FieldType.int) ∈ lw_gd := mm_gd (in_t3 (List.mem_of_getElem? (i := 116) rfl)) rfl
theorem wd_661 : Cond.methodLink "PieceSurfaces" 187 yX10_loosen ∈ lw_gd := mm_gd (in_t3 (List.mem_of_getElem? (i := 117) rfl)) rfl
theorem wd_662 : Cond.instanceMethod yX10_loosen ∈ lw_gd := mm_gd (in_t3 (List.mem_of_getElem? (i := 118) rfl)) rfl
theorem wd_663 : Cond.selects "PieceSurfaces$World" yX10_loosen yX10_loosen ∈ lw_gd := mm_gd (in_t3 (List.mem_of_getElem? (i := 119) rfl)) rfl
theorem wd_664 : Cond.code yX10_loosen prog_12_method_8_code 3 none ∈ lw_gd := mm_gd (in_t3 (List.mem_of_getElem? (i := 120) rfl)) rfl
theorem wd_665 : Cond.methodLink "PieceSurfacesLaw" 62 yX11_put ∈ lw_gd := mm_gd (in_t3 (List.mem_of_getElem? (i := 121) rfl)) rfl
theorem wd_666 : Cond.instanceMethod yX11_put ∈ lw_gd := mm_gd (in_t3 (List.mem_of_getElem? (i := 122) rfl)) rfl
theorem wd_667 : Cond.selects "PieceSurfaces" yX11_put yX11_put ∈ lw_gd := mm_gd (in_t3 (List.mem_of_getElem? (i := 123) rfl)) rfl
theorem wd_668 : Cond.code yX11_put prog_1_method_13_code 1 (some FieldType.int) ∈ lw_gd := mm_gd (in_t3 (List.mem_of_getElem? (i := 124) rfl)) rfl
theorem wd_669 : Cond.methodLink "PieceSurfaces" 190 yX10_isFull ∈ lw_gd := mm_gd (in_t3 (List.mem_of_getElem? (i := 125) rfl)) rfl
theorem wd_670 : Cond.instanceMethod yX10_isFull ∈ lw_gd := mm_gd (in_t3 (List.mem_of_getElem? (i := 126) rfl)) rfl
theorem wd_671 : Cond.selects "PieceSurfaces$World" yX10_isFull yX10_isFull ∈ lw_gd := mm_gd (in_t3 (List.mem_of_getElem? (i := 127) rfl)) rfl
theorem wd_672 : Cond.code yX10_isFull prog_12_method_11_code 1 (some FieldType.boolean) ∈ lw_gd := mm_gd (in_t3 (List.mem_of_getElem? (i := 128) rfl)) rfl
theorem wd_673 : Cond.constant "PieceSurfaces" 193 (Int32.ofInt (-1000000004)) ∈ lw_gd := mm_gd (in_t3 (List.mem_of_getElem? (i := 129) rfl)) rfl
theorem wd_674 : Cond.methodLink "PieceSurfaces" 194 yX7_clear ∈ lw_gd := mm_gd (in_t3 (List.mem_of_getElem? (i := 130) rfl)) rfl
theorem wd_675 : Cond.methodLink "PieceSurfaces" 197 yX10_lastGrown ∈ lw_gd := mm_gd (in_t3 (List.mem_of_getElem? (i := 131) rfl)) rfl
theorem wd_676 : Cond.instanceMethod yX10_lastGrown ∈ lw_gd := mm_gd (in_t3 (List.mem_of_getElem? (i := 132) rfl)) rfl
theorem wd_677 : Cond.selects "PieceSurfaces$World" yX10_lastGrown yX10_lastGrown ∈ lw_gd := mm_gd (in_t3 (List.mem_of_getElem? (i := 133) rfl)) rfl
theorem wd_678 : Cond.code yX10_lastGrown prog_12_method_12_code 1 (some FieldType.int) ∈ lw_gd := mm_gd (in_t3 (List.mem_of_getElem? (i := 134) rfl)) rfl
theorem wd_679 : Cond.methodLink "PieceSurfacesLaw" 67 yX11_piece ∈ lw_gd := mm_gd (in_t3 (List.mem_of_getElem? (i := 135) rfl)) rfl
theorem wd_680 : Cond.instanceMethod yX11_piece ∈ lw_gd := mm_gd (in_t3 (List.mem_of_getElem? (i := 136) rfl)) rfl
theorem wd_681 : Cond.selects "PieceSurfaces" yX11_piece yX11_piece ∈ lw_gd := mm_gd (in_t3 (List.mem_of_getElem? (i := 137) rfl)) rfl
theorem wd_682 : Cond.code yX11_piece prog_1_method_14_code 7 (some FieldType.int) ∈ lw_gd := mm_gd (in_t3 (List.mem_of_getElem? (i := 138) rfl)) rfl
theorem wd_683 : Cond.methodLink "PieceSurfacesLaw" 71 yX11_about ∈ lw_gd := mm_gd (in_t3 (List.mem_of_getElem? (i := 139) rfl)) rfl
theorem wd_684 : Cond.instanceMethod yX11_about ∈ lw_gd := mm_gd (in_t3 (List.mem_of_getElem? (i := 140) rfl)) rfl
theorem wd_685 : Cond.selects "PieceSurfaces" yX11_about yX11_about ∈ lw_gd := mm_gd (in_t3 (List.mem_of_getElem? (i := 141) rfl)) rfl
theorem wd_686 : Cond.code yX11_about prog_1_method_15_code 2 (some FieldType.int) ∈ lw_gd := mm_gd (in_t3 (List.mem_of_getElem? (i := 142) rfl)) rfl
theorem wd_687 : Cond.methodLink "PieceSurfaces" 200 yX9_fillLink ∈ lw_gd := mm_gd (in_t3 (List.mem_of_getElem? (i := 143) rfl)) rfl
theorem wd_688 : Cond.methodLink "PieceSurfacesLaw" 75 yX11_add ∈ lw_gd := mm_gd (in_t3 (List.mem_of_getElem? (i := 144) rfl)) rfl
theorem wd_689 : Cond.instanceMethod yX11_add ∈ lw_gd := mm_gd (in_t3 (List.mem_of_getElem? (i := 145) rfl)) rfl
theorem wd_690 : Cond.selects "PieceSurfaces" yX11_add yX11_add ∈ lw_gd := mm_gd (in_t3 (List.mem_of_getElem? (i := 146) rfl)) rfl
theorem wd_691 : Cond.code yX11_add prog_1_method_16_code 4 (some FieldType.int) ∈ lw_gd := mm_gd (in_t3 (List.mem_of_getElem? (i := 147) rfl)) rfl
theorem wd_692 : Cond.methodLink "PieceSurfaces" 204 yX7_fillSum ∈ lw_gd := mm_gd (in_t3 (List.mem_of_getElem? (i := 148) rfl)) rfl
theorem wd_693 : Cond.instanceMethod yX7_fillSum ∈ lw_gd := mm_gd (in_t3 (List.mem_of_getElem? (i := 149) rfl)) rfl
theorem wd_694 : Cond.selects "PieceSurfaces$Sheet" yX7_fillSum yX7_fillSum ∈ lw_gd := mm_gd (in_t3 (List.mem_of_getElem? (i := 150) rfl)) rfl
theorem wd_695 : Cond.code yX7_fillSum prog_9_method_4_code 4 none ∈ lw_gd := mm_gd (in_t3 (List.mem_of_getElem? (i := 151) rfl)) rfl
theorem wd_696 : Cond.methodLink "PieceSurfaces" 208 yX7_most ∈ lw_gd := mm_gd (in_t3 (List.mem_of_getElem? (i := 152) rfl)) rfl
theorem wd_697 : Cond.instanceMethod yX7_most ∈ lw_gd := mm_gd (in_t3 (List.mem_of_getElem? (i := 153) rfl)) rfl
theorem wd_698 : Cond.selects "PieceSurfaces$Sheet" yX7_most yX7_most ∈ lw_gd := mm_gd (in_t3 (List.mem_of_getElem? (i := 154) rfl)) rfl
theorem wd_699 : Cond.code yX7_most prog_9_method_6_code 3 (some FieldType.int) ∈ lw_gd := mm_gd (in_t3 (List.mem_of_getElem? (i := 155) rfl)) rfl
theorem wd_700 : Cond.methodLink "PieceSurfaces$Sheet" 27 yJ9_max_7cf53 ∈ lw_gd := mm_gd (in_t3 (List.mem_of_getElem? (i := 156) rfl)) rfl
theorem wd_701 : Cond.static yJ9_max_7cf53 ∈ lw_gd := mm_gd (in_t3 (List.mem_of_getElem? (i := 157) rfl)) rfl
theorem wd_702 : Cond.code yJ9_max_7cf53 prog_15_method_65_code 2 (some FieldType.int) ∈ lw_gd := mm_gd (in_t3 (List.mem_of_getElem? (i := 158) rfl)) rfl
theorem wd_703 : Cond.methodLink "PieceSurfacesLaw" 79 yX11_take ∈ lw_gd := mm_gd (in_t3 (List.mem_of_getElem? (i := 159) rfl)) rfl
theorem wd_704 : Cond.instanceMethod yX11_take ∈ lw_gd := mm_gd (in_t3 (List.mem_of_getElem? (i := 160) rfl)) rfl
theorem wd_705 : Cond.selects "PieceSurfaces" yX11_take yX11_take ∈ lw_gd := mm_gd (in_t3 (List.mem_of_getElem? (i := 161) rfl)) rfl
theorem wd_706 : Cond.code yX11_take prog_1_method_17_code 2 (some FieldType.int) ∈ lw_gd := mm_gd (in_t3 (List.mem_of_getElem? (i := 162) rfl)) rfl
theorem wd_707 : Cond.methodLink "PieceSurfaces" 211 yX10_dropSheet ∈ lw_gd := mm_gd (in_t3 (List.mem_of_getElem? (i := 163) rfl)) rfl
theorem wd_708 : Cond.instanceMethod yX10_dropSheet ∈ lw_gd := mm_gd (in_t3 (List.mem_of_getElem? (i := 164) rfl)) rfl
theorem wd_709 : Cond.selects "PieceSurfaces$World" yX10_dropSheet yX10_dropSheet ∈ lw_gd := mm_gd (in_t3 (List.mem_of_getElem? (i := 165) rfl)) rfl
theorem wd_710 : Cond.code yX10_dropSheet prog_12_method_13_code 3 none ∈ lw_gd := mm_gd (in_t3 (List.mem_of_getElem? (i := 166) rfl)) rfl
theorem wd_711 : Cond.methodLink "PieceSurfacesLaw" 83 yX11_drift ∈ lw_gd := mm_gd (in_t3 (List.mem_of_getElem? (i := 167) rfl)) rfl
theorem wd_712 : Cond.instanceMethod yX11_drift ∈ lw_gd := mm_gd (in_t3 (List.mem_of_getElem? (i := 168) rfl)) rfl
theorem wd_713 : Cond.selects "PieceSurfaces" yX11_drift yX11_drift ∈ lw_gd := mm_gd (in_t3 (List.mem_of_getElem? (i := 169) rfl)) rfl
theorem wd_714 : Cond.code yX11_drift prog_1_method_18_code 3 (some FieldType.int) ∈ lw_gd := mm_gd (in_t3 (List.mem_of_getElem? (i := 170) rfl)) rfl
theorem wd_715 : Cond.methodLink "PieceSurfaces" 214 yX11_driftOnce ∈ lw_gd := mm_gd (in_t3 (List.mem_of_getElem? (i := 171) rfl)) rfl
theorem wd_717 : Cond.instanceMethod yX11_driftOnce ∈ lw_gd := mm_gd (in_t3 (List.mem_of_getElem? (i := 173) rfl)) rfl
theorem wd_718 : Cond.code yX11_driftOnce prog_1_method_31_code 6 none ∈ lw_gd := mm_gd (in_t3 (List.mem_of_getElem? (i := 174) rfl)) rfl
theorem wd_719 : Cond.methodLink "PieceSurfaces" 243 yX2_below ∈ lw_gd := mm_gd (in_t3 (List.mem_of_getElem? (i := 175) rfl)) rfl
theorem wd_720 : Cond.instanceMethod yX2_below ∈ lw_gd := mm_gd (in_t3 (List.mem_of_getElem? (i := 176) rfl)) rfl
theorem wd_721 : Cond.selects "PieceSurfaces$Dice" yX2_below yX2_below ∈ lw_gd := mm_gd (in_t3 (List.mem_of_getElem? (i := 177) rfl)) rfl
theorem wd_722 : Cond.code yX2_below prog_4_method_2_code 2 (some FieldType.int) ∈ lw_gd := mm_gd (in_t3 (List.mem_of_getElem? (i := 178) rfl)) rfl
theorem wd_726 : Cond.constant "PieceSurfaces$Dice" 19 (Int32.ofInt (65536)) ∈ lw_gd := mm_gd (in_t3 (List.mem_of_getElem? (i := 182) rfl)) rfl
theorem wd_727 : Cond.methodLink "PieceSurfacesLaw" 87 yX11_undo ∈ lw_gd := mm_gd (in_t3 (List.mem_of_getElem? (i := 183) rfl)) rfl
theorem wd_728 : Cond.instanceMethod yX11_undo ∈ lw_gd := mm_gd (in_t3 (List.mem_of_getElem? (i := 184) rfl)) rfl
theorem wd_729 : Cond.selects "PieceSurfaces" yX11_undo yX11_undo ∈ lw_gd := mm_gd (in_t3 (List.mem_of_getElem? (i := 185) rfl)) rfl
theorem wd_730 : Cond.code yX11_undo prog_1_method_19_code 2 (some FieldType.int) ∈ lw_gd := mm_gd (in_t3 (List.mem_of_getElem? (i := 186) rfl)) rfl
theorem wd_731 : Cond.methodLink "PieceSurfaces" 217 yX5_restore ∈ lw_gd := mm_gd (in_t3 (List.mem_of_getElem? (i := 187) rfl)) rfl
theorem wd_732 : Cond.instanceMethod yX5_restore ∈ lw_gd := mm_gd (in_t3 (List.mem_of_getElem? (i := 188) rfl)) rfl
theorem wd_733 : Cond.selects "PieceSurfaces$Past" yX5_restore yX5_restore ∈ lw_gd := mm_gd (in_t3 (List.mem_of_getElem? (i := 189) rfl)) rfl
theorem wd_734 : Cond.code yX5_restore prog_7_method_3_code 3 none ∈ lw_gd := mm_gd (in_t3 (List.mem_of_getElem? (i := 190) rfl)) rfl
theorem wd_735 : Cond.methodLink "PieceSurfaces$Past" 35 yJ9_floorMod_7cf53 ∈ lw_gd := mm_gd (in_t3 (List.mem_of_getElem? (i := 191) rfl)) rfl
theorem wd_736 : Cond.static yJ9_floorMod_7cf53 ∈ lw_gd := mm_gd (in_t3 (List.mem_of_getElem? (i := 192) rfl)) rfl
theorem wd_737 : Cond.code yJ9_floorMod_7cf53 prog_15_method_50_code 3 (some FieldType.int) ∈ lw_gd := mm_gd (in_t3 (List.mem_of_getElem? (i := 193) rfl)) rfl
theorem wd_738 : Cond.methodLink "PieceSurfacesLaw" 91 yX11_write ∈ lw_gd := mm_gd (in_t3 (List.mem_of_getElem? (i := 194) rfl)) rfl
theorem wd_739 : Cond.instanceMethod yX11_write ∈ lw_gd := mm_gd (in_t3 (List.mem_of_getElem? (i := 195) rfl)) rfl
theorem wd_740 : Cond.selects "PieceSurfaces" yX11_write yX11_write ∈ lw_gd := mm_gd (in_t3 (List.mem_of_getElem? (i := 196) rfl)) rfl
theorem wd_741 : Cond.code yX11_write prog_1_method_20_code 3 (some FieldType.int) ∈ lw_gd := mm_gd (in_t3 (List.mem_of_getElem? (i := 197) rfl)) rfl
theorem wd_742 : Cond.methodLink "PieceSurfaces" 221 yX0_isFull ∈ lw_gd := mm_gd (in_t3 (List.mem_of_getElem? (i := 198) rfl)) rfl
theorem wd_743 : Cond.instanceMethod yX0_isFull ∈ lw_gd := mm_gd (in_t3 (List.mem_of_getElem? (i := 199) rfl)) rfl
theorem wd_744 : Cond.selects "PieceSurfaces$Book" yX0_isFull yX0_isFull ∈ lw_gd := mm_gd (in_t3 (List.mem_of_getElem? (i := 200) rfl)) rfl
theorem wd_745 : Cond.code yX0_isFull prog_2_method_2_code 1 (some FieldType.boolean) ∈ lw_gd := mm_gd (in_t3 (List.mem_of_getElem? (i := 201) rfl)) rfl
theorem wd_746 : Cond.methodLink "PieceSurfaces" 222 yX0_enter ∈ lw_gd := mm_gd (in_t3 (List.mem_of_getElem? (i := 202) rfl)) rfl
theorem wd_747 : Cond.instanceMethod yX0_enter ∈ lw_gd := mm_gd (in_t3 (List.mem_of_getElem? (i := 203) rfl)) rfl
theorem wd_748 : Cond.selects "PieceSurfaces$Book" yX0_enter yX0_enter ∈ lw_gd := mm_gd (in_t3 (List.mem_of_getElem? (i := 204) rfl)) rfl
theorem wd_749 : Cond.code yX0_enter prog_2_method_3_code 3 none ∈ lw_gd := mm_gd (in_t3 (List.mem_of_getElem? (i := 205) rfl)) rfl
theorem wd_750 : Cond.methodLink "PieceSurfacesLaw" 95 yX11_tear ∈ lw_gd := mm_gd (in_t3 (List.mem_of_getElem? (i := 206) rfl)) rfl
theorem wd_751 : Cond.instanceMethod yX11_tear ∈ lw_gd := mm_gd (in_t3 (List.mem_of_getElem? (i := 207) rfl)) rfl
theorem wd_752 : Cond.selects "PieceSurfaces" yX11_tear yX11_tear ∈ lw_gd := mm_gd (in_t3 (List.mem_of_getElem? (i := 208) rfl)) rfl
theorem wd_753 : Cond.code yX11_tear prog_1_method_21_code 2 (some FieldType.int) ∈ lw_gd := mm_gd (in_t3 (List.mem_of_getElem? (i := 209) rfl)) rfl
theorem wd_754 : Cond.methodLink "PieceSurfacesLaw" 99 yX11_seed ∈ lw_gd := mm_gd (in_t3 (List.mem_of_getElem? (i := 210) rfl)) rfl
theorem wd_755 : Cond.instanceMethod yX11_seed ∈ lw_gd := mm_gd (in_t3 (List.mem_of_getElem? (i := 211) rfl)) rfl
theorem wd_756 : Cond.selects "PieceSurfaces" yX11_seed yX11_seed ∈ lw_gd := mm_gd (in_t3 (List.mem_of_getElem? (i := 212) rfl)) rfl
theorem wd_757 : Cond.code yX11_seed prog_1_method_22_code 3 (some FieldType.int) ∈ lw_gd := mm_gd (in_t3 (List.mem_of_getElem? (i := 213) rfl)) rfl
theorem wd_758 : Cond.methodLink "PieceSurfacesLaw" 103 yX11_keep ∈ lw_gd := mm_gd (in_t3 (List.mem_of_getElem? (i := 214) rfl)) rfl
theorem wd_759 : Cond.instanceMethod yX11_keep ∈ lw_gd := mm_gd (in_t3 (List.mem_of_getElem? (i := 215) rfl)) rfl
theorem wd_760 : Cond.selects "PieceSurfaces" yX11_keep yX11_keep ∈ lw_gd := mm_gd (in_t3 (List.mem_of_getElem? (i := 216) rfl)) rfl
theorem wd_761 : Cond.code yX11_keep prog_1_method_23_code 2 (some FieldType.int) ∈ lw_gd := mm_gd (in_t3 (List.mem_of_getElem? (i := 217) rfl)) rfl
theorem wd_762 : Cond.methodLink "PieceSurfaces" 229 yX11_hasImage ∈ lw_gd := mm_gd (in_t3 (List.mem_of_getElem? (i := 218) rfl)) rfl
theorem wd_764 : Cond.instanceMethod yX11_hasImage ∈ lw_gd := mm_gd (in_t3 (List.mem_of_getElem? (i := 220) rfl)) rfl
theorem wd_765 : Cond.code yX11_hasImage prog_1_method_29_code 2 (some FieldType.boolean) ∈ lw_gd := mm_gd (in_t3 (List.mem_of_getElem? (i := 221) rfl)) rfl
theorem wd_766 : Cond.methodLink "PieceSurfaces" 232 yX3_save ∈ lw_gd := mm_gd (in_t3 (List.mem_of_getElem? (i := 222) rfl)) rfl
theorem wd_767 : Cond.instanceMethod yX3_save ∈ lw_gd := mm_gd (in_t3 (List.mem_of_getElem? (i := 223) rfl)) rfl
theorem wd_768 : Cond.selects "PieceSurfaces$Image" yX3_save yX3_save ∈ lw_gd := mm_gd (in_t3 (List.mem_of_getElem? (i := 224) rfl)) rfl
theorem wd_769 : Cond.code yX3_save prog_5_method_2_code 3 none ∈ lw_gd := mm_gd (in_t3 (List.mem_of_getElem? (i := 225) rfl)) rfl
theorem wd_770 : Cond.methodLink "PieceSurfaces$Image" 16 yX10_copyFrom ∈ lw_gd := mm_gd (in_t3 (List.mem_of_getElem? (i := 226) rfl)) rfl
theorem wd_771 : Cond.methodLink "PieceSurfacesLaw" 107 yX11_goBack ∈ lw_gd := mm_gd (in_t3 (List.mem_of_getElem? (i := 227) rfl)) rfl
theorem wd_772 : Cond.instanceMethod yX11_goBack ∈ lw_gd := mm_gd (in_t3 (List.mem_of_getElem? (i := 228) rfl)) rfl
theorem wd_773 : Cond.selects "PieceSurfaces" yX11_goBack yX11_goBack ∈ lw_gd := mm_gd (in_t3 (List.mem_of_getElem? (i := 229) rfl)) rfl
theorem wd_774 : Cond.code yX11_goBack prog_1_method_24_code 2 (some FieldType.int) ∈ lw_gd := mm_gd (in_t3 (List.mem_of_getElem? (i := 230) rfl)) rfl
theorem wd_775 : Cond.methodLink "PieceSurfaces" 240 yX3_load ∈ lw_gd := mm_gd (in_t3 (List.mem_of_getElem? (i := 231) rfl)) rfl
theorem wd_776 : Cond.instanceMethod yX3_load ∈ lw_gd := mm_gd (in_t3 (List.mem_of_getElem? (i := 232) rfl)) rfl
theorem wd_777 : Cond.selects "PieceSurfaces$Image" yX3_load yX3_load ∈ lw_gd := mm_gd (in_t3 (List.mem_of_getElem? (i := 233) rfl)) rfl
theorem wd_778 : Cond.code yX3_load prog_5_method_3_code 3 none ∈ lw_gd := mm_gd (in_t3 (List.mem_of_getElem? (i := 234) rfl)) rfl
theorem wd_779 : Cond.classLink "PieceSurfacesLaw" 10 "PieceSurfacesModel" ∈ lw_gd := mm_gd (in_t3 (List.mem_of_getElem? (i := 235) rfl)) rfl
theorem wd_780 : Cond.instantiable "PieceSurfacesModel" 13 ∈ lw_gd := mm_gd (in_t3 (List.mem_of_getElem? (i := 236) rfl)) rfl
theorem wd_781 : Cond.methodLink "PieceSurfacesLaw" 12 yX12_init ∈ lw_gd := mm_gd (in_t3 (List.mem_of_getElem? (i := 237) rfl)) rfl
theorem wd_782 : Cond.instanceMethod yX12_init ∈ lw_gd := mm_gd (in_t3 (List.mem_of_getElem? (i := 238) rfl)) rfl
theorem wd_783 : Cond.code yX12_init prog_14_method_1_code 1 none ∈ lw_gd := mm_gd (in_t3 (List.mem_of_getElem? (i := 239) rfl)) rfl
theorem wd_784 : Cond.methodLink "PieceSurfacesModel" 1 ⟨"java/lang/Object", "<init>", "()V"⟩ ∈ lw_gd := mm_gd (in_t4 (List.mem_of_getElem? (i := 0) rfl)) rfl
theorem wd_785 : Cond.methodLink "PieceSurfacesModel" 37 yX12_unglueAll ∈ lw_gd := mm_gd (in_t4 (List.mem_of_getElem? (i := 1) rfl)) rfl
theorem wd_787 : Cond.instanceMethod yX12_unglueAll ∈ lw_gd := mm_gd (in_t4 (List.mem_of_getElem? (i := 3) rfl)) rfl
theorem wd_788 : Cond.code yX12_unglueAll prog_14_method_4_code 2 none ∈ lw_gd := mm_gd (in_t4 (List.mem_of_getElem? (i := 4) rfl)) rfl
theorem wd_789 : Cond.fieldLink "PieceSurfacesModel" 7 "PieceSurfacesModel" "w" "[I" ∈ lw_gd := mm_gd (in_t4 (List.mem_of_getElem? (i := 5) rfl)) rfl
theorem wd_790 : Cond.fieldLink "PieceSurfacesModel" 187 "PieceSurfacesModel" "known" "I" ∈ lw_gd := mm_gd (in_t4 (List.mem_of_getElem? (i := 6) rfl)) rfl
theorem wd_791 : Cond.fieldLink "PieceSurfacesModel" 246 "PieceSurfacesModel" "kept" "I" ∈ lw_gd := mm_gd (in_t4 (List.mem_of_getElem? (i := 7) rfl)) rfl
theorem wd_792 : Cond.fieldLink "PieceSurfacesModel" 230 "PieceSurfacesModel" "seed" "I" ∈ lw_gd := mm_gd (in_t4 (List.mem_of_getElem? (i := 8) rfl)) rfl
theorem wd_793 : Cond.fieldLink "PieceSurfacesModel" 13 "PieceSurfacesModel" "keptSeed" "[I" ∈ lw_gd := mm_gd (in_t4 (List.mem_of_getElem? (i := 9) rfl)) rfl
theorem wd_794 : Cond.fieldLink "PieceSurfacesModel" 16 "PieceSurfacesModel" "bookOf" "[I" ∈ lw_gd := mm_gd (in_t4 (List.mem_of_getElem? (i := 10) rfl)) rfl
theorem wd_795 : Cond.fieldLink "PieceSurfacesModel" 19 "PieceSurfacesModel" "bookIs" "[I" ∈ lw_gd := mm_gd (in_t4 (List.mem_of_getElem? (i := 11) rfl)) rfl
theorem wd_796 : Cond.fieldLink "PieceSurfacesModel" 165 "PieceSurfacesModel" "booked" "I" ∈ lw_gd := mm_gd (in_t4 (List.mem_of_getElem? (i := 12) rfl)) rfl
theorem wd_797 : Cond.fieldLink "PieceSurfacesModel" 22 "PieceSurfacesModel" "point" "[I" ∈ lw_gd := mm_gd (in_t4 (List.mem_of_getElem? (i := 13) rfl)) rfl
theorem wd_798 : Cond.fieldLink "PieceSurfacesModel" 25 "PieceSurfacesModel" "line" "[I" ∈ lw_gd := mm_gd (in_t4 (List.mem_of_getElem? (i := 14) rfl)) rfl
theorem wd_799 : Cond.fieldLink "PieceSurfacesModel" 28 "PieceSurfacesModel" "arrow" "[I" ∈ lw_gd := mm_gd (in_t4 (List.mem_of_getElem? (i := 15) rfl)) rfl
theorem wd_800 : Cond.fieldLink "PieceSurfacesModel" 31 "PieceSurfacesModel" "heap" "[I" ∈ lw_gd := mm_gd (in_t4 (List.mem_of_getElem? (i := 16) rfl)) rfl
theorem wd_801 : Cond.fieldLink "PieceSurfacesModel" 34 "PieceSurfacesModel" "face" "[I" ∈ lw_gd := mm_gd (in_t4 (List.mem_of_getElem? (i := 17) rfl)) rfl
theorem wd_829 : Cond.methodLink "PieceSurfacesLaw" 17 yX12_told ∈ lw_gd := mm_gd (in_t4 (List.mem_of_getElem? (i := 45) rfl)) rfl
theorem wd_830 : Cond.instanceMethod yX12_told ∈ lw_gd := mm_gd (in_t4 (List.mem_of_getElem? (i := 46) rfl)) rfl
theorem wd_831 : Cond.selects "PieceSurfacesModel" yX12_told yX12_told ∈ lw_gd := mm_gd (in_t4 (List.mem_of_getElem? (i := 47) rfl)) rfl
theorem wd_832 : Cond.code yX12_told prog_14_method_53_code 2 (some FieldType.int) ∈ lw_gd := mm_gd (in_t4 (List.mem_of_getElem? (i := 48) rfl)) rfl
theorem wd_833 : Cond.methodLink "PieceSurfacesModel" 156 yX12_freeMany ∈ lw_gd := mm_gd (in_t4 (List.mem_of_getElem? (i := 49) rfl)) rfl
theorem wd_835 : Cond.instanceMethod yX12_freeMany ∈ lw_gd := mm_gd (in_t4 (List.mem_of_getElem? (i := 51) rfl)) rfl
theorem wd_836 : Cond.code yX12_freeMany prog_14_method_14_code 3 (some FieldType.int) ∈ lw_gd := mm_gd (in_t4 (List.mem_of_getElem? (i := 52) rfl)) rfl
theorem wd_837 : Cond.methodLink "PieceSurfacesModel" 48 yX12_walls ∈ lw_gd := mm_gd (in_t4 (List.mem_of_getElem? (i := 53) rfl)) rfl
theorem wd_839 : Cond.instanceMethod yX12_walls ∈ lw_gd := mm_gd (in_t4 (List.mem_of_getElem? (i := 55) rfl)) rfl
theorem wd_840 : Cond.code yX12_walls prog_14_method_13_code 1 (some FieldType.int) ∈ lw_gd := mm_gd (in_t4 (List.mem_of_getElem? (i := 56) rfl)) rfl
theorem wd_841 : Cond.methodLink "PieceSurfacesModel" 52 yX12_isFree ∈ lw_gd := mm_gd (in_t4 (List.mem_of_getElem? (i := 57) rfl)) rfl
theorem wd_843 : Cond.instanceMethod yX12_isFree ∈ lw_gd := mm_gd (in_t4 (List.mem_of_getElem? (i := 59) rfl)) rfl
theorem wd_844 : Cond.code yX12_isFree prog_14_method_11_code 2 (some FieldType.boolean) ∈ lw_gd := mm_gd (in_t4 (List.mem_of_getElem? (i := 60) rfl)) rfl
theorem wd_845 : Cond.methodLink "PieceSurfacesModel" 159 yX12_points ∈ lw_gd := mm_gd (in_t4 (List.mem_of_getElem? (i := 61) rfl)) rfl
theorem wd_847 : Cond.instanceMethod yX12_points ∈ lw_gd := mm_gd (in_t4 (List.mem_of_getElem? (i := 63) rfl)) rfl
theorem wd_848 : Cond.code yX12_points prog_14_method_47_code 1 (some FieldType.int) ∈ lw_gd := mm_gd (in_t4 (List.mem_of_getElem? (i := 64) rfl)) rfl
theorem wd_849 : Cond.methodLink "PieceSurfacesModel" 96 yX12_layRoom ∈ lw_gd := mm_gd (in_t4 (List.mem_of_getElem? (i := 65) rfl)) rfl
theorem wd_851 : Cond.instanceMethod yX12_layRoom ∈ lw_gd := mm_gd (in_t4 (List.mem_of_getElem? (i := 67) rfl)) rfl
theorem wd_852 : Cond.code yX12_layRoom prog_14_method_20_code 2 none ∈ lw_gd := mm_gd (in_t4 (List.mem_of_getElem? (i := 68) rfl)) rfl
theorem wd_853 : Cond.methodLink "PieceSurfacesModel" 70 yX12_glueCorners ∈ lw_gd := mm_gd (in_t4 (List.mem_of_getElem? (i := 69) rfl)) rfl
theorem wd_855 : Cond.instanceMethod yX12_glueCorners ∈ lw_gd := mm_gd (in_t4 (List.mem_of_getElem? (i := 71) rfl)) rfl
theorem wd_856 : Cond.code yX12_glueCorners prog_14_method_19_code 11 none ∈ lw_gd := mm_gd (in_t4 (List.mem_of_getElem? (i := 72) rfl)) rfl
theorem wd_857 : Cond.methodLink "PieceSurfacesModel" 60 yX12_goesTo ∈ lw_gd := mm_gd (in_t4 (List.mem_of_getElem? (i := 73) rfl)) rfl
theorem wd_859 : Cond.instanceMethod yX12_goesTo ∈ lw_gd := mm_gd (in_t4 (List.mem_of_getElem? (i := 75) rfl)) rfl
theorem wd_860 : Cond.code yX12_goesTo prog_14_method_12_code 7 (some FieldType.int) ∈ lw_gd := mm_gd (in_t4 (List.mem_of_getElem? (i := 76) rfl)) rfl
theorem wd_861 : Cond.methodLink "PieceSurfacesModel" 44 yX12_place ∈ lw_gd := mm_gd (in_t4 (List.mem_of_getElem? (i := 77) rfl)) rfl
theorem wd_862 : Cond.static yX12_place ∈ lw_gd := mm_gd (in_t4 (List.mem_of_getElem? (i := 78) rfl)) rfl
theorem wd_863 : Cond.code yX12_place prog_14_method_9_code 3 (some FieldType.int) ∈ lw_gd := mm_gd (in_t4 (List.mem_of_getElem? (i := 79) rfl)) rfl
theorem wd_864 : Cond.methodLink "PieceSurfacesModel" 63 yX12_alike ∈ lw_gd := mm_gd (in_t4 (List.mem_of_getElem? (i := 80) rfl)) rfl
theorem wd_865 : Cond.static yX12_alike ∈ lw_gd := mm_gd (in_t4 (List.mem_of_getElem? (i := 81) rfl)) rfl
theorem wd_866 : Cond.code yX12_alike prog_14_method_18_code 7 none ∈ lw_gd := mm_gd (in_t4 (List.mem_of_getElem? (i := 82) rfl)) rfl
theorem wd_867 : Cond.methodLink "PieceSurfacesModel" 67 yX12_edgeOf ∈ lw_gd := mm_gd (in_t4 (List.mem_of_getElem? (i := 83) rfl)) rfl
theorem wd_868 : Cond.static yX12_edgeOf ∈ lw_gd := mm_gd (in_t4 (List.mem_of_getElem? (i := 84) rfl)) rfl
theorem wd_869 : Cond.code yX12_edgeOf prog_14_method_15_code 4 (some FieldType.int) ∈ lw_gd := mm_gd (in_t4 (List.mem_of_getElem? (i := 85) rfl)) rfl
theorem wd_870 : Cond.methodLink "PieceSurfacesModel" 149 yX12_firsts ∈ lw_gd := mm_gd (in_t4 (List.mem_of_getElem? (i := 86) rfl)) rfl
theorem wd_871 : Cond.static yX12_firsts ∈ lw_gd := mm_gd (in_t4 (List.mem_of_getElem? (i := 87) rfl)) rfl
theorem wd_872 : Cond.code yX12_firsts prog_14_method_21_code 4 (some FieldType.int) ∈ lw_gd := mm_gd (in_t4 (List.mem_of_getElem? (i := 88) rfl)) rfl
theorem wd_873 : Cond.methodLink "PieceSurfacesModel" 162 yX12_lines ∈ lw_gd := mm_gd (in_t4 (List.mem_of_getElem? (i := 89) rfl)) rfl
theorem wd_875 : Cond.instanceMethod yX12_lines ∈ lw_gd := mm_gd (in_t4 (List.mem_of_getElem? (i := 91) rfl)) rfl
theorem wd_876 : Cond.code yX12_lines prog_14_method_48_code 1 (some FieldType.int) ∈ lw_gd := mm_gd (in_t4 (List.mem_of_getElem? (i := 92) rfl)) rfl
theorem wd_877 : Cond.methodLink "PieceSurfacesModel" 175 yX12_bents ∈ lw_gd := mm_gd (in_t4 (List.mem_of_getElem? (i := 93) rfl)) rfl
theorem wd_879 : Cond.instanceMethod yX12_bents ∈ lw_gd := mm_gd (in_t4 (List.mem_of_getElem? (i := 95) rfl)) rfl
theorem wd_880 : Cond.code yX12_bents prog_14_method_49_code 1 (some FieldType.int) ∈ lw_gd := mm_gd (in_t4 (List.mem_of_getElem? (i := 96) rfl)) rfl
theorem wd_881 : Cond.methodLink "PieceSurfacesModel" 153 yX12_bentMany ∈ lw_gd := mm_gd (in_t4 (List.mem_of_getElem? (i := 97) rfl)) rfl
theorem wd_883 : Cond.instanceMethod yX12_bentMany ∈ lw_gd := mm_gd (in_t4 (List.mem_of_getElem? (i := 99) rfl)) rfl
theorem wd_884 : Cond.code yX12_bentMany prog_14_method_24_code 3 (some FieldType.int) ∈ lw_gd := mm_gd (in_t4 (List.mem_of_getElem? (i := 100) rfl)) rfl
theorem wd_885 : Cond.methodLink "PieceSurfacesModel" 74 yX12_isBent ∈ lw_gd := mm_gd (in_t4 (List.mem_of_getElem? (i := 101) rfl)) rfl
theorem wd_887 : Cond.instanceMethod yX12_isBent ∈ lw_gd := mm_gd (in_t4 (List.mem_of_getElem? (i := 103) rfl)) rfl
theorem wd_888 : Cond.code yX12_isBent prog_14_method_22_code 4 (some FieldType.boolean) ∈ lw_gd := mm_gd (in_t4 (List.mem_of_getElem? (i := 104) rfl)) rfl
theorem wd_889 : Cond.methodLink "PieceSurfacesModel" 178 yX12_goodMany ∈ lw_gd := mm_gd (in_t4 (List.mem_of_getElem? (i := 105) rfl)) rfl
theorem wd_891 : Cond.instanceMethod yX12_goodMany ∈ lw_gd := mm_gd (in_t4 (List.mem_of_getElem? (i := 107) rfl)) rfl
theorem wd_892 : Cond.code yX12_goodMany prog_14_method_46_code 3 (some FieldType.int) ∈ lw_gd := mm_gd (in_t4 (List.mem_of_getElem? (i := 108) rfl)) rfl
theorem wd_893 : Cond.methodLink "PieceSurfacesModel" 146 yX12_isGood ∈ lw_gd := mm_gd (in_t4 (List.mem_of_getElem? (i := 109) rfl)) rfl
theorem wd_895 : Cond.instanceMethod yX12_isGood ∈ lw_gd := mm_gd (in_t4 (List.mem_of_getElem? (i := 111) rfl)) rfl
theorem wd_896 : Cond.code yX12_isGood prog_14_method_45_code 2 (some FieldType.boolean) ∈ lw_gd := mm_gd (in_t4 (List.mem_of_getElem? (i := 112) rfl)) rfl
theorem wd_897 : Cond.methodLink "PieceSurfacesModel" 142 yX12_layAbout ∈ lw_gd := mm_gd (in_t4 (List.mem_of_getElem? (i := 113) rfl)) rfl
theorem wd_899 : Cond.instanceMethod yX12_layAbout ∈ lw_gd := mm_gd (in_t4 (List.mem_of_getElem? (i := 115) rfl)) rfl
theorem wd_900 : Cond.code yX12_layAbout prog_14_method_44_code 4 none ∈ lw_gd := mm_gd (in_t4 (List.mem_of_getElem? (i := 116) rfl)) rfl
theorem wd_901 : Cond.methodLink "PieceSurfacesModel" 132 yX12_parts ∈ lw_gd := mm_gd (in_t4 (List.mem_of_getElem? (i := 117) rfl)) rfl
theorem wd_903 : Cond.instanceMethod yX12_parts ∈ lw_gd := mm_gd (in_t4 (List.mem_of_getElem? (i := 119) rfl)) rfl
theorem wd_904 : Cond.code yX12_parts prog_14_method_42_code 5 (some FieldType.int) ∈ lw_gd := mm_gd (in_t4 (List.mem_of_getElem? (i := 120) rfl)) rfl
theorem wd_905 : Cond.methodLink "PieceSurfacesModel" 123 yX12_join ∈ lw_gd := mm_gd (in_t4 (List.mem_of_getElem? (i := 121) rfl)) rfl
theorem wd_907 : Cond.instanceMethod yX12_join ∈ lw_gd := mm_gd (in_t4 (List.mem_of_getElem? (i := 123) rfl)) rfl
theorem wd_908 : Cond.code yX12_join prog_14_method_39_code 4 none ∈ lw_gd := mm_gd (in_t4 (List.mem_of_getElem? (i := 124) rfl)) rfl
theorem wd_909 : Cond.methodLink "PieceSurfacesModel" 116 yX12_joinArcs ∈ lw_gd := mm_gd (in_t4 (List.mem_of_getElem? (i := 125) rfl)) rfl
theorem wd_911 : Cond.instanceMethod yX12_joinArcs ∈ lw_gd := mm_gd (in_t4 (List.mem_of_getElem? (i := 127) rfl)) rfl
theorem wd_912 : Cond.code yX12_joinArcs prog_14_method_38_code 12 none ∈ lw_gd := mm_gd (in_t4 (List.mem_of_getElem? (i := 128) rfl)) rfl
theorem wd_913 : Cond.methodLink "PieceSurfacesModel" 83 yX12_arcsOf ∈ lw_gd := mm_gd (in_t4 (List.mem_of_getElem? (i := 129) rfl)) rfl
theorem wd_915 : Cond.instanceMethod yX12_arcsOf ∈ lw_gd := mm_gd (in_t4 (List.mem_of_getElem? (i := 131) rfl)) rfl
theorem wd_916 : Cond.code yX12_arcsOf prog_14_method_26_code 5 (some FieldType.int) ∈ lw_gd := mm_gd (in_t4 (List.mem_of_getElem? (i := 132) rfl)) rfl
theorem wd_917 : Cond.methodLink "PieceSurfacesModel" 77 yX12_four ∈ lw_gd := mm_gd (in_t4 (List.mem_of_getElem? (i := 133) rfl)) rfl
theorem wd_918 : Cond.static yX12_four ∈ lw_gd := mm_gd (in_t4 (List.mem_of_getElem? (i := 134) rfl)) rfl
theorem wd_919 : Cond.code yX12_four prog_14_method_25_code 2 (some FieldType.int) ∈ lw_gd := mm_gd (in_t4 (List.mem_of_getElem? (i := 135) rfl)) rfl
theorem wd_920 : Cond.methodLink "PieceSurfacesModel" 109 yX12_pieceAt ∈ lw_gd := mm_gd (in_t4 (List.mem_of_getElem? (i := 136) rfl)) rfl
theorem wd_922 : Cond.instanceMethod yX12_pieceAt ∈ lw_gd := mm_gd (in_t4 (List.mem_of_getElem? (i := 138) rfl)) rfl
theorem wd_923 : Cond.code yX12_pieceAt prog_14_method_36_code 10 (some FieldType.int) ∈ lw_gd := mm_gd (in_t4 (List.mem_of_getElem? (i := 139) rfl)) rfl
theorem wd_924 : Cond.methodLink "PieceSurfacesModel" 105 yX12_isWithFirst ∈ lw_gd := mm_gd (in_t4 (List.mem_of_getElem? (i := 140) rfl)) rfl
theorem wd_925 : Cond.static yX12_isWithFirst ∈ lw_gd := mm_gd (in_t4 (List.mem_of_getElem? (i := 141) rfl)) rfl
theorem wd_926 : Cond.code yX12_isWithFirst prog_14_method_35_code 2 (some FieldType.boolean) ∈ lw_gd := mm_gd (in_t4 (List.mem_of_getElem? (i := 142) rfl)) rfl
theorem wd_927 : Cond.methodLink "PieceSurfacesModel" 113 yX12_sideTo ∈ lw_gd := mm_gd (in_t4 (List.mem_of_getElem? (i := 143) rfl)) rfl
theorem wd_928 : Cond.static yX12_sideTo ∈ lw_gd := mm_gd (in_t4 (List.mem_of_getElem? (i := 144) rfl)) rfl
theorem wd_929 : Cond.code yX12_sideTo prog_14_method_37_code 3 (some FieldType.int) ∈ lw_gd := mm_gd (in_t4 (List.mem_of_getElem? (i := 145) rfl)) rfl
theorem wd_930 : Cond.methodLink "PieceSurfacesModel" 120 yX12_isThere ∈ lw_gd := mm_gd (in_t4 (List.mem_of_getElem? (i := 146) rfl)) rfl
theorem wd_932 : Cond.instanceMethod yX12_isThere ∈ lw_gd := mm_gd (in_t4 (List.mem_of_getElem? (i := 148) rfl)) rfl
theorem wd_933 : Cond.code yX12_isThere prog_14_method_40_code 3 (some FieldType.boolean) ∈ lw_gd := mm_gd (in_t4 (List.mem_of_getElem? (i := 149) rfl)) rfl
theorem wd_934 : Cond.methodLink "PieceSurfacesModel" 126 yX12_isTwoSided ∈ lw_gd := mm_gd (in_t4 (List.mem_of_getElem? (i := 150) rfl)) rfl
theorem wd_936 : Cond.instanceMethod yX12_isTwoSided ∈ lw_gd := mm_gd (in_t4 (List.mem_of_getElem? (i := 152) rfl)) rfl
theorem wd_937 : Cond.code yX12_isTwoSided prog_14_method_41_code 5 (some FieldType.boolean) ∈ lw_gd := mm_gd (in_t4 (List.mem_of_getElem? (i := 153) rfl)) rfl
theorem wd_938 : Cond.methodLink "PieceSurfacesModel" 139 yX12_euler ∈ lw_gd := mm_gd (in_t4 (List.mem_of_getElem? (i := 154) rfl)) rfl
theorem wd_940 : Cond.instanceMethod yX12_euler ∈ lw_gd := mm_gd (in_t4 (List.mem_of_getElem? (i := 156) rfl)) rfl
theorem wd_941 : Cond.code yX12_euler prog_14_method_34_code 4 (some FieldType.int) ∈ lw_gd := mm_gd (in_t4 (List.mem_of_getElem? (i := 157) rfl)) rfl
theorem wd_942 : Cond.methodLink "PieceSurfacesModel" 99 yX12_allPieces ∈ lw_gd := mm_gd (in_t4 (List.mem_of_getElem? (i := 158) rfl)) rfl
theorem wd_944 : Cond.instanceMethod yX12_allPieces ∈ lw_gd := mm_gd (in_t4 (List.mem_of_getElem? (i := 160) rfl)) rfl
theorem wd_945 : Cond.code yX12_allPieces prog_14_method_31_code 4 (some FieldType.int) ∈ lw_gd := mm_gd (in_t4 (List.mem_of_getElem? (i := 161) rfl)) rfl
theorem wd_946 : Cond.methodLink "PieceSurfacesModel" 102 yX12_weightOf ∈ lw_gd := mm_gd (in_t4 (List.mem_of_getElem? (i := 162) rfl)) rfl
theorem wd_948 : Cond.instanceMethod yX12_weightOf ∈ lw_gd := mm_gd (in_t4 (List.mem_of_getElem? (i := 164) rfl)) rfl
theorem wd_949 : Cond.code yX12_weightOf prog_14_method_27_code 7 (some FieldType.int) ∈ lw_gd := mm_gd (in_t4 (List.mem_of_getElem? (i := 165) rfl)) rfl
theorem wd_950 : Cond.methodLink "PieceSurfacesModel" 56 yX12_lowOf ∈ lw_gd := mm_gd (in_t4 (List.mem_of_getElem? (i := 166) rfl)) rfl
theorem wd_951 : Cond.static yX12_lowOf ∈ lw_gd := mm_gd (in_t4 (List.mem_of_getElem? (i := 167) rfl)) rfl
theorem wd_952 : Cond.code yX12_lowOf prog_14_method_16_code 1 (some FieldType.int) ∈ lw_gd := mm_gd (in_t4 (List.mem_of_getElem? (i := 168) rfl)) rfl
theorem wd_953 : Cond.methodLink "PieceSurfacesModel" 80 yX12_highOf ∈ lw_gd := mm_gd (in_t4 (List.mem_of_getElem? (i := 169) rfl)) rfl
theorem wd_954 : Cond.static yX12_highOf ∈ lw_gd := mm_gd (in_t4 (List.mem_of_getElem? (i := 170) rfl)) rfl
theorem wd_955 : Cond.code yX12_highOf prog_14_method_17_code 1 (some FieldType.int) ∈ lw_gd := mm_gd (in_t4 (List.mem_of_getElem? (i := 171) rfl)) rfl
theorem wd_956 : Cond.methodLink "PieceSurfacesModel" 93 yX12_arcsOfWall ∈ lw_gd := mm_gd (in_t4 (List.mem_of_getElem? (i := 172) rfl)) rfl
theorem wd_958 : Cond.instanceMethod yX12_arcsOfWall ∈ lw_gd := mm_gd (in_t4 (List.mem_of_getElem? (i := 174) rfl)) rfl
theorem wd_959 : Cond.code yX12_arcsOfWall prog_14_method_32_code 5 (some FieldType.int) ∈ lw_gd := mm_gd (in_t4 (List.mem_of_getElem? (i := 175) rfl)) rfl
theorem wd_960 : Cond.methodLink "PieceSurfacesModel" 136 yX12_border ∈ lw_gd := mm_gd (in_t4 (List.mem_of_getElem? (i := 176) rfl)) rfl
theorem wd_962 : Cond.instanceMethod yX12_border ∈ lw_gd := mm_gd (in_t4 (List.mem_of_getElem? (i := 178) rfl)) rfl
theorem wd_963 : Cond.code yX12_border prog_14_method_33_code 4 (some FieldType.int) ∈ lw_gd := mm_gd (in_t4 (List.mem_of_getElem? (i := 179) rfl)) rfl
theorem wd_964 : Cond.methodLink "PieceSurfacesModel" 181 yX12_characteristic ∈ lw_gd := mm_gd (in_t4 (List.mem_of_getElem? (i := 180) rfl)) rfl
theorem wd_966 : Cond.instanceMethod yX12_characteristic ∈ lw_gd := mm_gd (in_t4 (List.mem_of_getElem? (i := 182) rfl)) rfl
theorem wd_967 : Cond.code yX12_characteristic prog_14_method_50_code 2 (some FieldType.int) ∈ lw_gd := mm_gd (in_t4 (List.mem_of_getElem? (i := 183) rfl)) rfl
theorem wd_968 : Cond.methodLink "PieceSurfacesModel" 184 yX12_wrongEntry ∈ lw_gd := mm_gd (in_t4 (List.mem_of_getElem? (i := 184) rfl)) rfl
theorem wd_970 : Cond.instanceMethod yX12_wrongEntry ∈ lw_gd := mm_gd (in_t4 (List.mem_of_getElem? (i := 186) rfl)) rfl
theorem wd_971 : Cond.code yX12_wrongEntry prog_14_method_52_code 3 (some FieldType.int) ∈ lw_gd := mm_gd (in_t4 (List.mem_of_getElem? (i := 187) rfl)) rfl
theorem wd_972 : Cond.methodLink "PieceSurfacesModel" 169 yX12_surfaceAt ∈ lw_gd := mm_gd (in_t4 (List.mem_of_getElem? (i := 188) rfl)) rfl
theorem wd_973 : Cond.static yX12_surfaceAt ∈ lw_gd := mm_gd (in_t4 (List.mem_of_getElem? (i := 189) rfl)) rfl
theorem wd_974 : Cond.code yX12_surfaceAt prog_14_method_8_code 1 (some FieldType.int) ∈ lw_gd := mm_gd (in_t4 (List.mem_of_getElem? (i := 190) rfl)) rfl
theorem wd_975 : Cond.methodLink "PieceSurfacesModel" 172 yX12_isSurface ∈ lw_gd := mm_gd (in_t4 (List.mem_of_getElem? (i := 191) rfl)) rfl
theorem wd_977 : Cond.instanceMethod yX12_isSurface ∈ lw_gd := mm_gd (in_t4 (List.mem_of_getElem? (i := 193) rfl)) rfl
theorem wd_978 : Cond.code yX12_isSurface prog_14_method_7_code 2 (some FieldType.boolean) ∈ lw_gd := mm_gd (in_t4 (List.mem_of_getElem? (i := 194) rfl)) rfl
theorem wd_979 : Cond.methodLink "PieceSurfacesModel" 40 yX12_in ∈ lw_gd := mm_gd (in_t4 (List.mem_of_getElem? (i := 195) rfl)) rfl
theorem wd_980 : Cond.static yX12_in ∈ lw_gd := mm_gd (in_t4 (List.mem_of_getElem? (i := 196) rfl)) rfl
theorem wd_981 : Cond.code yX12_in prog_14_method_2_code 3 (some FieldType.boolean) ∈ lw_gd := mm_gd (in_t4 (List.mem_of_getElem? (i := 197) rfl)) rfl
theorem wd_982 : Cond.methodLink "PieceSurfacesModel" 129 yX12_isWell ∈ lw_gd := mm_gd (in_t4 (List.mem_of_getElem? (i := 198) rfl)) rfl
theorem wd_984 : Cond.instanceMethod yX12_isWell ∈ lw_gd := mm_gd (in_t4 (List.mem_of_getElem? (i := 200) rfl)) rfl
theorem wd_985 : Cond.code yX12_isWell prog_14_method_30_code 2 (some FieldType.boolean) ∈ lw_gd := mm_gd (in_t4 (List.mem_of_getElem? (i := 201) rfl)) rfl
theorem wd_986 : Cond.methodLink "PieceSurfacesModel" 87 yX12_meets ∈ lw_gd := mm_gd (in_t4 (List.mem_of_getElem? (i := 202) rfl)) rfl
theorem wd_988 : Cond.instanceMethod yX12_meets ∈ lw_gd := mm_gd (in_t4 (List.mem_of_getElem? (i := 204) rfl)) rfl
theorem wd_989 : Cond.code yX12_meets prog_14_method_28_code 5 (some FieldType.boolean) ∈ lw_gd := mm_gd (in_t4 (List.mem_of_getElem? (i := 205) rfl)) rfl
theorem wd_990 : Cond.methodLink "PieceSurfacesModel" 90 yX12_crosses ∈ lw_gd := mm_gd (in_t4 (List.mem_of_getElem? (i := 206) rfl)) rfl
theorem wd_992 : Cond.instanceMethod yX12_crosses ∈ lw_gd := mm_gd (in_t4 (List.mem_of_getElem? (i := 208) rfl)) rfl
theorem wd_993 : Cond.code yX12_crosses prog_14_method_29_code 6 (some FieldType.boolean) ∈ lw_gd := mm_gd (in_t4 (List.mem_of_getElem? (i := 209) rfl)) rfl
theorem wd_994 : Cond.constant "PieceSurfacesModel" 190 (Int32.ofInt (-1000000002)) ∈ lw_gd := mm_gd (in_t4 (List.mem_of_getElem? (i := 210) rfl)) rfl
theorem wd_995 : Cond.methodLink "PieceSurfacesLaw" 22 yX12_wall ∈ lw_gd := mm_gd (in_t4 (List.mem_of_getElem? (i := 211) rfl)) rfl
theorem wd_996 : Cond.instanceMethod yX12_wall ∈ lw_gd := mm_gd (in_t4 (List.mem_of_getElem? (i := 212) rfl)) rfl
theorem wd_997 : Cond.selects "PieceSurfacesModel" yX12_wall yX12_wall ∈ lw_gd := mm_gd (in_t4 (List.mem_of_getElem? (i := 213) rfl)) rfl
theorem wd_998 : Cond.code yX12_wall prog_14_method_54_code 5 (some FieldType.int) ∈ lw_gd := mm_gd (in_t4 (List.mem_of_getElem? (i := 214) rfl)) rfl
theorem wd_999 : Cond.methodLink "PieceSurfacesModel" 191 yX12_isBody ∈ lw_gd := mm_gd (in_t4 (List.mem_of_getElem? (i := 215) rfl)) rfl
theorem wd_1001 : Cond.instanceMethod yX12_isBody ∈ lw_gd := mm_gd (in_t4 (List.mem_of_getElem? (i := 217) rfl)) rfl
theorem wd_1002 : Cond.code yX12_isBody prog_14_method_5_code 2 (some FieldType.boolean) ∈ lw_gd := mm_gd (in_t4 (List.mem_of_getElem? (i := 218) rfl)) rfl
theorem wd_1003 : Cond.methodLink "PieceSurfacesModel" 194 yX12_isSide ∈ lw_gd := mm_gd (in_t4 (List.mem_of_getElem? (i := 219) rfl)) rfl
theorem wd_1004 : Cond.static yX12_isSide ∈ lw_gd := mm_gd (in_t4 (List.mem_of_getElem? (i := 220) rfl)) rfl
theorem wd_1005 : Cond.code yX12_isSide prog_14_method_6_code 1 (some FieldType.boolean) ∈ lw_gd := mm_gd (in_t4 (List.mem_of_getElem? (i := 221) rfl)) rfl
theorem wd_1006 : Cond.constant "PieceSurfacesModel" 197 (Int32.ofInt (-1000000001)) ∈ lw_gd := mm_gd (in_t4 (List.mem_of_getElem? (i := 222) rfl)) rfl
theorem wd_1007 : Cond.methodLink "PieceSurfacesLaw" 26 yX12_corner ∈ lw_gd := mm_gd (in_t4 (List.mem_of_getElem? (i := 223) rfl)) rfl
theorem wd_1008 : Cond.instanceMethod yX12_corner ∈ lw_gd := mm_gd (in_t4 (List.mem_of_getElem? (i := 224) rfl)) rfl
theorem wd_1009 : Cond.selects "PieceSurfacesModel" yX12_corner yX12_corner ∈ lw_gd := mm_gd (in_t4 (List.mem_of_getElem? (i := 225) rfl)) rfl
theorem wd_1010 : Cond.code yX12_corner prog_14_method_55_code 5 (some FieldType.int) ∈ lw_gd := mm_gd (in_t4 (List.mem_of_getElem? (i := 226) rfl)) rfl
theorem wd_1011 : Cond.methodLink "PieceSurfacesLaw" 30 yX12_edge ∈ lw_gd := mm_gd (in_t4 (List.mem_of_getElem? (i := 227) rfl)) rfl
theorem wd_1012 : Cond.instanceMethod yX12_edge ∈ lw_gd := mm_gd (in_t4 (List.mem_of_getElem? (i := 228) rfl)) rfl
theorem wd_1013 : Cond.selects "PieceSurfacesModel" yX12_edge yX12_edge ∈ lw_gd := mm_gd (in_t4 (List.mem_of_getElem? (i := 229) rfl)) rfl
theorem wd_1014 : Cond.code yX12_edge prog_14_method_56_code 5 (some FieldType.int) ∈ lw_gd := mm_gd (in_t4 (List.mem_of_getElem? (i := 230) rfl)) rfl
theorem wd_1015 : Cond.methodLink "PieceSurfacesModel" 198 yX12_aroundOf ∈ lw_gd := mm_gd (in_t4 (List.mem_of_getElem? (i := 231) rfl)) rfl
theorem wd_1017 : Cond.instanceMethod yX12_aroundOf ∈ lw_gd := mm_gd (in_t4 (List.mem_of_getElem? (i := 233) rfl)) rfl
theorem wd_1018 : Cond.code yX12_aroundOf prog_14_method_23_code 4 (some FieldType.int) ∈ lw_gd := mm_gd (in_t4 (List.mem_of_getElem? (i := 234) rfl)) rfl
theorem wd_1019 : Cond.methodLink "PieceSurfacesLaw" 34 yX12_pieces ∈ lw_gd := mm_gd (in_t4 (List.mem_of_getElem? (i := 235) rfl)) rfl
theorem wd_1020 : Cond.instanceMethod yX12_pieces ∈ lw_gd := mm_gd (in_t4 (List.mem_of_getElem? (i := 236) rfl)) rfl
theorem wd_1021 : Cond.selects "PieceSurfacesModel" yX12_pieces yX12_pieces ∈ lw_gd := mm_gd (in_t4 (List.mem_of_getElem? (i := 237) rfl)) rfl
theorem wd_1022 : Cond.code yX12_pieces prog_14_method_57_code 4 (some FieldType.int) ∈ lw_gd := mm_gd (in_t4 (List.mem_of_getElem? (i := 238) rfl)) rfl
theorem wd_1023 : Cond.methodLink "PieceSurfacesLaw" 39 yX12_surface ∈ lw_gd := mm_gd (in_t4 (List.mem_of_getElem? (i := 239) rfl)) rfl
theorem wd_1024 : Cond.instanceMethod yX12_surface ∈ lw_gd := mm_gd (in_t5 (List.mem_of_getElem? (i := 0) rfl)) rfl
theorem wd_1025 : Cond.selects "PieceSurfacesModel" yX12_surface yX12_surface ∈ lw_gd := mm_gd (in_t5 (List.mem_of_getElem? (i := 1) rfl)) rfl
theorem wd_1026 : Cond.code yX12_surface prog_14_method_59_code 4 (some FieldType.int) ∈ lw_gd := mm_gd (in_t5 (List.mem_of_getElem? (i := 2) rfl)) rfl
theorem wd_1027 : Cond.methodLink "PieceSurfacesModel" 201 yX12_ofWell ∈ lw_gd := mm_gd (in_t5 (List.mem_of_getElem? (i := 3) rfl)) rfl
theorem wd_1029 : Cond.instanceMethod yX12_ofWell ∈ lw_gd := mm_gd (in_t5 (List.mem_of_getElem? (i := 5) rfl)) rfl
theorem wd_1030 : Cond.code yX12_ofWell prog_14_method_58_code 3 (some FieldType.int) ∈ lw_gd := mm_gd (in_t5 (List.mem_of_getElem? (i := 6) rfl)) rfl
theorem wd_1031 : Cond.methodLink "PieceSurfacesModel" 204 yX12_name ∈ lw_gd := mm_gd (in_t5 (List.mem_of_getElem? (i := 7) rfl)) rfl
theorem wd_1033 : Cond.instanceMethod yX12_name ∈ lw_gd := mm_gd (in_t5 (List.mem_of_getElem? (i := 9) rfl)) rfl
theorem wd_1034 : Cond.code yX12_name prog_14_method_43_code 2 (some FieldType.int) ∈ lw_gd := mm_gd (in_t5 (List.mem_of_getElem? (i := 10) rfl)) rfl
theorem wd_1035 : Cond.methodLink "PieceSurfacesModel" 207 yX12_split ∈ lw_gd := mm_gd (in_t5 (List.mem_of_getElem? (i := 11) rfl)) rfl
theorem wd_1037 : Cond.instanceMethod yX12_split ∈ lw_gd := mm_gd (in_t5 (List.mem_of_getElem? (i := 13) rfl)) rfl
theorem wd_1038 : Cond.code yX12_split prog_14_method_51_code 6 (some FieldType.int) ∈ lw_gd := mm_gd (in_t5 (List.mem_of_getElem? (i := 14) rfl)) rfl
theorem wd_1039 : Cond.methodLink "PieceSurfacesLaw" 43 yX12_weight ∈ lw_gd := mm_gd (in_t5 (List.mem_of_getElem? (i := 15) rfl)) rfl
theorem wd_1040 : Cond.instanceMethod yX12_weight ∈ lw_gd := mm_gd (in_t5 (List.mem_of_getElem? (i := 16) rfl)) rfl
theorem wd_1041 : Cond.selects "PieceSurfacesModel" yX12_weight yX12_weight ∈ lw_gd := mm_gd (in_t5 (List.mem_of_getElem? (i := 17) rfl)) rfl
theorem wd_1042 : Cond.code yX12_weight prog_14_method_60_code 5 (some FieldType.int) ∈ lw_gd := mm_gd (in_t5 (List.mem_of_getElem? (i := 18) rfl)) rfl
theorem wd_1043 : Cond.methodLink "PieceSurfacesLaw" 48 yX12_arcs ∈ lw_gd := mm_gd (in_t5 (List.mem_of_getElem? (i := 19) rfl)) rfl
theorem wd_1044 : Cond.instanceMethod yX12_arcs ∈ lw_gd := mm_gd (in_t5 (List.mem_of_getElem? (i := 20) rfl)) rfl
theorem wd_1045 : Cond.selects "PieceSurfacesModel" yX12_arcs yX12_arcs ∈ lw_gd := mm_gd (in_t5 (List.mem_of_getElem? (i := 21) rfl)) rfl
theorem wd_1046 : Cond.code yX12_arcs prog_14_method_61_code 6 (some FieldType.int) ∈ lw_gd := mm_gd (in_t5 (List.mem_of_getElem? (i := 22) rfl)) rfl
theorem wd_1047 : Cond.methodLink "PieceSurfacesLaw" 52 yX12_bodies ∈ lw_gd := mm_gd (in_t5 (List.mem_of_getElem? (i := 23) rfl)) rfl
theorem wd_1048 : Cond.instanceMethod yX12_bodies ∈ lw_gd := mm_gd (in_t5 (List.mem_of_getElem? (i := 24) rfl)) rfl
theorem wd_1049 : Cond.selects "PieceSurfacesModel" yX12_bodies yX12_bodies ∈ lw_gd := mm_gd (in_t5 (List.mem_of_getElem? (i := 25) rfl)) rfl
theorem wd_1050 : Cond.code yX12_bodies prog_14_method_63_code 3 (some FieldType.int) ∈ lw_gd := mm_gd (in_t5 (List.mem_of_getElem? (i := 26) rfl)) rfl
theorem wd_1051 : Cond.methodLink "PieceSurfacesModel" 213 yX12_remember ∈ lw_gd := mm_gd (in_t5 (List.mem_of_getElem? (i := 27) rfl)) rfl
theorem wd_1053 : Cond.instanceMethod yX12_remember ∈ lw_gd := mm_gd (in_t5 (List.mem_of_getElem? (i := 29) rfl)) rfl
theorem wd_1054 : Cond.code yX12_remember prog_14_method_62_code 2 none ∈ lw_gd := mm_gd (in_t5 (List.mem_of_getElem? (i := 30) rfl)) rfl
theorem wd_1055 : Cond.methodLink "PieceSurfacesModel" 210 yX12_copyRow ∈ lw_gd := mm_gd (in_t5 (List.mem_of_getElem? (i := 31) rfl)) rfl
theorem wd_1057 : Cond.instanceMethod yX12_copyRow ∈ lw_gd := mm_gd (in_t5 (List.mem_of_getElem? (i := 33) rfl)) rfl
theorem wd_1058 : Cond.code yX12_copyRow prog_14_method_3_code 4 none ∈ lw_gd := mm_gd (in_t5 (List.mem_of_getElem? (i := 34) rfl)) rfl
theorem wd_1059 : Cond.methodLink "PieceSurfacesLaw" 57 yX12_glue ∈ lw_gd := mm_gd (in_t5 (List.mem_of_getElem? (i := 35) rfl)) rfl
theorem wd_1060 : Cond.instanceMethod yX12_glue ∈ lw_gd := mm_gd (in_t5 (List.mem_of_getElem? (i := 36) rfl)) rfl
theorem wd_1061 : Cond.selects "PieceSurfacesModel" yX12_glue yX12_glue ∈ lw_gd := mm_gd (in_t5 (List.mem_of_getElem? (i := 37) rfl)) rfl
theorem wd_1062 : Cond.code yX12_glue prog_14_method_66_code 6 (some FieldType.int) ∈ lw_gd := mm_gd (in_t5 (List.mem_of_getElem? (i := 38) rfl)) rfl
theorem wd_1063 : Cond.methodLink "PieceSurfacesModel" 219 yX12_mayGlue ∈ lw_gd := mm_gd (in_t5 (List.mem_of_getElem? (i := 39) rfl)) rfl
theorem wd_1065 : Cond.instanceMethod yX12_mayGlue ∈ lw_gd := mm_gd (in_t5 (List.mem_of_getElem? (i := 41) rfl)) rfl
theorem wd_1066 : Cond.code yX12_mayGlue prog_14_method_64_code 3 (some FieldType.boolean) ∈ lw_gd := mm_gd (in_t5 (List.mem_of_getElem? (i := 42) rfl)) rfl
theorem wd_1067 : Cond.constant "PieceSurfacesModel" 222 (Int32.ofInt (-1000000003)) ∈ lw_gd := mm_gd (in_t5 (List.mem_of_getElem? (i := 43) rfl)) rfl
theorem wd_1068 : Cond.methodLink "PieceSurfacesModel" 223 yX12_glueTo ∈ lw_gd := mm_gd (in_t5 (List.mem_of_getElem? (i := 44) rfl)) rfl
theorem wd_1070 : Cond.instanceMethod yX12_glueTo ∈ lw_gd := mm_gd (in_t5 (List.mem_of_getElem? (i := 46) rfl)) rfl
theorem wd_1071 : Cond.code yX12_glueTo prog_14_method_65_code 4 none ∈ lw_gd := mm_gd (in_t5 (List.mem_of_getElem? (i := 47) rfl)) rfl
theorem wd_1072 : Cond.methodLink "PieceSurfacesModel" 216 yX12_turnedBack ∈ lw_gd := mm_gd (in_t5 (List.mem_of_getElem? (i := 48) rfl)) rfl
theorem wd_1073 : Cond.static yX12_turnedBack ∈ lw_gd := mm_gd (in_t5 (List.mem_of_getElem? (i := 49) rfl)) rfl
theorem wd_1074 : Cond.code yX12_turnedBack prog_14_method_10_code 1 (some FieldType.int) ∈ lw_gd := mm_gd (in_t5 (List.mem_of_getElem? (i := 50) rfl)) rfl
theorem wd_1075 : Cond.methodLink "PieceSurfacesLaw" 61 yX12_free ∈ lw_gd := mm_gd (in_t5 (List.mem_of_getElem? (i := 51) rfl)) rfl
theorem wd_1076 : Cond.instanceMethod yX12_free ∈ lw_gd := mm_gd (in_t5 (List.mem_of_getElem? (i := 52) rfl)) rfl
theorem wd_1077 : Cond.selects "PieceSurfacesModel" yX12_free yX12_free ∈ lw_gd := mm_gd (in_t5 (List.mem_of_getElem? (i := 53) rfl)) rfl
theorem wd_1078 : Cond.code yX12_free prog_14_method_67_code 5 (some FieldType.int) ∈ lw_gd := mm_gd (in_t5 (List.mem_of_getElem? (i := 54) rfl)) rfl
theorem wd_1079 : Cond.methodLink "PieceSurfacesLaw" 66 yX12_put ∈ lw_gd := mm_gd (in_t5 (List.mem_of_getElem? (i := 55) rfl)) rfl
theorem wd_1080 : Cond.instanceMethod yX12_put ∈ lw_gd := mm_gd (in_t5 (List.mem_of_getElem? (i := 56) rfl)) rfl
theorem wd_1081 : Cond.selects "PieceSurfacesModel" yX12_put yX12_put ∈ lw_gd := mm_gd (in_t5 (List.mem_of_getElem? (i := 57) rfl)) rfl
theorem wd_1082 : Cond.code yX12_put prog_14_method_69_code 2 (some FieldType.int) ∈ lw_gd := mm_gd (in_t5 (List.mem_of_getElem? (i := 58) rfl)) rfl
theorem wd_1083 : Cond.constant "PieceSurfacesModel" 226 (Int32.ofInt (-1000000004)) ∈ lw_gd := mm_gd (in_t5 (List.mem_of_getElem? (i := 59) rfl)) rfl
theorem wd_1084 : Cond.methodLink "PieceSurfacesModel" 227 yX12_newSurface ∈ lw_gd := mm_gd (in_t5 (List.mem_of_getElem? (i := 60) rfl)) rfl
theorem wd_1086 : Cond.instanceMethod yX12_newSurface ∈ lw_gd := mm_gd (in_t5 (List.mem_of_getElem? (i := 62) rfl)) rfl
theorem wd_1087 : Cond.code yX12_newSurface prog_14_method_68_code 3 (some FieldType.int) ∈ lw_gd := mm_gd (in_t5 (List.mem_of_getElem? (i := 63) rfl)) rfl
theorem wd_1088 : Cond.methodLink "PieceSurfacesLaw" 70 yX12_piece ∈ lw_gd := mm_gd (in_t5 (List.mem_of_getElem? (i := 64) rfl)) rfl
theorem wd_1089 : Cond.instanceMethod yX12_piece ∈ lw_gd := mm_gd (in_t5 (List.mem_of_getElem? (i := 65) rfl)) rfl
theorem wd_1090 : Cond.selects "PieceSurfacesModel" yX12_piece yX12_piece ∈ lw_gd := mm_gd (in_t5 (List.mem_of_getElem? (i := 66) rfl)) rfl
theorem wd_1091 : Cond.code yX12_piece prog_14_method_70_code 7 (some FieldType.int) ∈ lw_gd := mm_gd (in_t5 (List.mem_of_getElem? (i := 67) rfl)) rfl
theorem wd_1092 : Cond.methodLink "PieceSurfacesLaw" 74 yX12_about ∈ lw_gd := mm_gd (in_t5 (List.mem_of_getElem? (i := 68) rfl)) rfl
theorem wd_1093 : Cond.instanceMethod yX12_about ∈ lw_gd := mm_gd (in_t5 (List.mem_of_getElem? (i := 69) rfl)) rfl
theorem wd_1094 : Cond.selects "PieceSurfacesModel" yX12_about yX12_about ∈ lw_gd := mm_gd (in_t5 (List.mem_of_getElem? (i := 70) rfl)) rfl
theorem wd_1095 : Cond.code yX12_about prog_14_method_71_code 4 (some FieldType.int) ∈ lw_gd := mm_gd (in_t5 (List.mem_of_getElem? (i := 71) rfl)) rfl
theorem wd_1096 : Cond.methodLink "PieceSurfacesLaw" 78 yX12_add ∈ lw_gd := mm_gd (in_t5 (List.mem_of_getElem? (i := 72) rfl)) rfl
theorem wd_1097 : Cond.instanceMethod yX12_add ∈ lw_gd := mm_gd (in_t5 (List.mem_of_getElem? (i := 73) rfl)) rfl
theorem wd_1098 : Cond.selects "PieceSurfacesModel" yX12_add yX12_add ∈ lw_gd := mm_gd (in_t5 (List.mem_of_getElem? (i := 74) rfl)) rfl
theorem wd_1099 : Cond.code yX12_add prog_14_method_72_code 6 (some FieldType.int) ∈ lw_gd := mm_gd (in_t5 (List.mem_of_getElem? (i := 75) rfl)) rfl
theorem wd_1100 : Cond.methodLink "PieceSurfacesLaw" 82 yX12_take ∈ lw_gd := mm_gd (in_t5 (List.mem_of_getElem? (i := 76) rfl)) rfl
theorem wd_1101 : Cond.instanceMethod yX12_take ∈ lw_gd := mm_gd (in_t5 (List.mem_of_getElem? (i := 77) rfl)) rfl
theorem wd_1102 : Cond.selects "PieceSurfacesModel" yX12_take yX12_take ∈ lw_gd := mm_gd (in_t5 (List.mem_of_getElem? (i := 78) rfl)) rfl
theorem wd_1103 : Cond.code yX12_take prog_14_method_73_code 3 (some FieldType.int) ∈ lw_gd := mm_gd (in_t5 (List.mem_of_getElem? (i := 79) rfl)) rfl
theorem wd_1104 : Cond.methodLink "PieceSurfacesLaw" 86 yX12_drift ∈ lw_gd := mm_gd (in_t5 (List.mem_of_getElem? (i := 80) rfl)) rfl
theorem wd_1105 : Cond.instanceMethod yX12_drift ∈ lw_gd := mm_gd (in_t5 (List.mem_of_getElem? (i := 81) rfl)) rfl
theorem wd_1106 : Cond.selects "PieceSurfacesModel" yX12_drift yX12_drift ∈ lw_gd := mm_gd (in_t5 (List.mem_of_getElem? (i := 82) rfl)) rfl
theorem wd_1107 : Cond.code yX12_drift prog_14_method_76_code 3 (some FieldType.int) ∈ lw_gd := mm_gd (in_t5 (List.mem_of_getElem? (i := 83) rfl)) rfl
theorem wd_1108 : Cond.methodLink "PieceSurfacesModel" 243 yX12_chance ∈ lw_gd := mm_gd (in_t5 (List.mem_of_getElem? (i := 84) rfl)) rfl
theorem wd_1110 : Cond.instanceMethod yX12_chance ∈ lw_gd := mm_gd (in_t5 (List.mem_of_getElem? (i := 86) rfl)) rfl
theorem wd_1111 : Cond.code yX12_chance prog_14_method_75_code 6 none ∈ lw_gd := mm_gd (in_t5 (List.mem_of_getElem? (i := 87) rfl)) rfl
theorem wd_1112 : Cond.methodLink "PieceSurfacesModel" 240 yX12_draw ∈ lw_gd := mm_gd (in_t5 (List.mem_of_getElem? (i := 88) rfl)) rfl
theorem wd_1114 : Cond.instanceMethod yX12_draw ∈ lw_gd := mm_gd (in_t5 (List.mem_of_getElem? (i := 90) rfl)) rfl
theorem wd_1115 : Cond.code yX12_draw prog_14_method_74_code 4 (some FieldType.int) ∈ lw_gd := mm_gd (in_t5 (List.mem_of_getElem? (i := 91) rfl)) rfl
theorem wd_1119 : Cond.constant "PieceSurfacesModel" 239 (Int32.ofInt (65536)) ∈ lw_gd := mm_gd (in_t5 (List.mem_of_getElem? (i := 95) rfl)) rfl
theorem wd_1120 : Cond.methodLink "PieceSurfacesLaw" 90 yX12_undo ∈ lw_gd := mm_gd (in_t5 (List.mem_of_getElem? (i := 96) rfl)) rfl
theorem wd_1121 : Cond.instanceMethod yX12_undo ∈ lw_gd := mm_gd (in_t5 (List.mem_of_getElem? (i := 97) rfl)) rfl
theorem wd_1122 : Cond.selects "PieceSurfacesModel" yX12_undo yX12_undo ∈ lw_gd := mm_gd (in_t5 (List.mem_of_getElem? (i := 98) rfl)) rfl
theorem wd_1123 : Cond.code yX12_undo prog_14_method_77_code 2 (some FieldType.int) ∈ lw_gd := mm_gd (in_t5 (List.mem_of_getElem? (i := 99) rfl)) rfl
theorem wd_1124 : Cond.methodLink "PieceSurfacesLaw" 94 yX12_write ∈ lw_gd := mm_gd (in_t5 (List.mem_of_getElem? (i := 100) rfl)) rfl
theorem wd_1125 : Cond.instanceMethod yX12_write ∈ lw_gd := mm_gd (in_t5 (List.mem_of_getElem? (i := 101) rfl)) rfl
theorem wd_1126 : Cond.selects "PieceSurfacesModel" yX12_write yX12_write ∈ lw_gd := mm_gd (in_t5 (List.mem_of_getElem? (i := 102) rfl)) rfl
theorem wd_1127 : Cond.code yX12_write prog_14_method_78_code 3 (some FieldType.int) ∈ lw_gd := mm_gd (in_t5 (List.mem_of_getElem? (i := 103) rfl)) rfl
theorem wd_1128 : Cond.methodLink "PieceSurfacesLaw" 98 yX12_tear ∈ lw_gd := mm_gd (in_t5 (List.mem_of_getElem? (i := 104) rfl)) rfl
theorem wd_1129 : Cond.instanceMethod yX12_tear ∈ lw_gd := mm_gd (in_t5 (List.mem_of_getElem? (i := 105) rfl)) rfl
theorem wd_1130 : Cond.selects "PieceSurfacesModel" yX12_tear yX12_tear ∈ lw_gd := mm_gd (in_t5 (List.mem_of_getElem? (i := 106) rfl)) rfl
theorem wd_1131 : Cond.code yX12_tear prog_14_method_79_code 2 (some FieldType.int) ∈ lw_gd := mm_gd (in_t5 (List.mem_of_getElem? (i := 107) rfl)) rfl
theorem wd_1132 : Cond.methodLink "PieceSurfacesLaw" 102 yX12_seed ∈ lw_gd := mm_gd (in_t5 (List.mem_of_getElem? (i := 108) rfl)) rfl
theorem wd_1133 : Cond.instanceMethod yX12_seed ∈ lw_gd := mm_gd (in_t5 (List.mem_of_getElem? (i := 109) rfl)) rfl
theorem wd_1134 : Cond.selects "PieceSurfacesModel" yX12_seed yX12_seed ∈ lw_gd := mm_gd (in_t5 (List.mem_of_getElem? (i := 110) rfl)) rfl
theorem wd_1135 : Cond.code yX12_seed prog_14_method_80_code 3 (some FieldType.int) ∈ lw_gd := mm_gd (in_t5 (List.mem_of_getElem? (i := 111) rfl)) rfl
theorem wd_1136 : Cond.methodLink "PieceSurfacesLaw" 106 yX12_keep ∈ lw_gd := mm_gd (in_t5 (List.mem_of_getElem? (i := 112) rfl)) rfl
theorem wd_1137 : Cond.instanceMethod yX12_keep ∈ lw_gd := mm_gd (in_t5 (List.mem_of_getElem? (i := 113) rfl)) rfl
theorem wd_1138 : Cond.selects "PieceSurfacesModel" yX12_keep yX12_keep ∈ lw_gd := mm_gd (in_t5 (List.mem_of_getElem? (i := 114) rfl)) rfl
theorem wd_1139 : Cond.code yX12_keep prog_14_method_81_code 2 (some FieldType.int) ∈ lw_gd := mm_gd (in_t5 (List.mem_of_getElem? (i := 115) rfl)) rfl
theorem wd_1140 : Cond.methodLink "PieceSurfacesLaw" 110 yX12_goBack ∈ lw_gd := mm_gd (in_t5 (List.mem_of_getElem? (i := 116) rfl)) rfl
theorem wd_1141 : Cond.instanceMethod yX12_goBack ∈ lw_gd := mm_gd (in_t5 (List.mem_of_getElem? (i := 117) rfl)) rfl
theorem wd_1142 : Cond.selects "PieceSurfacesModel" yX12_goBack yX12_goBack ∈ lw_gd := mm_gd (in_t5 (List.mem_of_getElem? (i := 118) rfl)) rfl
theorem wd_1143 : Cond.code yX12_goBack prog_14_method_82_code 2 (some FieldType.int) ∈ lw_gd := mm_gd (in_t5 (List.mem_of_getElem? (i := 119) rfl)) rfl
