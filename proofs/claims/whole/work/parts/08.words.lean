/-! the words of the tables, by their places -/
theorem tw_0 : (Jvm.Cond.selects "SumsThatDiffer" ⟨"SumsThatDiffer", "layLetters", "()Z"⟩ ⟨"SumsThatDiffer", "layLetters", "()Z"⟩) ∈ TB := tb_in 0 (by decide +kernel) rfl
theorem tw_1 : (Jvm.Cond.selects "SumsThatDiffer$Reading" ⟨"SumsThatDiffer$Reading", "readItem", "(LSumsThatDiffer$Letters;)Z"⟩ ⟨"SumsThatDiffer$Reading", "readItem", "(LSumsThatDiffer$Letters;)Z"⟩) ∈ TB := tb_in 1 (by decide +kernel) rfl
theorem tw_2 : (Jvm.Cond.selects "SumsThatDiffer$Reading" ⟨"SumsThatDiffer$Reading", "readNumbers", "(LSumsThatDiffer$Letters;I)Z"⟩ ⟨"SumsThatDiffer$Reading", "readNumbers", "(LSumsThatDiffer$Letters;I)Z"⟩) ∈ TB := tb_in 2 (by decide +kernel) rfl
theorem tw_3 : (Jvm.Cond.selects "SumsThatDiffer$Reading" ⟨"SumsThatDiffer$Reading", "readNumber", "(LSumsThatDiffer$Letters;I)Z"⟩ ⟨"SumsThatDiffer$Reading", "readNumber", "(LSumsThatDiffer$Letters;I)Z"⟩) ∈ TB := tb_in 3 (by decide +kernel) rfl
theorem tw_4 : (Jvm.Cond.selects "SumsThatDiffer$Reading" ⟨"SumsThatDiffer$Reading", "tellPlaces", "(I)Z"⟩ ⟨"SumsThatDiffer$Reading", "tellPlaces", "(I)Z"⟩) ∈ TB := tb_in 4 (by decide +kernel) rfl
theorem tw_5 : (Jvm.Cond.selects "SumsThatDiffer$Reading" ⟨"SumsThatDiffer$Reading", "tellRoad", "()Z"⟩ ⟨"SumsThatDiffer$Reading", "tellRoad", "()Z"⟩) ∈ TB := tb_in 5 (by decide +kernel) rfl
theorem tw_6 : (Jvm.Cond.selects "SumsThatDiffer$Reading" ⟨"SumsThatDiffer$Reading", "tellStart", "(II)Z"⟩ ⟨"SumsThatDiffer$Reading", "tellStart", "(II)Z"⟩) ∈ TB := tb_in 6 (by decide +kernel) rfl
theorem tw_7 : (Jvm.Cond.selects "SumsThatDiffer$Pile" ⟨"SumsThatDiffer$Pile", "dropOldest", "()V"⟩ ⟨"SumsThatDiffer$Pile", "dropOldest", "()V"⟩) ∈ TB := tb_in 7 (by decide +kernel) rfl
theorem tw_8 : (Jvm.Cond.selects "SumsThatDiffer$Climb" ⟨"SumsThatDiffer$Climb", "begin", "(II)V"⟩ ⟨"SumsThatDiffer$Climb", "begin", "(II)V"⟩) ∈ TB := tb_in 8 (by decide +kernel) rfl
theorem tw_9 : (Jvm.Cond.selects "SumsThatDiffer$Climb" ⟨"SumsThatDiffer$Climb", "advance", "()V"⟩ ⟨"SumsThatDiffer$Climb", "advance", "()V"⟩) ∈ TB := tb_in 9 (by decide +kernel) rfl
theorem tw_10 : (Jvm.Cond.selects "SumsThatDiffer$Climb" ⟨"SumsThatDiffer$Climb", "carry", "(III)V"⟩ ⟨"SumsThatDiffer$Climb", "carry", "(III)V"⟩) ∈ TB := tb_in 10 (by decide +kernel) rfl
theorem tw_11 : (Jvm.Cond.selects "SumsThatDiffer$Climb" ⟨"SumsThatDiffer$Climb", "raise", "(II)V"⟩ ⟨"SumsThatDiffer$Climb", "raise", "(II)V"⟩) ∈ TB := tb_in 11 (by decide +kernel) rfl
theorem tw_12 : (Jvm.Cond.selects "SumsThatDiffer$Climb" ⟨"SumsThatDiffer$Climb", "firstToHighest", "(III)I"⟩ ⟨"SumsThatDiffer$Climb", "firstToHighest", "(III)I"⟩) ∈ TB := tb_in 12 (by decide +kernel) rfl
theorem tw_13 : (Jvm.Cond.selects "SumsThatDiffer$Climb" ⟨"SumsThatDiffer$Climb", "highestHome", "(III)I"⟩ ⟨"SumsThatDiffer$Climb", "highestHome", "(III)I"⟩) ∈ TB := tb_in 13 (by decide +kernel) rfl
theorem tw_14 : (Jvm.Cond.selects "SumsThatDiffer$Heights" ⟨"SumsThatDiffer$Heights", "agreeBy", "(I)Z"⟩ ⟨"SumsThatDiffer$Heights", "agreeBy", "(I)Z"⟩) ∈ TB := tb_in 14 (by decide +kernel) rfl
theorem tw_15 : (Jvm.Cond.selects "SumsThatDiffer$Heights" ⟨"SumsThatDiffer$Heights", "spreadFrom", "(II)V"⟩ ⟨"SumsThatDiffer$Heights", "spreadFrom", "(II)V"⟩) ∈ TB := tb_in 15 (by decide +kernel) rfl
theorem tw_16 : (Jvm.Cond.selects "SumsThatDiffer$Heights" ⟨"SumsThatDiffer$Heights", "carry", "(II)Z"⟩ ⟨"SumsThatDiffer$Heights", "carry", "(II)Z"⟩) ∈ TB := tb_in 16 (by decide +kernel) rfl
theorem tw_17 : (Jvm.Cond.selects "SumsThatDiffer$Heights" ⟨"SumsThatDiffer$Heights", "suits", "(I)Z"⟩ ⟨"SumsThatDiffer$Heights", "suits", "(I)Z"⟩) ∈ TB := tb_in 17 (by decide +kernel) rfl
theorem tw_18 : (Jvm.Cond.selects "SumsThatDiffer$Rings" ⟨"SumsThatDiffer$Rings", "findFrom", "(I)V"⟩ ⟨"SumsThatDiffer$Rings", "findFrom", "(I)V"⟩) ∈ TB := tb_in 18 (by decide +kernel) rfl
theorem tw_19 : (Jvm.Cond.selects "SumsThatDiffer$Rings" ⟨"SumsThatDiffer$Rings", "advance", "()V"⟩ ⟨"SumsThatDiffer$Rings", "advance", "()V"⟩) ∈ TB := tb_in 19 (by decide +kernel) rfl
theorem tw_20 : (Jvm.Cond.selects "SumsThatDiffer$Rings" ⟨"SumsThatDiffer$Rings", "carry", "(III)V"⟩ ⟨"SumsThatDiffer$Rings", "carry", "(III)V"⟩) ∈ TB := tb_in 20 (by decide +kernel) rfl
theorem tw_21 : (Jvm.Cond.selects "SumsThatDiffer$Rings" ⟨"SumsThatDiffer$Rings", "swapRows", "()V"⟩ ⟨"SumsThatDiffer$Rings", "swapRows", "()V"⟩) ∈ TB := tb_in 21 (by decide +kernel) rfl
theorem tw_22 : (Jvm.Cond.selects "SumsThatDiffer$Heights" ⟨"SumsThatDiffer$Heights", "unlikeWays", "(I)I"⟩ ⟨"SumsThatDiffer$Heights", "unlikeWays", "(I)I"⟩) ∈ TB := tb_in 22 (by decide +kernel) rfl
theorem tw_23 : (Jvm.Cond.selects "SumsThatDiffer$Told" ⟨"SumsThatDiffer$Told", "suppose", "(I)Z"⟩ ⟨"SumsThatDiffer$Told", "suppose", "(I)Z"⟩) ∈ TB := tb_in 23 (by decide +kernel) rfl
theorem tw_24 : (Jvm.Cond.selects "SumsThatDiffer$Told" ⟨"SumsThatDiffer$Told", "sortByWays", "(I)V"⟩ ⟨"SumsThatDiffer$Told", "sortByWays", "(I)V"⟩) ∈ TB := tb_in 24 (by decide +kernel) rfl
theorem tw_25 : (Jvm.Cond.selects "SumsThatDiffer$Told" ⟨"SumsThatDiffer$Told", "wayOver", "(III)I"⟩ ⟨"SumsThatDiffer$Told", "wayOver", "(III)I"⟩) ∈ TB := tb_in 25 (by decide +kernel) rfl
theorem tw_26 : (Jvm.Cond.selects "SumsThatDiffer$Told" ⟨"SumsThatDiffer$Told", "hold", "(I)Z"⟩ ⟨"SumsThatDiffer$Told", "hold", "(I)Z"⟩) ∈ TB := tb_in 26 (by decide +kernel) rfl
theorem tw_27 : (Jvm.Cond.selects "SumsThatDiffer$Told" ⟨"SumsThatDiffer$Told", "supposedSum", "(III)I"⟩ ⟨"SumsThatDiffer$Told", "supposedSum", "(III)I"⟩) ∈ TB := tb_in 27 (by decide +kernel) rfl
theorem tw_28 : (Jvm.Cond.selects "SumsThatDiffer$Told" ⟨"SumsThatDiffer$Told", "unlikeSums", "(II)I"⟩ ⟨"SumsThatDiffer$Told", "unlikeSums", "(II)I"⟩) ∈ TB := tb_in 28 (by decide +kernel) rfl
theorem tw_29 : (Jvm.Cond.selects "SumsThatDiffer$Weather" ⟨"SumsThatDiffer$Weather", "countSets", "(III)V"⟩ ⟨"SumsThatDiffer$Weather", "countSets", "(III)V"⟩) ∈ TB := tb_in 29 (by decide +kernel) rfl
theorem tw_30 : (Jvm.Cond.selects "SumsThatDiffer$Weather" ⟨"SumsThatDiffer$Weather", "leads", "(III)Z"⟩ ⟨"SumsThatDiffer$Weather", "leads", "(III)Z"⟩) ∈ TB := tb_in 30 (by decide +kernel) rfl
theorem tw_31 : (Jvm.Cond.selects "SumsThatDiffer$Weather" ⟨"SumsThatDiffer$Weather", "lowestTerms", "()V"⟩ ⟨"SumsThatDiffer$Weather", "lowestTerms", "()V"⟩) ∈ TB := tb_in 31 (by decide +kernel) rfl
theorem tw_32 : (Jvm.Cond.selects "SumsThatDifferModel" ⟨"SumsThatDifferModel", "clean", "()V"⟩ ⟨"SumsThatDifferModel", "clean", "()V"⟩) ∈ TB := tb_in 32 (by decide +kernel) rfl
theorem tw_33 : (Jvm.Cond.selects "SumsThatDifferModel" ⟨"SumsThatDifferModel", "comes", "(IIIII)V"⟩ ⟨"SumsThatDifferModel", "comes", "(IIIII)V"⟩) ∈ TB := tb_in 33 (by decide +kernel) rfl
theorem tw_34 : (Jvm.Cond.selects "SumsThatDifferModel" ⟨"SumsThatDifferModel", "begins", "()V"⟩ ⟨"SumsThatDifferModel", "begins", "()V"⟩) ∈ TB := tb_in 34 (by decide +kernel) rfl
theorem tw_35 : (Jvm.Cond.selects "SumsThatDifferModel" ⟨"SumsThatDifferModel", "takesItem", "()Z"⟩ ⟨"SumsThatDifferModel", "takesItem", "()Z"⟩) ∈ TB := tb_in 35 (by decide +kernel) rfl
theorem tw_36 : (Jvm.Cond.selects "SumsThatDifferModel" ⟨"SumsThatDifferModel", "here", "()I"⟩ ⟨"SumsThatDifferModel", "here", "()I"⟩) ∈ TB := tb_in 36 (by decide +kernel) rfl
theorem tw_37 : (Jvm.Cond.selects "SumsThatDifferModel" ⟨"SumsThatDifferModel", "takesPlaces", "()Z"⟩ ⟨"SumsThatDifferModel", "takesPlaces", "()Z"⟩) ∈ TB := tb_in 37 (by decide +kernel) rfl
theorem tw_38 : (Jvm.Cond.selects "SumsThatDifferModel" ⟨"SumsThatDifferModel", "takes", "(I)Z"⟩ ⟨"SumsThatDifferModel", "takes", "(I)Z"⟩) ∈ TB := tb_in 38 (by decide +kernel) rfl
theorem tw_39 : (Jvm.Cond.selects "SumsThatDifferModel" ⟨"SumsThatDifferModel", "takesRoad", "()Z"⟩ ⟨"SumsThatDifferModel", "takesRoad", "()Z"⟩) ∈ TB := tb_in 39 (by decide +kernel) rfl
theorem tw_40 : (Jvm.Cond.selects "SumsThatDifferModel" ⟨"SumsThatDifferModel", "takesStart", "()Z"⟩ ⟨"SumsThatDifferModel", "takesStart", "()Z"⟩) ∈ TB := tb_in 40 (by decide +kernel) rfl
theorem tw_41 : (Jvm.Cond.selects "SumsThatDifferModel" ⟨"SumsThatDifferModel", "takesJourney", "()Z"⟩ ⟨"SumsThatDifferModel", "takesJourney", "()Z"⟩) ∈ TB := tb_in 41 (by decide +kernel) rfl
theorem tw_42 : (Jvm.Cond.selects "SumsThatDifferModel" ⟨"SumsThatDifferModel", "isRoad", "(I)Z"⟩ ⟨"SumsThatDifferModel", "isRoad", "(I)Z"⟩) ∈ TB := tb_in 42 (by decide +kernel) rfl
theorem tw_43 : (Jvm.Cond.selects "SumsThatDifferModel" ⟨"SumsThatDifferModel", "isShut", "(I)Z"⟩ ⟨"SumsThatDifferModel", "isShut", "(I)Z"⟩) ∈ TB := tb_in 43 (by decide +kernel) rfl
theorem tw_44 : (Jvm.Cond.selects "SumsThatDifferModel" ⟨"SumsThatDifferModel", "mayCross", "(II)Z"⟩ ⟨"SumsThatDifferModel", "mayCross", "(II)Z"⟩) ∈ TB := tb_in 44 (by decide +kernel) rfl
theorem tw_45 : (Jvm.Cond.selects "SumsThatDifferModel" ⟨"SumsThatDifferModel", "otherEnd", "(II)I"⟩ ⟨"SumsThatDifferModel", "otherEnd", "(II)I"⟩) ∈ TB := tb_in 45 (by decide +kernel) rfl
theorem tw_46 : (Jvm.Cond.selects "SumsThatDifferModel" ⟨"SumsThatDifferModel", "remember", "()V"⟩ ⟨"SumsThatDifferModel", "remember", "()V"⟩) ∈ TB := tb_in 46 (by decide +kernel) rfl
theorem tw_47 : (Jvm.Cond.selects "SumsThatDifferModel" ⟨"SumsThatDifferModel", "byNow", "(III)I"⟩ ⟨"SumsThatDifferModel", "byNow", "(III)I"⟩) ∈ TB := tb_in 47 (by decide +kernel) rfl
theorem tw_48 : (Jvm.Cond.selects "SumsThatDifferModel" ⟨"SumsThatDifferModel", "by", "(IIIII)I"⟩ ⟨"SumsThatDifferModel", "by", "(IIIII)I"⟩) ∈ TB := tb_in 48 (by decide +kernel) rfl
theorem tw_49 : (Jvm.Cond.selects "SumsThatDifferModel" ⟨"SumsThatDifferModel", "goes", "(I)Z"⟩ ⟨"SumsThatDifferModel", "goes", "(I)Z"⟩) ∈ TB := tb_in 49 (by decide +kernel) rfl
theorem tw_50 : (Jvm.Cond.selects "SumsThatDifferModel" ⟨"SumsThatDifferModel", "layRounds", "(I)V"⟩ ⟨"SumsThatDifferModel", "layRounds", "(I)V"⟩) ∈ TB := tb_in 50 (by decide +kernel) rfl
theorem tw_51 : (Jvm.Cond.selects "SumsThatDifferModel" ⟨"SumsThatDifferModel", "layHeights", "(I)Z"⟩ ⟨"SumsThatDifferModel", "layHeights", "(I)Z"⟩) ∈ TB := tb_in 51 (by decide +kernel) rfl
theorem tw_52 : (Jvm.Cond.selects "SumsThatDifferModel" ⟨"SumsThatDifferModel", "spread", "(I)V"⟩ ⟨"SumsThatDifferModel", "spread", "(I)V"⟩) ∈ TB := tb_in 52 (by decide +kernel) rfl
theorem tw_53 : (Jvm.Cond.selects "SumsThatDifferModel" ⟨"SumsThatDifferModel", "change", "(IZ)I"⟩ ⟨"SumsThatDifferModel", "change", "(IZ)I"⟩) ∈ TB := tb_in 53 (by decide +kernel) rfl
theorem tw_54 : (Jvm.Cond.selects "SumsThatDifferModel" ⟨"SumsThatDifferModel", "isPlace", "(I)Z"⟩ ⟨"SumsThatDifferModel", "isPlace", "(I)Z"⟩) ∈ TB := tb_in 54 (by decide +kernel) rfl
theorem tw_55 : (Jvm.Cond.selects "SumsThatDifferModel" ⟨"SumsThatDifferModel", "ringFrom", "(I)I"⟩ ⟨"SumsThatDifferModel", "ringFrom", "(I)I"⟩) ∈ TB := tb_in 55 (by decide +kernel) rfl
theorem tw_56 : (Jvm.Cond.selects "SumsThatDifferModel" ⟨"SumsThatDifferModel", "marksGo", "(III)V"⟩ ⟨"SumsThatDifferModel", "marksGo", "(III)V"⟩) ∈ TB := tb_in 56 (by decide +kernel) rfl
theorem tw_57 : (Jvm.Cond.selects "SumsThatDifferModel" ⟨"SumsThatDifferModel", "wrongs", "()I"⟩ ⟨"SumsThatDifferModel", "wrongs", "()I"⟩) ∈ TB := tb_in 57 (by decide +kernel) rfl
theorem tw_58 : (Jvm.Cond.selects "SumsThatDifferModel" ⟨"SumsThatDifferModel", "fits", "(III)Z"⟩ ⟨"SumsThatDifferModel", "fits", "(III)Z"⟩) ∈ TB := tb_in 58 (by decide +kernel) rfl
theorem tw_59 : (Jvm.Cond.selects "SumsThatDifferModel" ⟨"SumsThatDifferModel", "byOther", "(IIIIII)I"⟩ ⟨"SumsThatDifferModel", "byOther", "(IIIIII)I"⟩) ∈ TB := tb_in 59 (by decide +kernel) rfl
theorem tw_60 : (Jvm.Cond.selects "SumsThatDifferModel" ⟨"SumsThatDifferModel", "sumsBehind", "(II)I"⟩ ⟨"SumsThatDifferModel", "sumsBehind", "(II)I"⟩) ∈ TB := tb_in 60 (by decide +kernel) rfl
theorem tw_61 : (Jvm.Cond.selects "SumsThatDifferModel" ⟨"SumsThatDifferModel", "leads", "(III)Z"⟩ ⟨"SumsThatDifferModel", "leads", "(III)Z"⟩) ∈ TB := tb_in 61 (by decide +kernel) rfl
theorem tw_63 : (Jvm.Cond.initialized "SumsThatDiffer") ∈ TB := tb_in 63 (by decide +kernel) rfl
theorem tw_64 : (Jvm.Cond.initialized "SumsThatDiffer$Letters") ∈ TB := tb_in 64 (by decide +kernel) rfl
theorem tw_65 : (Jvm.Cond.initialized "SumsThatDiffer$Reading") ∈ TB := tb_in 65 (by decide +kernel) rfl
theorem tw_66 : (Jvm.Cond.initialized "SumsThatDiffer$County") ∈ TB := tb_in 66 (by decide +kernel) rfl
theorem tw_67 : (Jvm.Cond.initialized "SumsThatDiffer$Standing") ∈ TB := tb_in 67 (by decide +kernel) rfl
theorem tw_68 : (Jvm.Cond.initialized "SumsThatDiffer$Pile") ∈ TB := tb_in 68 (by decide +kernel) rfl
theorem tw_69 : (Jvm.Cond.initialized "SumsThatDiffer$Walker") ∈ TB := tb_in 69 (by decide +kernel) rfl
theorem tw_70 : (Jvm.Cond.initialized "SumsThatDiffer$Climb") ∈ TB := tb_in 70 (by decide +kernel) rfl
theorem tw_71 : (Jvm.Cond.initialized "SumsThatDiffer$Heights") ∈ TB := tb_in 71 (by decide +kernel) rfl
theorem tw_72 : (Jvm.Cond.initialized "SumsThatDiffer$Rings") ∈ TB := tb_in 72 (by decide +kernel) rfl
theorem tw_73 : (Jvm.Cond.initialized "SumsThatDiffer$Told") ∈ TB := tb_in 73 (by decide +kernel) rfl
theorem tw_74 : (Jvm.Cond.initialized "SumsThatDiffer$Weather") ∈ TB := tb_in 74 (by decide +kernel) rfl
theorem tw_79 : (Jvm.Cond.initialized "java/lang/System") ∈ TB := tb_in 79 (by decide +kernel) rfl
theorem tw_80 : (Jvm.Cond.initialized "SumsThatDifferModel") ∈ TB := tb_in 80 (by decide +kernel) rfl
theorem tw_81 : (Jvm.Cond.initialized "java/lang/Integer") ∈ TB := tb_in 81 (by decide +kernel) rfl
theorem tw_82 : (Jvm.Cond.initialized "java/util/Arrays") ∈ TB := tb_in 82 (by decide +kernel) rfl
theorem tw_83 : (Jvm.Cond.initialized "java/lang/Math") ∈ TB := tb_in 83 (by decide +kernel) rfl
theorem tw_90 : (Jvm.Cond.instanceMethod ({ cls := "java/lang/Object", name := "<init>", desc := "()V" } : Jvm.MethodName)) ∈ TB := tb_in 90 (by decide +kernel) rfl
theorem tw_91 : (Jvm.Cond.code ({ cls := "java/lang/Object", name := "<init>", desc := "()V" } : Jvm.MethodName) object_method_1_code (1 : Nat) (Option.none : Option Jvm.ClassFile.FieldType)) ∈ TB := tb_in 91 (by decide +kernel) rfl
theorem tw_97 : (Jvm.Cond.methodLink "SumsThatDiffer$Letters" (3 : Nat) ({ cls := "java/lang/Object", name := "<init>", desc := "()V" } : Jvm.MethodName)) ∈ TB := tb_in 97 (by decide +kernel) rfl
theorem tw_98 : (Jvm.Cond.fieldLink "SumsThatDiffer$Letters" (9 : Nat) "SumsThatDiffer$Letters" "signs" "[C") ∈ TB := tb_in 98 (by decide +kernel) rfl
theorem tw_99 : (Jvm.Cond.fieldLink "SumsThatDiffer$Letters" (15 : Nat) "SumsThatDiffer$Letters" "length" "I") ∈ TB := tb_in 99 (by decide +kernel) rfl
theorem tw_100 : (Jvm.Cond.laysFinal "SumsThatDiffer$Letters" "SumsThatDiffer$Letters" "signs" "[C") ∈ TB := tb_in 100 (by decide +kernel) rfl
theorem tw_102 : (Jvm.Cond.lays "SumsThatDiffer$Letters" "SumsThatDiffer$Letters" "length" "I") ∈ TB := tb_in 102 (by decide +kernel) rfl
theorem tw_105 : (Jvm.Cond.arrayClass Jvm.ClassFile.FieldType.char) ∈ TB := tb_in 105 (by decide +kernel) rfl
theorem tw_111 : (Jvm.Cond.methodLink "SumsThatDiffer$Reading" (3 : Nat) ({ cls := "java/lang/Object", name := "<init>", desc := "()V" } : Jvm.MethodName)) ∈ TB := tb_in 111 (by decide +kernel) rfl
theorem tw_112 : (Jvm.Cond.classLink "SumsThatDiffer$Reading" (9 : Nat) "SumsThatDiffer$County") ∈ TB := tb_in 112 (by decide +kernel) rfl
theorem tw_113 : (Jvm.Cond.instantiable "SumsThatDiffer$County" (8 : Nat)) ∈ TB := tb_in 113 (by decide +kernel) rfl
theorem tw_114 : (Jvm.Cond.methodLinkNest "SumsThatDiffer$Reading" (11 : Nat) ({ cls := "SumsThatDiffer$County", name := "<init>", desc := "()V" } : Jvm.MethodName) "SumsThatDiffer") ∈ NB := nb_in 114 (by decide +kernel) rfl
theorem tw_115 : (Jvm.Cond.instanceMethod ({ cls := "SumsThatDiffer$County", name := "<init>", desc := "()V" } : Jvm.MethodName)) ∈ TB := tb_in 115 (by decide +kernel) rfl
theorem tw_116 : (Jvm.Cond.code ({ cls := "SumsThatDiffer$County", name := "<init>", desc := "()V" } : Jvm.MethodName) prog_3_method_1_code (1 : Nat) (Option.none : Option Jvm.ClassFile.FieldType)) ∈ TB := tb_in 116 (by decide +kernel) rfl
theorem tw_117 : (Jvm.Cond.methodLink "SumsThatDiffer$County" (3 : Nat) ({ cls := "java/lang/Object", name := "<init>", desc := "()V" } : Jvm.MethodName)) ∈ TB := tb_in 117 (by decide +kernel) rfl
theorem tw_118 : (Jvm.Cond.classLink "SumsThatDiffer$County" (9 : Nat) "SumsThatDiffer$Standing") ∈ TB := tb_in 118 (by decide +kernel) rfl
theorem tw_119 : (Jvm.Cond.instantiable "SumsThatDiffer$Standing" (6 : Nat)) ∈ TB := tb_in 119 (by decide +kernel) rfl
theorem tw_120 : (Jvm.Cond.methodLinkNest "SumsThatDiffer$County" (11 : Nat) ({ cls := "SumsThatDiffer$Standing", name := "<init>", desc := "()V" } : Jvm.MethodName) "SumsThatDiffer") ∈ NB := nb_in 120 (by decide +kernel) rfl
theorem tw_121 : (Jvm.Cond.instanceMethod ({ cls := "SumsThatDiffer$Standing", name := "<init>", desc := "()V" } : Jvm.MethodName)) ∈ TB := tb_in 121 (by decide +kernel) rfl
theorem tw_122 : (Jvm.Cond.code ({ cls := "SumsThatDiffer$Standing", name := "<init>", desc := "()V" } : Jvm.MethodName) prog_9_method_1_code (1 : Nat) (Option.none : Option Jvm.ClassFile.FieldType)) ∈ TB := tb_in 122 (by decide +kernel) rfl
theorem tw_123 : (Jvm.Cond.methodLink "SumsThatDiffer$Standing" (3 : Nat) ({ cls := "java/lang/Object", name := "<init>", desc := "()V" } : Jvm.MethodName)) ∈ TB := tb_in 123 (by decide +kernel) rfl
theorem tw_124 : (Jvm.Cond.fieldLinkNest "SumsThatDiffer$Walker" (19 : Nat) "SumsThatDiffer$Standing" "place" "I" "SumsThatDiffer") ∈ NB := nb_in 124 (by decide +kernel) rfl
theorem tw_125 : (Jvm.Cond.fieldLinkNest "SumsThatDiffer$Climb" (31 : Nat) "SumsThatDiffer$Standing" "place" "I" "SumsThatDiffer") ∈ NB := nb_in 125 (by decide +kernel) rfl
theorem tw_126 : (Jvm.Cond.fieldLinkNest "SumsThatDiffer$County" (41 : Nat) "SumsThatDiffer$Standing" "place" "I" "SumsThatDiffer") ∈ NB := nb_in 126 (by decide +kernel) rfl
theorem tw_127 : (Jvm.Cond.fieldLink "SumsThatDiffer$Standing" (22 : Nat) "SumsThatDiffer$Standing" "place" "I") ∈ TB := tb_in 127 (by decide +kernel) rfl
theorem tw_128 : (Jvm.Cond.fieldLinkNest "SumsThatDiffer$Told" (71 : Nat) "SumsThatDiffer$Standing" "place" "I" "SumsThatDiffer") ∈ NB := nb_in 128 (by decide +kernel) rfl
theorem tw_129 : (Jvm.Cond.fieldLinkNest "SumsThatDiffer" (147 : Nat) "SumsThatDiffer$Standing" "place" "I" "SumsThatDiffer") ∈ NB := nb_in 129 (by decide +kernel) rfl
theorem tw_130 : (Jvm.Cond.fieldLinkNest "SumsThatDiffer$Reading" (87 : Nat) "SumsThatDiffer$Standing" "place" "I" "SumsThatDiffer") ∈ NB := nb_in 130 (by decide +kernel) rfl
theorem tw_131 : (Jvm.Cond.fieldLinkNest "SumsThatDiffer$Climb" (37 : Nat) "SumsThatDiffer$Standing" "sum" "I" "SumsThatDiffer") ∈ NB := nb_in 131 (by decide +kernel) rfl
theorem tw_132 : (Jvm.Cond.fieldLinkNest "SumsThatDiffer$Walker" (26 : Nat) "SumsThatDiffer$Standing" "sum" "I" "SumsThatDiffer") ∈ NB := nb_in 132 (by decide +kernel) rfl
theorem tw_133 : (Jvm.Cond.fieldLinkNest "SumsThatDiffer$County" (44 : Nat) "SumsThatDiffer$Standing" "sum" "I" "SumsThatDiffer") ∈ NB := nb_in 133 (by decide +kernel) rfl
theorem tw_134 : (Jvm.Cond.fieldLink "SumsThatDiffer$Standing" (25 : Nat) "SumsThatDiffer$Standing" "sum" "I") ∈ TB := tb_in 134 (by decide +kernel) rfl
theorem tw_135 : (Jvm.Cond.fieldLinkNest "SumsThatDiffer" (151 : Nat) "SumsThatDiffer$Standing" "sum" "I" "SumsThatDiffer") ∈ NB := nb_in 135 (by decide +kernel) rfl
theorem tw_136 : (Jvm.Cond.fieldLinkNest "SumsThatDiffer$Told" (94 : Nat) "SumsThatDiffer$Standing" "sum" "I" "SumsThatDiffer") ∈ NB := nb_in 136 (by decide +kernel) rfl
theorem tw_137 : (Jvm.Cond.fieldLinkNest "SumsThatDiffer$Reading" (90 : Nat) "SumsThatDiffer$Standing" "sum" "I" "SumsThatDiffer") ∈ NB := nb_in 137 (by decide +kernel) rfl
theorem tw_138 : (Jvm.Cond.fieldLinkNest "SumsThatDiffer$County" (47 : Nat) "SumsThatDiffer$Standing" "crossings" "I" "SumsThatDiffer") ∈ NB := nb_in 138 (by decide +kernel) rfl
theorem tw_139 : (Jvm.Cond.fieldLink "SumsThatDiffer$Standing" (28 : Nat) "SumsThatDiffer$Standing" "crossings" "I") ∈ TB := tb_in 139 (by decide +kernel) rfl
theorem tw_140 : (Jvm.Cond.fieldLinkNest "SumsThatDiffer" (166 : Nat) "SumsThatDiffer$Standing" "crossings" "I" "SumsThatDiffer") ∈ NB := nb_in 140 (by decide +kernel) rfl
theorem tw_141 : (Jvm.Cond.fieldLink "SumsThatDiffer$Standing" (18 : Nat) "SumsThatDiffer$Standing" "shutBits" "I") ∈ TB := tb_in 141 (by decide +kernel) rfl
theorem tw_142 : (Jvm.Cond.fieldLinkNest "SumsThatDiffer$County" (50 : Nat) "SumsThatDiffer$Standing" "shutBits" "I" "SumsThatDiffer") ∈ NB := nb_in 142 (by decide +kernel) rfl
theorem tw_143 : (Jvm.Cond.fieldLinkNest "SumsThatDiffer" (175 : Nat) "SumsThatDiffer$Standing" "shutBits" "I" "SumsThatDiffer") ∈ NB := nb_in 143 (by decide +kernel) rfl
theorem tw_144 : (Jvm.Cond.fieldLink "SumsThatDiffer$Standing" (9 : Nat) "SumsThatDiffer$Standing" "f" "[I") ∈ TB := tb_in 144 (by decide +kernel) rfl
theorem tw_145 : (Jvm.Cond.fieldLinkNest "SumsThatDiffer$County" (63 : Nat) "SumsThatDiffer$Standing" "f" "[I" "SumsThatDiffer") ∈ NB := nb_in 145 (by decide +kernel) rfl
theorem tw_146 : (Jvm.Cond.fieldLinkNest "SumsThatDiffer$Heights" (48 : Nat) "SumsThatDiffer$Standing" "f" "[I" "SumsThatDiffer") ∈ NB := nb_in 146 (by decide +kernel) rfl
theorem tw_147 : (Jvm.Cond.fieldLinkNest "SumsThatDiffer" (135 : Nat) "SumsThatDiffer$Standing" "f" "[I" "SumsThatDiffer") ∈ NB := nb_in 147 (by decide +kernel) rfl
theorem tw_148 : (Jvm.Cond.fieldLink "SumsThatDiffer$Standing" (15 : Nat) "SumsThatDiffer$Standing" "g" "[I") ∈ TB := tb_in 148 (by decide +kernel) rfl
theorem tw_149 : (Jvm.Cond.fieldLinkNest "SumsThatDiffer$County" (66 : Nat) "SumsThatDiffer$Standing" "g" "[I" "SumsThatDiffer") ∈ NB := nb_in 149 (by decide +kernel) rfl
theorem tw_150 : (Jvm.Cond.fieldLinkNest "SumsThatDiffer$Heights" (53 : Nat) "SumsThatDiffer$Standing" "g" "[I" "SumsThatDiffer") ∈ NB := nb_in 150 (by decide +kernel) rfl
theorem tw_151 : (Jvm.Cond.fieldLinkNest "SumsThatDiffer" (141 : Nat) "SumsThatDiffer$Standing" "g" "[I" "SumsThatDiffer") ∈ NB := nb_in 151 (by decide +kernel) rfl
theorem tw_152 : (Jvm.Cond.lays "SumsThatDiffer$Standing" "SumsThatDiffer$Standing" "place" "I") ∈ TB := tb_in 152 (by decide +kernel) rfl
theorem tw_154 : (Jvm.Cond.lays "SumsThatDiffer$Standing" "SumsThatDiffer$Standing" "sum" "I") ∈ TB := tb_in 154 (by decide +kernel) rfl
theorem tw_156 : (Jvm.Cond.lays "SumsThatDiffer$Standing" "SumsThatDiffer$Standing" "crossings" "I") ∈ TB := tb_in 156 (by decide +kernel) rfl
theorem tw_158 : (Jvm.Cond.lays "SumsThatDiffer$Standing" "SumsThatDiffer$Standing" "shutBits" "I") ∈ TB := tb_in 158 (by decide +kernel) rfl
theorem tw_160 : (Jvm.Cond.laysFinal "SumsThatDiffer$Standing" "SumsThatDiffer$Standing" "f" "[I") ∈ TB := tb_in 160 (by decide +kernel) rfl
theorem tw_162 : (Jvm.Cond.laysFinal "SumsThatDiffer$Standing" "SumsThatDiffer$Standing" "g" "[I") ∈ TB := tb_in 162 (by decide +kernel) rfl
theorem tw_165 : (Jvm.Cond.arrayClass Jvm.ClassFile.FieldType.int) ∈ TB := tb_in 165 (by decide +kernel) rfl
theorem tw_166 : (Jvm.Cond.fieldLink "SumsThatDiffer$County" (12 : Nat) "SumsThatDiffer$County" "now" "LSumsThatDiffer$Standing;") ∈ TB := tb_in 166 (by decide +kernel) rfl
theorem tw_167 : (Jvm.Cond.fieldLinkNest "SumsThatDiffer$Walker" (13 : Nat) "SumsThatDiffer$County" "now" "LSumsThatDiffer$Standing;" "SumsThatDiffer") ∈ NB := nb_in 167 (by decide +kernel) rfl
theorem tw_168 : (Jvm.Cond.fieldLinkNest "SumsThatDiffer$Climb" (25 : Nat) "SumsThatDiffer$County" "now" "LSumsThatDiffer$Standing;" "SumsThatDiffer") ∈ NB := nb_in 168 (by decide +kernel) rfl
theorem tw_169 : (Jvm.Cond.fieldLinkNest "SumsThatDiffer$Rings" (57 : Nat) "SumsThatDiffer$County" "now" "LSumsThatDiffer$Standing;" "SumsThatDiffer") ∈ NB := nb_in 169 (by decide +kernel) rfl
theorem tw_170 : (Jvm.Cond.fieldLinkNest "SumsThatDiffer$Heights" (44 : Nat) "SumsThatDiffer$County" "now" "LSumsThatDiffer$Standing;" "SumsThatDiffer") ∈ NB := nb_in 170 (by decide +kernel) rfl
theorem tw_171 : (Jvm.Cond.fieldLinkNest "SumsThatDiffer$Told" (67 : Nat) "SumsThatDiffer$County" "now" "LSumsThatDiffer$Standing;" "SumsThatDiffer") ∈ NB := nb_in 171 (by decide +kernel) rfl
theorem tw_172 : (Jvm.Cond.fieldLinkNest "SumsThatDiffer" (131 : Nat) "SumsThatDiffer$County" "now" "LSumsThatDiffer$Standing;" "SumsThatDiffer") ∈ NB := nb_in 172 (by decide +kernel) rfl
theorem tw_173 : (Jvm.Cond.fieldLinkNest "SumsThatDiffer$Reading" (83 : Nat) "SumsThatDiffer$County" "now" "LSumsThatDiffer$Standing;" "SumsThatDiffer") ∈ NB := nb_in 173 (by decide +kernel) rfl
theorem tw_174 : (Jvm.Cond.fieldLink "SumsThatDiffer$County" (18 : Nat) "SumsThatDiffer$County" "kinds" "[I") ∈ TB := tb_in 174 (by decide +kernel) rfl
theorem tw_175 : (Jvm.Cond.fieldLink "SumsThatDiffer$County" (22 : Nat) "SumsThatDiffer$County" "starts" "[I") ∈ TB := tb_in 175 (by decide +kernel) rfl
theorem tw_176 : (Jvm.Cond.fieldLink "SumsThatDiffer$County" (25 : Nat) "SumsThatDiffer$County" "ends" "[I") ∈ TB := tb_in 176 (by decide +kernel) rfl
theorem tw_177 : (Jvm.Cond.fieldLink "SumsThatDiffer$County" (28 : Nat) "SumsThatDiffer$County" "plan" "[I") ∈ TB := tb_in 177 (by decide +kernel) rfl
theorem tw_178 : (Jvm.Cond.fieldLink "SumsThatDiffer$County" (31 : Nat) "SumsThatDiffer$County" "places" "I") ∈ TB := tb_in 178 (by decide +kernel) rfl
theorem tw_179 : (Jvm.Cond.fieldLink "SumsThatDiffer$County" (35 : Nat) "SumsThatDiffer$County" "roads" "I") ∈ TB := tb_in 179 (by decide +kernel) rfl
theorem tw_180 : (Jvm.Cond.fieldLink "SumsThatDiffer$County" (38 : Nat) "SumsThatDiffer$County" "steps" "I") ∈ TB := tb_in 180 (by decide +kernel) rfl
theorem tw_181 : (Jvm.Cond.laysFinal "SumsThatDiffer$County" "SumsThatDiffer$County" "now" "LSumsThatDiffer$Standing;") ∈ TB := tb_in 181 (by decide +kernel) rfl
theorem tw_183 : (Jvm.Cond.laysFinal "SumsThatDiffer$County" "SumsThatDiffer$County" "kinds" "[I") ∈ TB := tb_in 183 (by decide +kernel) rfl
theorem tw_185 : (Jvm.Cond.laysFinal "SumsThatDiffer$County" "SumsThatDiffer$County" "starts" "[I") ∈ TB := tb_in 185 (by decide +kernel) rfl
theorem tw_187 : (Jvm.Cond.laysFinal "SumsThatDiffer$County" "SumsThatDiffer$County" "ends" "[I") ∈ TB := tb_in 187 (by decide +kernel) rfl
theorem tw_189 : (Jvm.Cond.laysFinal "SumsThatDiffer$County" "SumsThatDiffer$County" "plan" "[I") ∈ TB := tb_in 189 (by decide +kernel) rfl
theorem tw_191 : (Jvm.Cond.lays "SumsThatDiffer$County" "SumsThatDiffer$County" "places" "I") ∈ TB := tb_in 191 (by decide +kernel) rfl
theorem tw_193 : (Jvm.Cond.lays "SumsThatDiffer$County" "SumsThatDiffer$County" "roads" "I") ∈ TB := tb_in 193 (by decide +kernel) rfl
theorem tw_195 : (Jvm.Cond.lays "SumsThatDiffer$County" "SumsThatDiffer$County" "steps" "I") ∈ TB := tb_in 195 (by decide +kernel) rfl
theorem tw_198 : (Jvm.Cond.fieldLink "SumsThatDiffer$Reading" (12 : Nat) "SumsThatDiffer$Reading" "county" "LSumsThatDiffer$County;") ∈ TB := tb_in 198 (by decide +kernel) rfl
theorem tw_199 : (Jvm.Cond.fieldLinkNest "SumsThatDiffer" (298 : Nat) "SumsThatDiffer$Reading" "county" "LSumsThatDiffer$County;" "SumsThatDiffer") ∈ NB := nb_in 199 (by decide +kernel) rfl
theorem tw_200 : (Jvm.Cond.fieldLink "SumsThatDiffer$Reading" (18 : Nat) "SumsThatDiffer$Reading" "numbers" "[I") ∈ TB := tb_in 200 (by decide +kernel) rfl
theorem tw_201 : (Jvm.Cond.fieldLink "SumsThatDiffer$Reading" (29 : Nat) "SumsThatDiffer$Reading" "place" "I") ∈ TB := tb_in 201 (by decide +kernel) rfl
theorem tw_202 : (Jvm.Cond.fieldLink "SumsThatDiffer$Reading" (25 : Nat) "SumsThatDiffer$Reading" "onlyPlacesTold" "Z") ∈ TB := tb_in 202 (by decide +kernel) rfl
theorem tw_203 : (Jvm.Cond.laysFinal "SumsThatDiffer$Reading" "SumsThatDiffer$Reading" "county" "LSumsThatDiffer$County;") ∈ TB := tb_in 203 (by decide +kernel) rfl
theorem tw_205 : (Jvm.Cond.laysFinal "SumsThatDiffer$Reading" "SumsThatDiffer$Reading" "numbers" "[I") ∈ TB := tb_in 205 (by decide +kernel) rfl
theorem tw_207 : (Jvm.Cond.lays "SumsThatDiffer$Reading" "SumsThatDiffer$Reading" "place" "I") ∈ TB := tb_in 207 (by decide +kernel) rfl
theorem tw_209 : (Jvm.Cond.lays "SumsThatDiffer$Reading" "SumsThatDiffer$Reading" "onlyPlacesTold" "Z") ∈ TB := tb_in 209 (by decide +kernel) rfl
theorem tw_219 : (Jvm.Cond.methodLink "SumsThatDiffer$Pile" (1 : Nat) ({ cls := "java/lang/Object", name := "<init>", desc := "()V" } : Jvm.MethodName)) ∈ TB := tb_in 219 (by decide +kernel) rfl
theorem tw_220 : (Jvm.Cond.classLink "SumsThatDiffer$Pile" (7 : Nat) "SumsThatDiffer$Standing") ∈ TB := tb_in 220 (by decide +kernel) rfl
theorem tw_222 : (Jvm.Cond.methodLinkNest "SumsThatDiffer$Pile" (15 : Nat) ({ cls := "SumsThatDiffer$Standing", name := "<init>", desc := "()V" } : Jvm.MethodName) "SumsThatDiffer") ∈ NB := nb_in 222 (by decide +kernel) rfl
theorem tw_223 : (Jvm.Cond.fieldLink "SumsThatDiffer$Pile" (9 : Nat) "SumsThatDiffer$Pile" "rows" "[LSumsThatDiffer$Standing;") ∈ TB := tb_in 223 (by decide +kernel) rfl
theorem tw_224 : (Jvm.Cond.fieldLink "SumsThatDiffer$Pile" (16 : Nat) "SumsThatDiffer$Pile" "size" "I") ∈ TB := tb_in 224 (by decide +kernel) rfl
theorem tw_225 : (Jvm.Cond.laysFinal "SumsThatDiffer$Pile" "SumsThatDiffer$Pile" "rows" "[LSumsThatDiffer$Standing;") ∈ TB := tb_in 225 (by decide +kernel) rfl
theorem tw_227 : (Jvm.Cond.lays "SumsThatDiffer$Pile" "SumsThatDiffer$Pile" "size" "I") ∈ TB := tb_in 227 (by decide +kernel) rfl
theorem tw_235 : (Jvm.Cond.methodLink "SumsThatDiffer$Walker" (1 : Nat) ({ cls := "java/lang/Object", name := "<init>", desc := "()V" } : Jvm.MethodName)) ∈ TB := tb_in 235 (by decide +kernel) rfl
theorem tw_236 : (Jvm.Cond.fieldLink "SumsThatDiffer$Walker" (7 : Nat) "SumsThatDiffer$Walker" "county" "LSumsThatDiffer$County;") ∈ TB := tb_in 236 (by decide +kernel) rfl
theorem tw_237 : (Jvm.Cond.fieldLink "SumsThatDiffer$Walker" (25 : Nat) "SumsThatDiffer$Walker" "place" "I") ∈ TB := tb_in 237 (by decide +kernel) rfl
theorem tw_238 : (Jvm.Cond.fieldLinkNest "SumsThatDiffer" (164 : Nat) "SumsThatDiffer$Walker" "place" "I" "SumsThatDiffer") ∈ NB := nb_in 238 (by decide +kernel) rfl
theorem tw_239 : (Jvm.Cond.fieldLink "SumsThatDiffer$Walker" (29 : Nat) "SumsThatDiffer$Walker" "sum" "I") ∈ TB := tb_in 239 (by decide +kernel) rfl
theorem tw_240 : (Jvm.Cond.fieldLinkNest "SumsThatDiffer" (165 : Nat) "SumsThatDiffer$Walker" "sum" "I" "SumsThatDiffer") ∈ NB := nb_in 240 (by decide +kernel) rfl
theorem tw_241 : (Jvm.Cond.fieldLink "SumsThatDiffer$Walker" (30 : Nat) "SumsThatDiffer$Walker" "changes" "I") ∈ TB := tb_in 241 (by decide +kernel) rfl
theorem tw_242 : (Jvm.Cond.fieldLinkNest "SumsThatDiffer" (270 : Nat) "SumsThatDiffer$Walker" "changes" "I" "SumsThatDiffer") ∈ NB := nb_in 242 (by decide +kernel) rfl
theorem tw_243 : (Jvm.Cond.fieldLink "SumsThatDiffer$Walker" (33 : Nat) "SumsThatDiffer$Walker" "crossed" "I") ∈ TB := tb_in 243 (by decide +kernel) rfl
theorem tw_244 : (Jvm.Cond.fieldLinkNest "SumsThatDiffer" (288 : Nat) "SumsThatDiffer$Walker" "crossed" "I" "SumsThatDiffer") ∈ NB := nb_in 244 (by decide +kernel) rfl
theorem tw_245 : (Jvm.Cond.laysFinal "SumsThatDiffer$Walker" "SumsThatDiffer$Walker" "county" "LSumsThatDiffer$County;") ∈ TB := tb_in 245 (by decide +kernel) rfl
theorem tw_247 : (Jvm.Cond.lays "SumsThatDiffer$Walker" "SumsThatDiffer$Walker" "place" "I") ∈ TB := tb_in 247 (by decide +kernel) rfl
theorem tw_249 : (Jvm.Cond.lays "SumsThatDiffer$Walker" "SumsThatDiffer$Walker" "sum" "I") ∈ TB := tb_in 249 (by decide +kernel) rfl
theorem tw_251 : (Jvm.Cond.lays "SumsThatDiffer$Walker" "SumsThatDiffer$Walker" "changes" "I") ∈ TB := tb_in 251 (by decide +kernel) rfl
theorem tw_253 : (Jvm.Cond.lays "SumsThatDiffer$Walker" "SumsThatDiffer$Walker" "crossed" "I") ∈ TB := tb_in 253 (by decide +kernel) rfl
theorem tw_261 : (Jvm.Cond.methodLink "SumsThatDiffer$Climb" (3 : Nat) ({ cls := "java/lang/Object", name := "<init>", desc := "()V" } : Jvm.MethodName)) ∈ TB := tb_in 261 (by decide +kernel) rfl
theorem tw_262 : (Jvm.Cond.fieldLink "SumsThatDiffer$Climb" (21 : Nat) "SumsThatDiffer$Climb" "county" "LSumsThatDiffer$County;") ∈ TB := tb_in 262 (by decide +kernel) rfl
theorem tw_263 : (Jvm.Cond.fieldLink "SumsThatDiffer$Climb" (9 : Nat) "SumsThatDiffer$Climb" "row" "[I") ∈ TB := tb_in 263 (by decide +kernel) rfl
theorem tw_264 : (Jvm.Cond.fieldLinkNest "SumsThatDiffer" (215 : Nat) "SumsThatDiffer$Climb" "row" "[I" "SumsThatDiffer") ∈ NB := nb_in 264 (by decide +kernel) rfl
theorem tw_265 : (Jvm.Cond.fieldLink "SumsThatDiffer$Climb" (15 : Nat) "SumsThatDiffer$Climb" "best" "[I") ∈ TB := tb_in 265 (by decide +kernel) rfl
theorem tw_266 : (Jvm.Cond.fieldLink "SumsThatDiffer$Climb" (18 : Nat) "SumsThatDiffer$Climb" "next" "[I") ∈ TB := tb_in 266 (by decide +kernel) rfl
theorem tw_267 : (Jvm.Cond.fieldLink "SumsThatDiffer$Climb" (44 : Nat) "SumsThatDiffer$Climb" "highest" "I") ∈ TB := tb_in 267 (by decide +kernel) rfl
theorem tw_268 : (Jvm.Cond.fieldLinkNest "SumsThatDiffer" (202 : Nat) "SumsThatDiffer$Climb" "highest" "I" "SumsThatDiffer") ∈ NB := nb_in 268 (by decide +kernel) rfl
theorem tw_269 : (Jvm.Cond.fieldLink "SumsThatDiffer$Climb" (47 : Nat) "SumsThatDiffer$Climb" "crossings" "I") ∈ TB := tb_in 269 (by decide +kernel) rfl
theorem tw_270 : (Jvm.Cond.fieldLinkNest "SumsThatDiffer" (205 : Nat) "SumsThatDiffer$Climb" "crossings" "I" "SumsThatDiffer") ∈ NB := nb_in 270 (by decide +kernel) rfl
theorem tw_271 : (Jvm.Cond.laysFinal "SumsThatDiffer$Climb" "SumsThatDiffer$Climb" "county" "LSumsThatDiffer$County;") ∈ TB := tb_in 271 (by decide +kernel) rfl
theorem tw_273 : (Jvm.Cond.laysFinal "SumsThatDiffer$Climb" "SumsThatDiffer$Climb" "row" "[I") ∈ TB := tb_in 273 (by decide +kernel) rfl
theorem tw_275 : (Jvm.Cond.lays "SumsThatDiffer$Climb" "SumsThatDiffer$Climb" "best" "[I") ∈ TB := tb_in 275 (by decide +kernel) rfl
theorem tw_277 : (Jvm.Cond.lays "SumsThatDiffer$Climb" "SumsThatDiffer$Climb" "next" "[I") ∈ TB := tb_in 277 (by decide +kernel) rfl
theorem tw_279 : (Jvm.Cond.lays "SumsThatDiffer$Climb" "SumsThatDiffer$Climb" "highest" "I") ∈ TB := tb_in 279 (by decide +kernel) rfl
theorem tw_281 : (Jvm.Cond.lays "SumsThatDiffer$Climb" "SumsThatDiffer$Climb" "crossings" "I") ∈ TB := tb_in 281 (by decide +kernel) rfl
theorem tw_289 : (Jvm.Cond.methodLink "SumsThatDiffer$Heights" (3 : Nat) ({ cls := "java/lang/Object", name := "<init>", desc := "()V" } : Jvm.MethodName)) ∈ TB := tb_in 289 (by decide +kernel) rfl
theorem tw_290 : (Jvm.Cond.fieldLink "SumsThatDiffer$Heights" (18 : Nat) "SumsThatDiffer$Heights" "county" "LSumsThatDiffer$County;") ∈ TB := tb_in 290 (by decide +kernel) rfl
theorem tw_291 : (Jvm.Cond.fieldLink "SumsThatDiffer$Heights" (9 : Nat) "SumsThatDiffer$Heights" "lowest" "[I") ∈ TB := tb_in 291 (by decide +kernel) rfl
theorem tw_292 : (Jvm.Cond.fieldLink "SumsThatDiffer$Heights" (15 : Nat) "SumsThatDiffer$Heights" "height" "[I") ∈ TB := tb_in 292 (by decide +kernel) rfl
theorem tw_293 : (Jvm.Cond.laysFinal "SumsThatDiffer$Heights" "SumsThatDiffer$Heights" "county" "LSumsThatDiffer$County;") ∈ TB := tb_in 293 (by decide +kernel) rfl
theorem tw_295 : (Jvm.Cond.laysFinal "SumsThatDiffer$Heights" "SumsThatDiffer$Heights" "lowest" "[I") ∈ TB := tb_in 295 (by decide +kernel) rfl
theorem tw_297 : (Jvm.Cond.laysFinal "SumsThatDiffer$Heights" "SumsThatDiffer$Heights" "height" "[I") ∈ TB := tb_in 297 (by decide +kernel) rfl
theorem tw_305 : (Jvm.Cond.methodLink "SumsThatDiffer$Rings" (3 : Nat) ({ cls := "java/lang/Object", name := "<init>", desc := "()V" } : Jvm.MethodName)) ∈ TB := tb_in 305 (by decide +kernel) rfl
theorem tw_306 : (Jvm.Cond.fieldLink "SumsThatDiffer$Rings" (24 : Nat) "SumsThatDiffer$Rings" "county" "LSumsThatDiffer$County;") ∈ TB := tb_in 306 (by decide +kernel) rfl
theorem tw_307 : (Jvm.Cond.fieldLink "SumsThatDiffer$Rings" (9 : Nat) "SumsThatDiffer$Rings" "most" "[I") ∈ TB := tb_in 307 (by decide +kernel) rfl
theorem tw_308 : (Jvm.Cond.fieldLink "SumsThatDiffer$Rings" (15 : Nat) "SumsThatDiffer$Rings" "least" "[I") ∈ TB := tb_in 308 (by decide +kernel) rfl
theorem tw_309 : (Jvm.Cond.fieldLink "SumsThatDiffer$Rings" (18 : Nat) "SumsThatDiffer$Rings" "nextMost" "[I") ∈ TB := tb_in 309 (by decide +kernel) rfl
theorem tw_310 : (Jvm.Cond.fieldLink "SumsThatDiffer$Rings" (21 : Nat) "SumsThatDiffer$Rings" "nextLeast" "[I") ∈ TB := tb_in 310 (by decide +kernel) rfl
theorem tw_311 : (Jvm.Cond.fieldLink "SumsThatDiffer$Rings" (42 : Nat) "SumsThatDiffer$Rings" "reached" "I") ∈ TB := tb_in 311 (by decide +kernel) rfl
theorem tw_312 : (Jvm.Cond.fieldLink "SumsThatDiffer$Rings" (51 : Nat) "SumsThatDiffer$Rings" "nextReached" "I") ∈ TB := tb_in 312 (by decide +kernel) rfl
theorem tw_313 : (Jvm.Cond.fieldLink "SumsThatDiffer$Rings" (28 : Nat) "SumsThatDiffer$Rings" "length" "I") ∈ TB := tb_in 313 (by decide +kernel) rfl
theorem tw_314 : (Jvm.Cond.fieldLinkNest "SumsThatDiffer" (230 : Nat) "SumsThatDiffer$Rings" "length" "I" "SumsThatDiffer") ∈ NB := nb_in 314 (by decide +kernel) rfl
theorem tw_315 : (Jvm.Cond.fieldLink "SumsThatDiffer$Rings" (48 : Nat) "SumsThatDiffer$Rings" "start" "I") ∈ TB := tb_in 315 (by decide +kernel) rfl
theorem tw_316 : (Jvm.Cond.fieldLinkNest "SumsThatDiffer" (232 : Nat) "SumsThatDiffer$Rings" "start" "I" "SumsThatDiffer") ∈ NB := nb_in 316 (by decide +kernel) rfl
theorem tw_317 : (Jvm.Cond.laysFinal "SumsThatDiffer$Rings" "SumsThatDiffer$Rings" "county" "LSumsThatDiffer$County;") ∈ TB := tb_in 317 (by decide +kernel) rfl
theorem tw_319 : (Jvm.Cond.lays "SumsThatDiffer$Rings" "SumsThatDiffer$Rings" "most" "[I") ∈ TB := tb_in 319 (by decide +kernel) rfl
theorem tw_321 : (Jvm.Cond.lays "SumsThatDiffer$Rings" "SumsThatDiffer$Rings" "least" "[I") ∈ TB := tb_in 321 (by decide +kernel) rfl
theorem tw_323 : (Jvm.Cond.lays "SumsThatDiffer$Rings" "SumsThatDiffer$Rings" "nextMost" "[I") ∈ TB := tb_in 323 (by decide +kernel) rfl
theorem tw_325 : (Jvm.Cond.lays "SumsThatDiffer$Rings" "SumsThatDiffer$Rings" "nextLeast" "[I") ∈ TB := tb_in 325 (by decide +kernel) rfl
theorem tw_327 : (Jvm.Cond.lays "SumsThatDiffer$Rings" "SumsThatDiffer$Rings" "reached" "I") ∈ TB := tb_in 327 (by decide +kernel) rfl
theorem tw_329 : (Jvm.Cond.lays "SumsThatDiffer$Rings" "SumsThatDiffer$Rings" "nextReached" "I") ∈ TB := tb_in 329 (by decide +kernel) rfl
theorem tw_331 : (Jvm.Cond.lays "SumsThatDiffer$Rings" "SumsThatDiffer$Rings" "length" "I") ∈ TB := tb_in 331 (by decide +kernel) rfl
theorem tw_333 : (Jvm.Cond.lays "SumsThatDiffer$Rings" "SumsThatDiffer$Rings" "start" "I") ∈ TB := tb_in 333 (by decide +kernel) rfl
theorem tw_341 : (Jvm.Cond.methodLink "SumsThatDiffer$Told" (3 : Nat) ({ cls := "java/lang/Object", name := "<init>", desc := "()V" } : Jvm.MethodName)) ∈ TB := tb_in 341 (by decide +kernel) rfl
theorem tw_342 : (Jvm.Cond.fieldLink "SumsThatDiffer$Told" (43 : Nat) "SumsThatDiffer$Told" "county" "LSumsThatDiffer$County;") ∈ TB := tb_in 342 (by decide +kernel) rfl
theorem tw_343 : (Jvm.Cond.fieldLink "SumsThatDiffer$Told" (9 : Nat) "SumsThatDiffer$Told" "places" "[I") ∈ TB := tb_in 343 (by decide +kernel) rfl
theorem tw_344 : (Jvm.Cond.fieldLink "SumsThatDiffer$Told" (15 : Nat) "SumsThatDiffer$Told" "sums" "[I") ∈ TB := tb_in 344 (by decide +kernel) rfl
theorem tw_345 : (Jvm.Cond.fieldLink "SumsThatDiffer$Told" (18 : Nat) "SumsThatDiffer$Told" "firsts" "[I") ∈ TB := tb_in 345 (by decide +kernel) rfl
theorem tw_346 : (Jvm.Cond.fieldLink "SumsThatDiffer$Told" (21 : Nat) "SumsThatDiffer$Told" "seconds" "[I") ∈ TB := tb_in 346 (by decide +kernel) rfl
theorem tw_347 : (Jvm.Cond.fieldLink "SumsThatDiffer$Told" (24 : Nat) "SumsThatDiffer$Told" "comes" "[I") ∈ TB := tb_in 347 (by decide +kernel) rfl
theorem tw_348 : (Jvm.Cond.fieldLink "SumsThatDiffer$Told" (47 : Nat) "SumsThatDiffer$Told" "size" "I") ∈ TB := tb_in 348 (by decide +kernel) rfl
theorem tw_349 : (Jvm.Cond.fieldLink "SumsThatDiffer$Told" (27 : Nat) "SumsThatDiffer$Told" "ways" "[I") ∈ TB := tb_in 349 (by decide +kernel) rfl
theorem tw_350 : (Jvm.Cond.fieldLink "SumsThatDiffer$Told" (30 : Nat) "SumsThatDiffer$Told" "fSuits" "[Z") ∈ TB := tb_in 350 (by decide +kernel) rfl
theorem tw_351 : (Jvm.Cond.fieldLink "SumsThatDiffer$Told" (34 : Nat) "SumsThatDiffer$Told" "gSuits" "[Z") ∈ TB := tb_in 351 (by decide +kernel) rfl
theorem tw_352 : (Jvm.Cond.fieldLink "SumsThatDiffer$Told" (37 : Nat) "SumsThatDiffer$Told" "fCanBe" "[Z") ∈ TB := tb_in 352 (by decide +kernel) rfl
theorem tw_353 : (Jvm.Cond.fieldLink "SumsThatDiffer$Told" (40 : Nat) "SumsThatDiffer$Told" "gCanBe" "[Z") ∈ TB := tb_in 353 (by decide +kernel) rfl
theorem tw_354 : (Jvm.Cond.fieldLink "SumsThatDiffer$Told" (101 : Nat) "SumsThatDiffer$Told" "supposedRoad" "I") ∈ TB := tb_in 354 (by decide +kernel) rfl
theorem tw_355 : (Jvm.Cond.fieldLink "SumsThatDiffer$Told" (111 : Nat) "SumsThatDiffer$Told" "supposedF" "I") ∈ TB := tb_in 355 (by decide +kernel) rfl
theorem tw_356 : (Jvm.Cond.fieldLink "SumsThatDiffer$Told" (114 : Nat) "SumsThatDiffer$Told" "supposedG" "I") ∈ TB := tb_in 356 (by decide +kernel) rfl
theorem tw_357 : (Jvm.Cond.fieldLink "SumsThatDiffer$Told" (84 : Nat) "SumsThatDiffer$Told" "walkRoad" "I") ∈ TB := tb_in 357 (by decide +kernel) rfl
theorem tw_358 : (Jvm.Cond.fieldLinkNest "SumsThatDiffer" (264 : Nat) "SumsThatDiffer$Told" "walkRoad" "I" "SumsThatDiffer") ∈ NB := nb_in 358 (by decide +kernel) rfl
theorem tw_359 : (Jvm.Cond.fieldLink "SumsThatDiffer$Told" (64 : Nat) "SumsThatDiffer$Told" "walkSums" "I") ∈ TB := tb_in 359 (by decide +kernel) rfl
theorem tw_360 : (Jvm.Cond.fieldLinkNest "SumsThatDiffer" (267 : Nat) "SumsThatDiffer$Told" "walkSums" "I" "SumsThatDiffer") ∈ NB := nb_in 360 (by decide +kernel) rfl
theorem tw_361 : (Jvm.Cond.laysFinal "SumsThatDiffer$Told" "SumsThatDiffer$Told" "county" "LSumsThatDiffer$County;") ∈ TB := tb_in 361 (by decide +kernel) rfl
theorem tw_363 : (Jvm.Cond.laysFinal "SumsThatDiffer$Told" "SumsThatDiffer$Told" "places" "[I") ∈ TB := tb_in 363 (by decide +kernel) rfl
theorem tw_365 : (Jvm.Cond.laysFinal "SumsThatDiffer$Told" "SumsThatDiffer$Told" "sums" "[I") ∈ TB := tb_in 365 (by decide +kernel) rfl
theorem tw_367 : (Jvm.Cond.laysFinal "SumsThatDiffer$Told" "SumsThatDiffer$Told" "firsts" "[I") ∈ TB := tb_in 367 (by decide +kernel) rfl
theorem tw_369 : (Jvm.Cond.laysFinal "SumsThatDiffer$Told" "SumsThatDiffer$Told" "seconds" "[I") ∈ TB := tb_in 369 (by decide +kernel) rfl
theorem tw_371 : (Jvm.Cond.laysFinal "SumsThatDiffer$Told" "SumsThatDiffer$Told" "comes" "[I") ∈ TB := tb_in 371 (by decide +kernel) rfl
theorem tw_373 : (Jvm.Cond.lays "SumsThatDiffer$Told" "SumsThatDiffer$Told" "size" "I") ∈ TB := tb_in 373 (by decide +kernel) rfl
theorem tw_375 : (Jvm.Cond.laysFinal "SumsThatDiffer$Told" "SumsThatDiffer$Told" "ways" "[I") ∈ TB := tb_in 375 (by decide +kernel) rfl
theorem tw_377 : (Jvm.Cond.laysFinal "SumsThatDiffer$Told" "SumsThatDiffer$Told" "fSuits" "[Z") ∈ TB := tb_in 377 (by decide +kernel) rfl
theorem tw_379 : (Jvm.Cond.laysFinal "SumsThatDiffer$Told" "SumsThatDiffer$Told" "gSuits" "[Z") ∈ TB := tb_in 379 (by decide +kernel) rfl
theorem tw_381 : (Jvm.Cond.laysFinal "SumsThatDiffer$Told" "SumsThatDiffer$Told" "fCanBe" "[Z") ∈ TB := tb_in 381 (by decide +kernel) rfl
theorem tw_383 : (Jvm.Cond.laysFinal "SumsThatDiffer$Told" "SumsThatDiffer$Told" "gCanBe" "[Z") ∈ TB := tb_in 383 (by decide +kernel) rfl
theorem tw_385 : (Jvm.Cond.lays "SumsThatDiffer$Told" "SumsThatDiffer$Told" "supposedRoad" "I") ∈ TB := tb_in 385 (by decide +kernel) rfl
theorem tw_387 : (Jvm.Cond.lays "SumsThatDiffer$Told" "SumsThatDiffer$Told" "supposedF" "I") ∈ TB := tb_in 387 (by decide +kernel) rfl
theorem tw_389 : (Jvm.Cond.lays "SumsThatDiffer$Told" "SumsThatDiffer$Told" "supposedG" "I") ∈ TB := tb_in 389 (by decide +kernel) rfl
theorem tw_391 : (Jvm.Cond.lays "SumsThatDiffer$Told" "SumsThatDiffer$Told" "walkRoad" "I") ∈ TB := tb_in 391 (by decide +kernel) rfl
theorem tw_393 : (Jvm.Cond.lays "SumsThatDiffer$Told" "SumsThatDiffer$Told" "walkSums" "I") ∈ TB := tb_in 393 (by decide +kernel) rfl
theorem tw_396 : (Jvm.Cond.arrayClass Jvm.ClassFile.FieldType.boolean) ∈ TB := tb_in 396 (by decide +kernel) rfl
theorem tw_402 : (Jvm.Cond.methodLink "SumsThatDiffer$Weather" (3 : Nat) ({ cls := "java/lang/Object", name := "<init>", desc := "()V" } : Jvm.MethodName)) ∈ TB := tb_in 402 (by decide +kernel) rfl
theorem tw_403 : (Jvm.Cond.fieldLink "SumsThatDiffer$Weather" (15 : Nat) "SumsThatDiffer$Weather" "county" "LSumsThatDiffer$County;") ∈ TB := tb_in 403 (by decide +kernel) rfl
theorem tw_404 : (Jvm.Cond.fieldLink "SumsThatDiffer$Weather" (9 : Nat) "SumsThatDiffer$Weather" "setsBySize" "[I") ∈ TB := tb_in 404 (by decide +kernel) rfl
theorem tw_405 : (Jvm.Cond.fieldLink "SumsThatDiffer$Weather" (35 : Nat) "SumsThatDiffer$Weather" "above" "J") ∈ TB := tb_in 405 (by decide +kernel) rfl
theorem tw_406 : (Jvm.Cond.fieldLinkNest "SumsThatDiffer" (277 : Nat) "SumsThatDiffer$Weather" "above" "J" "SumsThatDiffer") ∈ NB := nb_in 406 (by decide +kernel) rfl
theorem tw_407 : (Jvm.Cond.fieldLink "SumsThatDiffer$Weather" (43 : Nat) "SumsThatDiffer$Weather" "below" "J") ∈ TB := tb_in 407 (by decide +kernel) rfl
theorem tw_408 : (Jvm.Cond.fieldLinkNest "SumsThatDiffer" (281 : Nat) "SumsThatDiffer$Weather" "below" "J" "SumsThatDiffer") ∈ NB := nb_in 408 (by decide +kernel) rfl
theorem tw_409 : (Jvm.Cond.laysFinal "SumsThatDiffer$Weather" "SumsThatDiffer$Weather" "county" "LSumsThatDiffer$County;") ∈ TB := tb_in 409 (by decide +kernel) rfl
theorem tw_411 : (Jvm.Cond.laysFinal "SumsThatDiffer$Weather" "SumsThatDiffer$Weather" "setsBySize" "[I") ∈ TB := tb_in 411 (by decide +kernel) rfl
theorem tw_413 : (Jvm.Cond.lays "SumsThatDiffer$Weather" "SumsThatDiffer$Weather" "above" "J") ∈ TB := tb_in 413 (by decide +kernel) rfl
theorem tw_415 : (Jvm.Cond.lays "SumsThatDiffer$Weather" "SumsThatDiffer$Weather" "below" "J") ∈ TB := tb_in 415 (by decide +kernel) rfl
theorem tw_467 : (Jvm.Cond.methodLink "SumsThatDiffer" (98 : Nat) ({ cls := "SumsThatDiffer$Letters", name := "append", desc := "(C)Z" } : Jvm.MethodName)) ∈ TB := tb_in 467 (by decide +kernel) rfl
theorem tw_468 : (Jvm.Cond.instanceMethod ({ cls := "SumsThatDiffer$Letters", name := "append", desc := "(C)Z" } : Jvm.MethodName)) ∈ TB := tb_in 468 (by decide +kernel) rfl
theorem tw_469 : (Jvm.Cond.selects "SumsThatDiffer$Letters" ({ cls := "SumsThatDiffer$Letters", name := "append", desc := "(C)Z" } : Jvm.MethodName) ({ cls := "SumsThatDiffer$Letters", name := "append", desc := "(C)Z" } : Jvm.MethodName)) ∈ TB := tb_in 469 (by decide +kernel) rfl
theorem tw_470 : (Jvm.Cond.code ({ cls := "SumsThatDiffer$Letters", name := "append", desc := "(C)Z" } : Jvm.MethodName) prog_5_method_2_code (2 : Nat) (Option.some Jvm.ClassFile.FieldType.boolean)) ∈ TB := tb_in 470 (by decide +kernel) rfl
theorem tw_471 : (Jvm.Cond.methodLink "SumsThatDiffer" (102 : Nat) ({ cls := "SumsThatDiffer", name := "layLetters", desc := "()Z" } : Jvm.MethodName)) ∈ TB := tb_in 471 (by decide +kernel) rfl
theorem tw_473 : (Jvm.Cond.instanceMethod ({ cls := "SumsThatDiffer", name := "layLetters", desc := "()Z" } : Jvm.MethodName)) ∈ TB := tb_in 473 (by decide +kernel) rfl
theorem tw_474 : (Jvm.Cond.code ({ cls := "SumsThatDiffer", name := "layLetters", desc := "()Z" } : Jvm.MethodName) prog_1_method_30_code (1 : Nat) (Option.some Jvm.ClassFile.FieldType.boolean)) ∈ TB := tb_in 474 (by decide +kernel) rfl
theorem tw_475 : (Jvm.Cond.methodLink "SumsThatDiffer" (109 : Nat) ({ cls := "SumsThatDiffer$Letters", name := "length", desc := "()I" } : Jvm.MethodName)) ∈ TB := tb_in 475 (by decide +kernel) rfl
theorem tw_476 : (Jvm.Cond.instanceMethod ({ cls := "SumsThatDiffer$Letters", name := "length", desc := "()I" } : Jvm.MethodName)) ∈ TB := tb_in 476 (by decide +kernel) rfl
theorem tw_477 : (Jvm.Cond.selects "SumsThatDiffer$Letters" ({ cls := "SumsThatDiffer$Letters", name := "length", desc := "()I" } : Jvm.MethodName) ({ cls := "SumsThatDiffer$Letters", name := "length", desc := "()I" } : Jvm.MethodName)) ∈ TB := tb_in 477 (by decide +kernel) rfl
theorem tw_478 : (Jvm.Cond.code ({ cls := "SumsThatDiffer$Letters", name := "length", desc := "()I" } : Jvm.MethodName) prog_5_method_4_code (1 : Nat) (Option.some Jvm.ClassFile.FieldType.int)) ∈ TB := tb_in 478 (by decide +kernel) rfl
theorem tw_479 : (Jvm.Cond.methodLink "SumsThatDiffer" (110 : Nat) ({ cls := "SumsThatDiffer$Reading", name := "firstFault", desc := "(LSumsThatDiffer$Letters;)I" } : Jvm.MethodName)) ∈ TB := tb_in 479 (by decide +kernel) rfl
theorem tw_480 : (Jvm.Cond.instanceMethod ({ cls := "SumsThatDiffer$Reading", name := "firstFault", desc := "(LSumsThatDiffer$Letters;)I" } : Jvm.MethodName)) ∈ TB := tb_in 480 (by decide +kernel) rfl
theorem tw_481 : (Jvm.Cond.selects "SumsThatDiffer$Reading" ({ cls := "SumsThatDiffer$Reading", name := "firstFault", desc := "(LSumsThatDiffer$Letters;)I" } : Jvm.MethodName) ({ cls := "SumsThatDiffer$Reading", name := "firstFault", desc := "(LSumsThatDiffer$Letters;)I" } : Jvm.MethodName)) ∈ TB := tb_in 481 (by decide +kernel) rfl
theorem tw_482 : (Jvm.Cond.code ({ cls := "SumsThatDiffer$Reading", name := "firstFault", desc := "(LSumsThatDiffer$Letters;)I" } : Jvm.MethodName) prog_7_method_2_code (4 : Nat) (Option.some Jvm.ClassFile.FieldType.int)) ∈ TB := tb_in 482 (by decide +kernel) rfl
theorem tw_483 : (Jvm.Cond.methodLink "SumsThatDiffer$Reading" (22 : Nat) ({ cls := "SumsThatDiffer$County", name := "clear", desc := "()V" } : Jvm.MethodName)) ∈ TB := tb_in 483 (by decide +kernel) rfl
theorem tw_484 : (Jvm.Cond.instanceMethod ({ cls := "SumsThatDiffer$County", name := "clear", desc := "()V" } : Jvm.MethodName)) ∈ TB := tb_in 484 (by decide +kernel) rfl
theorem tw_485 : (Jvm.Cond.selects "SumsThatDiffer$County" ({ cls := "SumsThatDiffer$County", name := "clear", desc := "()V" } : Jvm.MethodName) ({ cls := "SumsThatDiffer$County", name := "clear", desc := "()V" } : Jvm.MethodName)) ∈ TB := tb_in 485 (by decide +kernel) rfl
theorem tw_486 : (Jvm.Cond.code ({ cls := "SumsThatDiffer$County", name := "clear", desc := "()V" } : Jvm.MethodName) prog_3_method_2_code (1 : Nat) (Option.none : Option Jvm.ClassFile.FieldType)) ∈ TB := tb_in 486 (by decide +kernel) rfl
theorem tw_487 : (Jvm.Cond.methodLink "SumsThatDiffer$Reading" (33 : Nat) ({ cls := "SumsThatDiffer$Letters", name := "length", desc := "()I" } : Jvm.MethodName)) ∈ TB := tb_in 487 (by decide +kernel) rfl
theorem tw_488 : (Jvm.Cond.methodLink "SumsThatDiffer$Reading" (39 : Nat) ({ cls := "SumsThatDiffer$Reading", name := "readItem", desc := "(LSumsThatDiffer$Letters;)Z" } : Jvm.MethodName)) ∈ TB := tb_in 488 (by decide +kernel) rfl
theorem tw_490 : (Jvm.Cond.instanceMethod ({ cls := "SumsThatDiffer$Reading", name := "readItem", desc := "(LSumsThatDiffer$Letters;)Z" } : Jvm.MethodName)) ∈ TB := tb_in 490 (by decide +kernel) rfl
theorem tw_491 : (Jvm.Cond.code ({ cls := "SumsThatDiffer$Reading", name := "readItem", desc := "(LSumsThatDiffer$Letters;)Z" } : Jvm.MethodName) prog_7_method_3_code (3 : Nat) (Option.some Jvm.ClassFile.FieldType.boolean)) ∈ TB := tb_in 491 (by decide +kernel) rfl
theorem tw_492 : (Jvm.Cond.methodLink "SumsThatDiffer$Reading" (43 : Nat) ({ cls := "SumsThatDiffer$Letters", name := "has", desc := "(IC)Z" } : Jvm.MethodName)) ∈ TB := tb_in 492 (by decide +kernel) rfl
theorem tw_493 : (Jvm.Cond.instanceMethod ({ cls := "SumsThatDiffer$Letters", name := "has", desc := "(IC)Z" } : Jvm.MethodName)) ∈ TB := tb_in 493 (by decide +kernel) rfl
theorem tw_494 : (Jvm.Cond.selects "SumsThatDiffer$Letters" ({ cls := "SumsThatDiffer$Letters", name := "has", desc := "(IC)Z" } : Jvm.MethodName) ({ cls := "SumsThatDiffer$Letters", name := "has", desc := "(IC)Z" } : Jvm.MethodName)) ∈ TB := tb_in 494 (by decide +kernel) rfl
theorem tw_495 : (Jvm.Cond.code ({ cls := "SumsThatDiffer$Letters", name := "has", desc := "(IC)Z" } : Jvm.MethodName) prog_5_method_5_code (3 : Nat) (Option.some Jvm.ClassFile.FieldType.boolean)) ∈ TB := tb_in 495 (by decide +kernel) rfl
theorem tw_496 : (Jvm.Cond.methodLink "SumsThatDiffer$Reading" (47 : Nat) ({ cls := "SumsThatDiffer$Reading", name := "readNumbers", desc := "(LSumsThatDiffer$Letters;I)Z" } : Jvm.MethodName)) ∈ TB := tb_in 496 (by decide +kernel) rfl
theorem tw_498 : (Jvm.Cond.instanceMethod ({ cls := "SumsThatDiffer$Reading", name := "readNumbers", desc := "(LSumsThatDiffer$Letters;I)Z" } : Jvm.MethodName)) ∈ TB := tb_in 498 (by decide +kernel) rfl
theorem tw_499 : (Jvm.Cond.code ({ cls := "SumsThatDiffer$Reading", name := "readNumbers", desc := "(LSumsThatDiffer$Letters;I)Z" } : Jvm.MethodName) prog_7_method_4_code (4 : Nat) (Option.some Jvm.ClassFile.FieldType.boolean)) ∈ TB := tb_in 499 (by decide +kernel) rfl
theorem tw_500 : (Jvm.Cond.methodLink "SumsThatDiffer$Reading" (66 : Nat) ({ cls := "SumsThatDiffer$Reading", name := "readNumber", desc := "(LSumsThatDiffer$Letters;I)Z" } : Jvm.MethodName)) ∈ TB := tb_in 500 (by decide +kernel) rfl
theorem tw_502 : (Jvm.Cond.instanceMethod ({ cls := "SumsThatDiffer$Reading", name := "readNumber", desc := "(LSumsThatDiffer$Letters;I)Z" } : Jvm.MethodName)) ∈ TB := tb_in 502 (by decide +kernel) rfl
theorem tw_503 : (Jvm.Cond.code ({ cls := "SumsThatDiffer$Reading", name := "readNumber", desc := "(LSumsThatDiffer$Letters;I)Z" } : Jvm.MethodName) prog_7_method_5_code (5 : Nat) (Option.some Jvm.ClassFile.FieldType.boolean)) ∈ TB := tb_in 503 (by decide +kernel) rfl
theorem tw_504 : (Jvm.Cond.methodLink "SumsThatDiffer$Reading" (69 : Nat) ({ cls := "SumsThatDiffer$Letters", name := "figureAt", desc := "(I)I" } : Jvm.MethodName)) ∈ TB := tb_in 504 (by decide +kernel) rfl
theorem tw_505 : (Jvm.Cond.instanceMethod ({ cls := "SumsThatDiffer$Letters", name := "figureAt", desc := "(I)I" } : Jvm.MethodName)) ∈ TB := tb_in 505 (by decide +kernel) rfl
theorem tw_506 : (Jvm.Cond.selects "SumsThatDiffer$Letters" ({ cls := "SumsThatDiffer$Letters", name := "figureAt", desc := "(I)I" } : Jvm.MethodName) ({ cls := "SumsThatDiffer$Letters", name := "figureAt", desc := "(I)I" } : Jvm.MethodName)) ∈ TB := tb_in 506 (by decide +kernel) rfl
theorem tw_507 : (Jvm.Cond.code ({ cls := "SumsThatDiffer$Letters", name := "figureAt", desc := "(I)I" } : Jvm.MethodName) prog_5_method_6_code (2 : Nat) (Option.some Jvm.ClassFile.FieldType.int)) ∈ TB := tb_in 507 (by decide +kernel) rfl
theorem tw_508 : (Jvm.Cond.methodLink "SumsThatDiffer$Reading" (51 : Nat) ({ cls := "SumsThatDiffer$Reading", name := "tellPlaces", desc := "(I)Z" } : Jvm.MethodName)) ∈ TB := tb_in 508 (by decide +kernel) rfl
theorem tw_510 : (Jvm.Cond.instanceMethod ({ cls := "SumsThatDiffer$Reading", name := "tellPlaces", desc := "(I)Z" } : Jvm.MethodName)) ∈ TB := tb_in 510 (by decide +kernel) rfl
theorem tw_511 : (Jvm.Cond.code ({ cls := "SumsThatDiffer$Reading", name := "tellPlaces", desc := "(I)Z" } : Jvm.MethodName) prog_7_method_6_code (2 : Nat) (Option.some Jvm.ClassFile.FieldType.boolean)) ∈ TB := tb_in 511 (by decide +kernel) rfl
theorem tw_512 : (Jvm.Cond.methodLink "SumsThatDiffer$Reading" (73 : Nat) ({ cls := "SumsThatDiffer$County", name := "setPlaces", desc := "(I)Z" } : Jvm.MethodName)) ∈ TB := tb_in 512 (by decide +kernel) rfl
theorem tw_513 : (Jvm.Cond.instanceMethod ({ cls := "SumsThatDiffer$County", name := "setPlaces", desc := "(I)Z" } : Jvm.MethodName)) ∈ TB := tb_in 513 (by decide +kernel) rfl
theorem tw_514 : (Jvm.Cond.selects "SumsThatDiffer$County" ({ cls := "SumsThatDiffer$County", name := "setPlaces", desc := "(I)Z" } : Jvm.MethodName) ({ cls := "SumsThatDiffer$County", name := "setPlaces", desc := "(I)Z" } : Jvm.MethodName)) ∈ TB := tb_in 514 (by decide +kernel) rfl
theorem tw_515 : (Jvm.Cond.code ({ cls := "SumsThatDiffer$County", name := "setPlaces", desc := "(I)Z" } : Jvm.MethodName) prog_3_method_4_code (2 : Nat) (Option.some Jvm.ClassFile.FieldType.boolean)) ∈ TB := tb_in 515 (by decide +kernel) rfl
theorem tw_516 : (Jvm.Cond.methodLink "SumsThatDiffer$Reading" (55 : Nat) ({ cls := "SumsThatDiffer$Reading", name := "tellRoad", desc := "()Z" } : Jvm.MethodName)) ∈ TB := tb_in 516 (by decide +kernel) rfl
theorem tw_518 : (Jvm.Cond.instanceMethod ({ cls := "SumsThatDiffer$Reading", name := "tellRoad", desc := "()Z" } : Jvm.MethodName)) ∈ TB := tb_in 518 (by decide +kernel) rfl
theorem tw_519 : (Jvm.Cond.code ({ cls := "SumsThatDiffer$Reading", name := "tellRoad", desc := "()Z" } : Jvm.MethodName) prog_7_method_7_code (1 : Nat) (Option.some Jvm.ClassFile.FieldType.boolean)) ∈ TB := tb_in 519 (by decide +kernel) rfl
theorem tw_520 : (Jvm.Cond.methodLink "SumsThatDiffer$Reading" (76 : Nat) ({ cls := "SumsThatDiffer$County", name := "hasPlace", desc := "(I)Z" } : Jvm.MethodName)) ∈ TB := tb_in 520 (by decide +kernel) rfl
theorem tw_521 : (Jvm.Cond.instanceMethod ({ cls := "SumsThatDiffer$County", name := "hasPlace", desc := "(I)Z" } : Jvm.MethodName)) ∈ TB := tb_in 521 (by decide +kernel) rfl
theorem tw_522 : (Jvm.Cond.selects "SumsThatDiffer$County" ({ cls := "SumsThatDiffer$County", name := "hasPlace", desc := "(I)Z" } : Jvm.MethodName) ({ cls := "SumsThatDiffer$County", name := "hasPlace", desc := "(I)Z" } : Jvm.MethodName)) ∈ TB := tb_in 522 (by decide +kernel) rfl
theorem tw_523 : (Jvm.Cond.code ({ cls := "SumsThatDiffer$County", name := "hasPlace", desc := "(I)Z" } : Jvm.MethodName) prog_3_method_14_code (2 : Nat) (Option.some Jvm.ClassFile.FieldType.boolean)) ∈ TB := tb_in 523 (by decide +kernel) rfl
theorem tw_524 : (Jvm.Cond.methodLink "SumsThatDiffer$Reading" (79 : Nat) ({ cls := "SumsThatDiffer$County", name := "addRoad", desc := "(IIIII)Z" } : Jvm.MethodName)) ∈ TB := tb_in 524 (by decide +kernel) rfl
theorem tw_525 : (Jvm.Cond.instanceMethod ({ cls := "SumsThatDiffer$County", name := "addRoad", desc := "(IIIII)Z" } : Jvm.MethodName)) ∈ TB := tb_in 525 (by decide +kernel) rfl
theorem tw_526 : (Jvm.Cond.selects "SumsThatDiffer$County" ({ cls := "SumsThatDiffer$County", name := "addRoad", desc := "(IIIII)Z" } : Jvm.MethodName) ({ cls := "SumsThatDiffer$County", name := "addRoad", desc := "(IIIII)Z" } : Jvm.MethodName)) ∈ TB := tb_in 526 (by decide +kernel) rfl
theorem tw_527 : (Jvm.Cond.code ({ cls := "SumsThatDiffer$County", name := "addRoad", desc := "(IIIII)Z" } : Jvm.MethodName) prog_3_method_5_code (6 : Nat) (Option.some Jvm.ClassFile.FieldType.boolean)) ∈ TB := tb_in 527 (by decide +kernel) rfl
theorem tw_528 : (Jvm.Cond.methodLink "SumsThatDiffer$Reading" (59 : Nat) ({ cls := "SumsThatDiffer$Reading", name := "tellStart", desc := "(II)Z" } : Jvm.MethodName)) ∈ TB := tb_in 528 (by decide +kernel) rfl
theorem tw_530 : (Jvm.Cond.instanceMethod ({ cls := "SumsThatDiffer$Reading", name := "tellStart", desc := "(II)Z" } : Jvm.MethodName)) ∈ TB := tb_in 530 (by decide +kernel) rfl
theorem tw_531 : (Jvm.Cond.code ({ cls := "SumsThatDiffer$Reading", name := "tellStart", desc := "(II)Z" } : Jvm.MethodName) prog_7_method_8_code (3 : Nat) (Option.some Jvm.ClassFile.FieldType.boolean)) ∈ TB := tb_in 531 (by decide +kernel) rfl
theorem tw_532 : (Jvm.Cond.methodLink "SumsThatDiffer$Reading" (63 : Nat) ({ cls := "SumsThatDiffer$County", name := "addStep", desc := "(I)Z" } : Jvm.MethodName)) ∈ TB := tb_in 532 (by decide +kernel) rfl
theorem tw_533 : (Jvm.Cond.instanceMethod ({ cls := "SumsThatDiffer$County", name := "addStep", desc := "(I)Z" } : Jvm.MethodName)) ∈ TB := tb_in 533 (by decide +kernel) rfl
theorem tw_534 : (Jvm.Cond.selects "SumsThatDiffer$County" ({ cls := "SumsThatDiffer$County", name := "addStep", desc := "(I)Z" } : Jvm.MethodName) ({ cls := "SumsThatDiffer$County", name := "addStep", desc := "(I)Z" } : Jvm.MethodName)) ∈ TB := tb_in 534 (by decide +kernel) rfl
theorem tw_535 : (Jvm.Cond.code ({ cls := "SumsThatDiffer$County", name := "addStep", desc := "(I)Z" } : Jvm.MethodName) prog_3_method_6_code (2 : Nat) (Option.some Jvm.ClassFile.FieldType.boolean)) ∈ TB := tb_in 535 (by decide +kernel) rfl
theorem tw_536 : (Jvm.Cond.methodLink "SumsThatDiffer$County" (69 : Nat) ({ cls := "SumsThatDiffer$County", name := "hasRoad", desc := "(I)Z" } : Jvm.MethodName)) ∈ TB := tb_in 536 (by decide +kernel) rfl
theorem tw_537 : (Jvm.Cond.instanceMethod ({ cls := "SumsThatDiffer$County", name := "hasRoad", desc := "(I)Z" } : Jvm.MethodName)) ∈ TB := tb_in 537 (by decide +kernel) rfl
theorem tw_538 : (Jvm.Cond.selects "SumsThatDiffer$County" ({ cls := "SumsThatDiffer$County", name := "hasRoad", desc := "(I)Z" } : Jvm.MethodName) ({ cls := "SumsThatDiffer$County", name := "hasRoad", desc := "(I)Z" } : Jvm.MethodName)) ∈ TB := tb_in 538 (by decide +kernel) rfl
theorem tw_539 : (Jvm.Cond.code ({ cls := "SumsThatDiffer$County", name := "hasRoad", desc := "(I)Z" } : Jvm.MethodName) prog_3_method_15_code (2 : Nat) (Option.some Jvm.ClassFile.FieldType.boolean)) ∈ TB := tb_in 539 (by decide +kernel) rfl
theorem tw_540 : (Jvm.Cond.methodLink "SumsThatDiffer" (299 : Nat) ({ cls := "SumsThatDiffer$County", name := "copyFrom", desc := "(LSumsThatDiffer$County;)V" } : Jvm.MethodName)) ∈ TB := tb_in 540 (by decide +kernel) rfl
theorem tw_541 : (Jvm.Cond.instanceMethod ({ cls := "SumsThatDiffer$County", name := "copyFrom", desc := "(LSumsThatDiffer$County;)V" } : Jvm.MethodName)) ∈ TB := tb_in 541 (by decide +kernel) rfl
theorem tw_542 : (Jvm.Cond.selects "SumsThatDiffer$County" ({ cls := "SumsThatDiffer$County", name := "copyFrom", desc := "(LSumsThatDiffer$County;)V" } : Jvm.MethodName) ({ cls := "SumsThatDiffer$County", name := "copyFrom", desc := "(LSumsThatDiffer$County;)V" } : Jvm.MethodName)) ∈ TB := tb_in 542 (by decide +kernel) rfl
theorem tw_543 : (Jvm.Cond.code ({ cls := "SumsThatDiffer$County", name := "copyFrom", desc := "(LSumsThatDiffer$County;)V" } : Jvm.MethodName) prog_3_method_3_code (2 : Nat) (Option.none : Option Jvm.ClassFile.FieldType)) ∈ TB := tb_in 543 (by decide +kernel) rfl
theorem tw_544 : (Jvm.Cond.methodLink "SumsThatDiffer$County" (53 : Nat) ({ cls := "java/lang/System", name := "arraycopy", desc := "(Ljava/lang/Object;ILjava/lang/Object;II)V" } : Jvm.MethodName)) ∈ TB := tb_in 544 (by decide +kernel) rfl
theorem tw_545 : (Jvm.Cond.static ({ cls := "java/lang/System", name := "arraycopy", desc := "(Ljava/lang/Object;ILjava/lang/Object;II)V" } : Jvm.MethodName)) ∈ TB := tb_in 545 (by decide +kernel) rfl
theorem tw_546 : (Jvm.Cond.native ({ cls := "java/lang/System", name := "arraycopy", desc := "(Ljava/lang/Object;ILjava/lang/Object;II)V" } : Jvm.MethodName)) ∈ TB := tb_in 546 (by decide +kernel) rfl
theorem tw_547 : (Jvm.Cond.methodLink "SumsThatDiffer$County" (59 : Nat) ({ cls := "SumsThatDiffer$Standing", name := "copyFrom", desc := "(LSumsThatDiffer$Standing;)V" } : Jvm.MethodName)) ∈ TB := tb_in 547 (by decide +kernel) rfl
theorem tw_548 : (Jvm.Cond.instanceMethod ({ cls := "SumsThatDiffer$Standing", name := "copyFrom", desc := "(LSumsThatDiffer$Standing;)V" } : Jvm.MethodName)) ∈ TB := tb_in 548 (by decide +kernel) rfl
theorem tw_549 : (Jvm.Cond.selects "SumsThatDiffer$Standing" ({ cls := "SumsThatDiffer$Standing", name := "copyFrom", desc := "(LSumsThatDiffer$Standing;)V" } : Jvm.MethodName) ({ cls := "SumsThatDiffer$Standing", name := "copyFrom", desc := "(LSumsThatDiffer$Standing;)V" } : Jvm.MethodName)) ∈ TB := tb_in 549 (by decide +kernel) rfl
theorem tw_550 : (Jvm.Cond.code ({ cls := "SumsThatDiffer$Standing", name := "copyFrom", desc := "(LSumsThatDiffer$Standing;)V" } : Jvm.MethodName) prog_9_method_4_code (2 : Nat) (Option.none : Option Jvm.ClassFile.FieldType)) ∈ TB := tb_in 550 (by decide +kernel) rfl
theorem tw_551 : (Jvm.Cond.methodLink "SumsThatDiffer$Standing" (31 : Nat) ({ cls := "java/lang/System", name := "arraycopy", desc := "(Ljava/lang/Object;ILjava/lang/Object;II)V" } : Jvm.MethodName)) ∈ TB := tb_in 551 (by decide +kernel) rfl
theorem tw_552 : (Jvm.Cond.methodLink "SumsThatDiffer" (257 : Nat) ({ cls := "SumsThatDiffer$Told", name := "clear", desc := "()V" } : Jvm.MethodName)) ∈ TB := tb_in 552 (by decide +kernel) rfl
theorem tw_553 : (Jvm.Cond.instanceMethod ({ cls := "SumsThatDiffer$Told", name := "clear", desc := "()V" } : Jvm.MethodName)) ∈ TB := tb_in 553 (by decide +kernel) rfl
theorem tw_554 : (Jvm.Cond.selects "SumsThatDiffer$Told" ({ cls := "SumsThatDiffer$Told", name := "clear", desc := "()V" } : Jvm.MethodName) ({ cls := "SumsThatDiffer$Told", name := "clear", desc := "()V" } : Jvm.MethodName)) ∈ TB := tb_in 554 (by decide +kernel) rfl
theorem tw_555 : (Jvm.Cond.code ({ cls := "SumsThatDiffer$Told", name := "clear", desc := "()V" } : Jvm.MethodName) prog_10_method_3_code (1 : Nat) (Option.none : Option Jvm.ClassFile.FieldType)) ∈ TB := tb_in 555 (by decide +kernel) rfl
theorem tw_556 : (Jvm.Cond.methodLink "SumsThatDiffer" (294 : Nat) ({ cls := "SumsThatDiffer$Pile", name := "clear", desc := "()V" } : Jvm.MethodName)) ∈ TB := tb_in 556 (by decide +kernel) rfl
theorem tw_557 : (Jvm.Cond.instanceMethod ({ cls := "SumsThatDiffer$Pile", name := "clear", desc := "()V" } : Jvm.MethodName)) ∈ TB := tb_in 557 (by decide +kernel) rfl
theorem tw_558 : (Jvm.Cond.selects "SumsThatDiffer$Pile" ({ cls := "SumsThatDiffer$Pile", name := "clear", desc := "()V" } : Jvm.MethodName) ({ cls := "SumsThatDiffer$Pile", name := "clear", desc := "()V" } : Jvm.MethodName)) ∈ TB := tb_in 558 (by decide +kernel) rfl
theorem tw_559 : (Jvm.Cond.code ({ cls := "SumsThatDiffer$Pile", name := "clear", desc := "()V" } : Jvm.MethodName) prog_6_method_4_code (1 : Nat) (Option.none : Option Jvm.ClassFile.FieldType)) ∈ TB := tb_in 559 (by decide +kernel) rfl
theorem tw_560 : (Jvm.Cond.methodLink "SumsThatDiffer" (106 : Nat) ({ cls := "SumsThatDiffer$Letters", name := "clear", desc := "()V" } : Jvm.MethodName)) ∈ TB := tb_in 560 (by decide +kernel) rfl
theorem tw_561 : (Jvm.Cond.instanceMethod ({ cls := "SumsThatDiffer$Letters", name := "clear", desc := "()V" } : Jvm.MethodName)) ∈ TB := tb_in 561 (by decide +kernel) rfl
theorem tw_562 : (Jvm.Cond.selects "SumsThatDiffer$Letters" ({ cls := "SumsThatDiffer$Letters", name := "clear", desc := "()V" } : Jvm.MethodName) ({ cls := "SumsThatDiffer$Letters", name := "clear", desc := "()V" } : Jvm.MethodName)) ∈ TB := tb_in 562 (by decide +kernel) rfl
theorem tw_563 : (Jvm.Cond.code ({ cls := "SumsThatDiffer$Letters", name := "clear", desc := "()V" } : Jvm.MethodName) prog_5_method_3_code (1 : Nat) (Option.none : Option Jvm.ClassFile.FieldType)) ∈ TB := tb_in 563 (by decide +kernel) rfl
theorem tw_564 : (Jvm.Cond.fieldLink "SumsThatDiffer" (10 : Nat) "SumsThatDiffer" "letters" "LSumsThatDiffer$Letters;") ∈ TB := tb_in 564 (by decide +kernel) rfl
theorem tw_565 : (Jvm.Cond.fieldLink "SumsThatDiffer" (19 : Nat) "SumsThatDiffer" "reading" "LSumsThatDiffer$Reading;") ∈ TB := tb_in 565 (by decide +kernel) rfl
theorem tw_566 : (Jvm.Cond.fieldLink "SumsThatDiffer" (26 : Nat) "SumsThatDiffer" "county" "LSumsThatDiffer$County;") ∈ TB := tb_in 566 (by decide +kernel) rfl
theorem tw_567 : (Jvm.Cond.fieldLink "SumsThatDiffer" (35 : Nat) "SumsThatDiffer" "undoable" "LSumsThatDiffer$Pile;") ∈ TB := tb_in 567 (by decide +kernel) rfl
theorem tw_568 : (Jvm.Cond.fieldLink "SumsThatDiffer" (39 : Nat) "SumsThatDiffer" "kept" "LSumsThatDiffer$Pile;") ∈ TB := tb_in 568 (by decide +kernel) rfl
theorem tw_569 : (Jvm.Cond.fieldLink "SumsThatDiffer" (47 : Nat) "SumsThatDiffer" "walker" "LSumsThatDiffer$Walker;") ∈ TB := tb_in 569 (by decide +kernel) rfl
theorem tw_570 : (Jvm.Cond.fieldLink "SumsThatDiffer" (54 : Nat) "SumsThatDiffer" "climb" "LSumsThatDiffer$Climb;") ∈ TB := tb_in 570 (by decide +kernel) rfl
theorem tw_571 : (Jvm.Cond.fieldLink "SumsThatDiffer" (61 : Nat) "SumsThatDiffer" "heights" "LSumsThatDiffer$Heights;") ∈ TB := tb_in 571 (by decide +kernel) rfl
theorem tw_572 : (Jvm.Cond.fieldLink "SumsThatDiffer" (68 : Nat) "SumsThatDiffer" "rings" "LSumsThatDiffer$Rings;") ∈ TB := tb_in 572 (by decide +kernel) rfl
theorem tw_573 : (Jvm.Cond.fieldLink "SumsThatDiffer" (75 : Nat) "SumsThatDiffer" "told" "LSumsThatDiffer$Told;") ∈ TB := tb_in 573 (by decide +kernel) rfl
theorem tw_574 : (Jvm.Cond.fieldLink "SumsThatDiffer" (82 : Nat) "SumsThatDiffer" "sky" "LSumsThatDiffer$Weather;") ∈ TB := tb_in 574 (by decide +kernel) rfl
theorem tw_575 : (Jvm.Cond.laysFinal "SumsThatDiffer" "SumsThatDiffer" "letters" "LSumsThatDiffer$Letters;") ∈ TB := tb_in 575 (by decide +kernel) rfl
theorem tw_577 : (Jvm.Cond.laysFinal "SumsThatDiffer" "SumsThatDiffer" "reading" "LSumsThatDiffer$Reading;") ∈ TB := tb_in 577 (by decide +kernel) rfl
theorem tw_579 : (Jvm.Cond.laysFinal "SumsThatDiffer" "SumsThatDiffer" "county" "LSumsThatDiffer$County;") ∈ TB := tb_in 579 (by decide +kernel) rfl
theorem tw_581 : (Jvm.Cond.laysFinal "SumsThatDiffer" "SumsThatDiffer" "undoable" "LSumsThatDiffer$Pile;") ∈ TB := tb_in 581 (by decide +kernel) rfl
theorem tw_583 : (Jvm.Cond.laysFinal "SumsThatDiffer" "SumsThatDiffer" "kept" "LSumsThatDiffer$Pile;") ∈ TB := tb_in 583 (by decide +kernel) rfl
theorem tw_585 : (Jvm.Cond.laysFinal "SumsThatDiffer" "SumsThatDiffer" "walker" "LSumsThatDiffer$Walker;") ∈ TB := tb_in 585 (by decide +kernel) rfl
theorem tw_587 : (Jvm.Cond.laysFinal "SumsThatDiffer" "SumsThatDiffer" "climb" "LSumsThatDiffer$Climb;") ∈ TB := tb_in 587 (by decide +kernel) rfl
theorem tw_589 : (Jvm.Cond.laysFinal "SumsThatDiffer" "SumsThatDiffer" "heights" "LSumsThatDiffer$Heights;") ∈ TB := tb_in 589 (by decide +kernel) rfl
theorem tw_591 : (Jvm.Cond.laysFinal "SumsThatDiffer" "SumsThatDiffer" "rings" "LSumsThatDiffer$Rings;") ∈ TB := tb_in 591 (by decide +kernel) rfl
theorem tw_593 : (Jvm.Cond.laysFinal "SumsThatDiffer" "SumsThatDiffer" "told" "LSumsThatDiffer$Told;") ∈ TB := tb_in 593 (by decide +kernel) rfl
theorem tw_595 : (Jvm.Cond.laysFinal "SumsThatDiffer" "SumsThatDiffer" "sky" "LSumsThatDiffer$Weather;") ∈ TB := tb_in 595 (by decide +kernel) rfl
theorem tw_615 : (Jvm.Cond.methodLink "SumsThatDiffer" (114 : Nat) ({ cls := "SumsThatDiffer$County", name := "roads", desc := "()I" } : Jvm.MethodName)) ∈ TB := tb_in 615 (by decide +kernel) rfl
theorem tw_616 : (Jvm.Cond.instanceMethod ({ cls := "SumsThatDiffer$County", name := "roads", desc := "()I" } : Jvm.MethodName)) ∈ TB := tb_in 616 (by decide +kernel) rfl
theorem tw_617 : (Jvm.Cond.selects "SumsThatDiffer$County" ({ cls := "SumsThatDiffer$County", name := "roads", desc := "()I" } : Jvm.MethodName) ({ cls := "SumsThatDiffer$County", name := "roads", desc := "()I" } : Jvm.MethodName)) ∈ TB := tb_in 617 (by decide +kernel) rfl
theorem tw_618 : (Jvm.Cond.code ({ cls := "SumsThatDiffer$County", name := "roads", desc := "()I" } : Jvm.MethodName) prog_3_method_8_code (1 : Nat) (Option.some Jvm.ClassFile.FieldType.int)) ∈ TB := tb_in 618 (by decide +kernel) rfl
theorem tw_623 : (Jvm.Cond.methodLink "SumsThatDiffer" (117 : Nat) ({ cls := "SumsThatDiffer$County", name := "hasRoad", desc := "(I)Z" } : Jvm.MethodName)) ∈ TB := tb_in 623 (by decide +kernel) rfl
theorem tw_624 : (Jvm.Cond.methodLink "SumsThatDiffer" (121 : Nat) ({ cls := "SumsThatDiffer$County", name := "kindOf", desc := "(I)I" } : Jvm.MethodName)) ∈ TB := tb_in 624 (by decide +kernel) rfl
theorem tw_625 : (Jvm.Cond.instanceMethod ({ cls := "SumsThatDiffer$County", name := "kindOf", desc := "(I)I" } : Jvm.MethodName)) ∈ TB := tb_in 625 (by decide +kernel) rfl
theorem tw_626 : (Jvm.Cond.selects "SumsThatDiffer$County" ({ cls := "SumsThatDiffer$County", name := "kindOf", desc := "(I)I" } : Jvm.MethodName) ({ cls := "SumsThatDiffer$County", name := "kindOf", desc := "(I)I" } : Jvm.MethodName)) ∈ TB := tb_in 626 (by decide +kernel) rfl
theorem tw_627 : (Jvm.Cond.code ({ cls := "SumsThatDiffer$County", name := "kindOf", desc := "(I)I" } : Jvm.MethodName) prog_3_method_11_code (2 : Nat) (Option.some Jvm.ClassFile.FieldType.int)) ∈ TB := tb_in 627 (by decide +kernel) rfl
theorem tw_628 : (Jvm.Cond.methodLink "SumsThatDiffer" (125 : Nat) ({ cls := "SumsThatDiffer$County", name := "startOf", desc := "(I)I" } : Jvm.MethodName)) ∈ TB := tb_in 628 (by decide +kernel) rfl
theorem tw_629 : (Jvm.Cond.instanceMethod ({ cls := "SumsThatDiffer$County", name := "startOf", desc := "(I)I" } : Jvm.MethodName)) ∈ TB := tb_in 629 (by decide +kernel) rfl
theorem tw_630 : (Jvm.Cond.selects "SumsThatDiffer$County" ({ cls := "SumsThatDiffer$County", name := "startOf", desc := "(I)I" } : Jvm.MethodName) ({ cls := "SumsThatDiffer$County", name := "startOf", desc := "(I)I" } : Jvm.MethodName)) ∈ TB := tb_in 630 (by decide +kernel) rfl
theorem tw_631 : (Jvm.Cond.code ({ cls := "SumsThatDiffer$County", name := "startOf", desc := "(I)I" } : Jvm.MethodName) prog_3_method_12_code (2 : Nat) (Option.some Jvm.ClassFile.FieldType.int)) ∈ TB := tb_in 631 (by decide +kernel) rfl
theorem tw_632 : (Jvm.Cond.methodLink "SumsThatDiffer" (128 : Nat) ({ cls := "SumsThatDiffer$County", name := "endOf", desc := "(I)I" } : Jvm.MethodName)) ∈ TB := tb_in 632 (by decide +kernel) rfl
theorem tw_633 : (Jvm.Cond.instanceMethod ({ cls := "SumsThatDiffer$County", name := "endOf", desc := "(I)I" } : Jvm.MethodName)) ∈ TB := tb_in 633 (by decide +kernel) rfl
theorem tw_634 : (Jvm.Cond.selects "SumsThatDiffer$County" ({ cls := "SumsThatDiffer$County", name := "endOf", desc := "(I)I" } : Jvm.MethodName) ({ cls := "SumsThatDiffer$County", name := "endOf", desc := "(I)I" } : Jvm.MethodName)) ∈ TB := tb_in 634 (by decide +kernel) rfl
theorem tw_635 : (Jvm.Cond.code ({ cls := "SumsThatDiffer$County", name := "endOf", desc := "(I)I" } : Jvm.MethodName) prog_3_method_13_code (2 : Nat) (Option.some Jvm.ClassFile.FieldType.int)) ∈ TB := tb_in 635 (by decide +kernel) rfl
theorem tw_636 : (Jvm.Cond.methodLink "SumsThatDiffer" (144 : Nat) ({ cls := "SumsThatDiffer$Standing", name := "isShut", desc := "(I)Z" } : Jvm.MethodName)) ∈ TB := tb_in 636 (by decide +kernel) rfl
theorem tw_637 : (Jvm.Cond.instanceMethod ({ cls := "SumsThatDiffer$Standing", name := "isShut", desc := "(I)Z" } : Jvm.MethodName)) ∈ TB := tb_in 637 (by decide +kernel) rfl
theorem tw_638 : (Jvm.Cond.selects "SumsThatDiffer$Standing" ({ cls := "SumsThatDiffer$Standing", name := "isShut", desc := "(I)Z" } : Jvm.MethodName) ({ cls := "SumsThatDiffer$Standing", name := "isShut", desc := "(I)Z" } : Jvm.MethodName)) ∈ TB := tb_in 638 (by decide +kernel) rfl
theorem tw_639 : (Jvm.Cond.code ({ cls := "SumsThatDiffer$Standing", name := "isShut", desc := "(I)Z" } : Jvm.MethodName) prog_9_method_2_code (2 : Nat) (Option.some Jvm.ClassFile.FieldType.boolean)) ∈ TB := tb_in 639 (by decide +kernel) rfl
theorem tw_648 : (Jvm.Cond.methodLink "SumsThatDiffer" (154 : Nat) ({ cls := "SumsThatDiffer$Walker", name := "startNow", desc := "()V" } : Jvm.MethodName)) ∈ TB := tb_in 648 (by decide +kernel) rfl
theorem tw_649 : (Jvm.Cond.instanceMethod ({ cls := "SumsThatDiffer$Walker", name := "startNow", desc := "()V" } : Jvm.MethodName)) ∈ TB := tb_in 649 (by decide +kernel) rfl
theorem tw_650 : (Jvm.Cond.selects "SumsThatDiffer$Walker" ({ cls := "SumsThatDiffer$Walker", name := "startNow", desc := "()V" } : Jvm.MethodName) ({ cls := "SumsThatDiffer$Walker", name := "startNow", desc := "()V" } : Jvm.MethodName)) ∈ TB := tb_in 650 (by decide +kernel) rfl
theorem tw_651 : (Jvm.Cond.code ({ cls := "SumsThatDiffer$Walker", name := "startNow", desc := "()V" } : Jvm.MethodName) prog_11_method_2_code (1 : Nat) (Option.none : Option Jvm.ClassFile.FieldType)) ∈ TB := tb_in 651 (by decide +kernel) rfl
theorem tw_652 : (Jvm.Cond.methodLink "SumsThatDiffer" (157 : Nat) ({ cls := "SumsThatDiffer$Walker", name := "goBy", desc := "(I)Z" } : Jvm.MethodName)) ∈ TB := tb_in 652 (by decide +kernel) rfl
theorem tw_653 : (Jvm.Cond.instanceMethod ({ cls := "SumsThatDiffer$Walker", name := "goBy", desc := "(I)Z" } : Jvm.MethodName)) ∈ TB := tb_in 653 (by decide +kernel) rfl
theorem tw_654 : (Jvm.Cond.selects "SumsThatDiffer$Walker" ({ cls := "SumsThatDiffer$Walker", name := "goBy", desc := "(I)Z" } : Jvm.MethodName) ({ cls := "SumsThatDiffer$Walker", name := "goBy", desc := "(I)Z" } : Jvm.MethodName)) ∈ TB := tb_in 654 (by decide +kernel) rfl
theorem tw_655 : (Jvm.Cond.code ({ cls := "SumsThatDiffer$Walker", name := "goBy", desc := "(I)Z" } : Jvm.MethodName) prog_11_method_3_code (2 : Nat) (Option.some Jvm.ClassFile.FieldType.boolean)) ∈ TB := tb_in 655 (by decide +kernel) rfl
theorem tw_656 : (Jvm.Cond.methodLink "SumsThatDiffer$Walker" (36 : Nat) ({ cls := "SumsThatDiffer$County", name := "canBeCrossed", desc := "(II)Z" } : Jvm.MethodName)) ∈ TB := tb_in 656 (by decide +kernel) rfl
theorem tw_657 : (Jvm.Cond.instanceMethod ({ cls := "SumsThatDiffer$County", name := "canBeCrossed", desc := "(II)Z" } : Jvm.MethodName)) ∈ TB := tb_in 657 (by decide +kernel) rfl
theorem tw_658 : (Jvm.Cond.selects "SumsThatDiffer$County" ({ cls := "SumsThatDiffer$County", name := "canBeCrossed", desc := "(II)Z" } : Jvm.MethodName) ({ cls := "SumsThatDiffer$County", name := "canBeCrossed", desc := "(II)Z" } : Jvm.MethodName)) ∈ TB := tb_in 658 (by decide +kernel) rfl
theorem tw_659 : (Jvm.Cond.code ({ cls := "SumsThatDiffer$County", name := "canBeCrossed", desc := "(II)Z" } : Jvm.MethodName) prog_3_method_17_code (3 : Nat) (Option.some Jvm.ClassFile.FieldType.boolean)) ∈ TB := tb_in 659 (by decide +kernel) rfl
theorem tw_660 : (Jvm.Cond.methodLink "SumsThatDiffer$County" (73 : Nat) ({ cls := "SumsThatDiffer$County", name := "leadsOn", desc := "(II)Z" } : Jvm.MethodName)) ∈ TB := tb_in 660 (by decide +kernel) rfl
theorem tw_661 : (Jvm.Cond.instanceMethod ({ cls := "SumsThatDiffer$County", name := "leadsOn", desc := "(II)Z" } : Jvm.MethodName)) ∈ TB := tb_in 661 (by decide +kernel) rfl
theorem tw_662 : (Jvm.Cond.selects "SumsThatDiffer$County" ({ cls := "SumsThatDiffer$County", name := "leadsOn", desc := "(II)Z" } : Jvm.MethodName) ({ cls := "SumsThatDiffer$County", name := "leadsOn", desc := "(II)Z" } : Jvm.MethodName)) ∈ TB := tb_in 662 (by decide +kernel) rfl
theorem tw_663 : (Jvm.Cond.code ({ cls := "SumsThatDiffer$County", name := "leadsOn", desc := "(II)Z" } : Jvm.MethodName) prog_3_method_16_code (3 : Nat) (Option.some Jvm.ClassFile.FieldType.boolean)) ∈ TB := tb_in 663 (by decide +kernel) rfl
theorem tw_664 : (Jvm.Cond.methodLink "SumsThatDiffer$County" (77 : Nat) ({ cls := "SumsThatDiffer$Standing", name := "isShut", desc := "(I)Z" } : Jvm.MethodName)) ∈ TB := tb_in 664 (by decide +kernel) rfl
theorem tw_665 : (Jvm.Cond.methodLink "SumsThatDiffer$Walker" (40 : Nat) ({ cls := "SumsThatDiffer$County", name := "changeFrom", desc := "(II)I" } : Jvm.MethodName)) ∈ TB := tb_in 665 (by decide +kernel) rfl
theorem tw_666 : (Jvm.Cond.instanceMethod ({ cls := "SumsThatDiffer$County", name := "changeFrom", desc := "(II)I" } : Jvm.MethodName)) ∈ TB := tb_in 666 (by decide +kernel) rfl
theorem tw_667 : (Jvm.Cond.selects "SumsThatDiffer$County" ({ cls := "SumsThatDiffer$County", name := "changeFrom", desc := "(II)I" } : Jvm.MethodName) ({ cls := "SumsThatDiffer$County", name := "changeFrom", desc := "(II)I" } : Jvm.MethodName)) ∈ TB := tb_in 667 (by decide +kernel) rfl
theorem tw_668 : (Jvm.Cond.code ({ cls := "SumsThatDiffer$County", name := "changeFrom", desc := "(II)I" } : Jvm.MethodName) prog_3_method_20_code (4 : Nat) (Option.some Jvm.ClassFile.FieldType.int)) ∈ TB := tb_in 668 (by decide +kernel) rfl
theorem tw_669 : (Jvm.Cond.methodLink "SumsThatDiffer$County" (80 : Nat) ({ cls := "SumsThatDiffer$County", name := "figureFrom", desc := "(II)I" } : Jvm.MethodName)) ∈ TB := tb_in 669 (by decide +kernel) rfl
theorem tw_670 : (Jvm.Cond.instanceMethod ({ cls := "SumsThatDiffer$County", name := "figureFrom", desc := "(II)I" } : Jvm.MethodName)) ∈ TB := tb_in 670 (by decide +kernel) rfl
theorem tw_671 : (Jvm.Cond.selects "SumsThatDiffer$County" ({ cls := "SumsThatDiffer$County", name := "figureFrom", desc := "(II)I" } : Jvm.MethodName) ({ cls := "SumsThatDiffer$County", name := "figureFrom", desc := "(II)I" } : Jvm.MethodName)) ∈ TB := tb_in 671 (by decide +kernel) rfl
theorem tw_672 : (Jvm.Cond.code ({ cls := "SumsThatDiffer$County", name := "figureFrom", desc := "(II)I" } : Jvm.MethodName) prog_3_method_19_code (3 : Nat) (Option.some Jvm.ClassFile.FieldType.int)) ∈ TB := tb_in 672 (by decide +kernel) rfl
theorem tw_673 : (Jvm.Cond.methodLink "SumsThatDiffer$Walker" (44 : Nat) ({ cls := "SumsThatDiffer$County", name := "sumBehind", desc := "(III)I" } : Jvm.MethodName)) ∈ TB := tb_in 673 (by decide +kernel) rfl
theorem tw_674 : (Jvm.Cond.instanceMethod ({ cls := "SumsThatDiffer$County", name := "sumBehind", desc := "(III)I" } : Jvm.MethodName)) ∈ TB := tb_in 674 (by decide +kernel) rfl
theorem tw_675 : (Jvm.Cond.selects "SumsThatDiffer$County" ({ cls := "SumsThatDiffer$County", name := "sumBehind", desc := "(III)I" } : Jvm.MethodName) ({ cls := "SumsThatDiffer$County", name := "sumBehind", desc := "(III)I" } : Jvm.MethodName)) ∈ TB := tb_in 675 (by decide +kernel) rfl
theorem tw_676 : (Jvm.Cond.code ({ cls := "SumsThatDiffer$County", name := "sumBehind", desc := "(III)I" } : Jvm.MethodName) prog_3_method_21_code (4 : Nat) (Option.some Jvm.ClassFile.FieldType.int)) ∈ TB := tb_in 676 (by decide +kernel) rfl
theorem tw_677 : (Jvm.Cond.methodLink "SumsThatDiffer$County" (84 : Nat) ({ cls := "SumsThatDiffer$County", name := "sumBy", desc := "(III)I" } : Jvm.MethodName)) ∈ TB := tb_in 677 (by decide +kernel) rfl
theorem tw_678 : (Jvm.Cond.instanceMethod ({ cls := "SumsThatDiffer$County", name := "sumBy", desc := "(III)I" } : Jvm.MethodName)) ∈ TB := tb_in 678 (by decide +kernel) rfl
theorem tw_679 : (Jvm.Cond.selects "SumsThatDiffer$County" ({ cls := "SumsThatDiffer$County", name := "sumBy", desc := "(III)I" } : Jvm.MethodName) ({ cls := "SumsThatDiffer$County", name := "sumBy", desc := "(III)I" } : Jvm.MethodName)) ∈ TB := tb_in 679 (by decide +kernel) rfl
theorem tw_680 : (Jvm.Cond.code ({ cls := "SumsThatDiffer$County", name := "sumBy", desc := "(III)I" } : Jvm.MethodName) prog_3_method_22_code (6 : Nat) (Option.some Jvm.ClassFile.FieldType.int)) ∈ TB := tb_in 680 (by decide +kernel) rfl
theorem tw_681 : (Jvm.Cond.methodLink "SumsThatDiffer$Walker" (48 : Nat) ({ cls := "SumsThatDiffer$County", name := "otherEnd", desc := "(II)I" } : Jvm.MethodName)) ∈ TB := tb_in 681 (by decide +kernel) rfl
theorem tw_682 : (Jvm.Cond.instanceMethod ({ cls := "SumsThatDiffer$County", name := "otherEnd", desc := "(II)I" } : Jvm.MethodName)) ∈ TB := tb_in 682 (by decide +kernel) rfl
theorem tw_683 : (Jvm.Cond.selects "SumsThatDiffer$County" ({ cls := "SumsThatDiffer$County", name := "otherEnd", desc := "(II)I" } : Jvm.MethodName) ({ cls := "SumsThatDiffer$County", name := "otherEnd", desc := "(II)I" } : Jvm.MethodName)) ∈ TB := tb_in 683 (by decide +kernel) rfl
theorem tw_684 : (Jvm.Cond.code ({ cls := "SumsThatDiffer$County", name := "otherEnd", desc := "(II)I" } : Jvm.MethodName) prog_3_method_18_code (3 : Nat) (Option.some Jvm.ClassFile.FieldType.int)) ∈ TB := tb_in 684 (by decide +kernel) rfl
theorem tw_685 : (Jvm.Cond.methodLink "SumsThatDiffer" (160 : Nat) ({ cls := "SumsThatDiffer$Pile", name := "push", desc := "(LSumsThatDiffer$Standing;)V" } : Jvm.MethodName)) ∈ TB := tb_in 685 (by decide +kernel) rfl
theorem tw_686 : (Jvm.Cond.instanceMethod ({ cls := "SumsThatDiffer$Pile", name := "push", desc := "(LSumsThatDiffer$Standing;)V" } : Jvm.MethodName)) ∈ TB := tb_in 686 (by decide +kernel) rfl
theorem tw_687 : (Jvm.Cond.selects "SumsThatDiffer$Pile" ({ cls := "SumsThatDiffer$Pile", name := "push", desc := "(LSumsThatDiffer$Standing;)V" } : Jvm.MethodName) ({ cls := "SumsThatDiffer$Pile", name := "push", desc := "(LSumsThatDiffer$Standing;)V" } : Jvm.MethodName)) ∈ TB := tb_in 687 (by decide +kernel) rfl
theorem tw_688 : (Jvm.Cond.code ({ cls := "SumsThatDiffer$Pile", name := "push", desc := "(LSumsThatDiffer$Standing;)V" } : Jvm.MethodName) prog_6_method_5_code (2 : Nat) (Option.none : Option Jvm.ClassFile.FieldType)) ∈ TB := tb_in 688 (by decide +kernel) rfl
theorem tw_689 : (Jvm.Cond.methodLink "SumsThatDiffer$Pile" (20 : Nat) ({ cls := "SumsThatDiffer$Pile", name := "isFull", desc := "()Z" } : Jvm.MethodName)) ∈ TB := tb_in 689 (by decide +kernel) rfl
theorem tw_690 : (Jvm.Cond.instanceMethod ({ cls := "SumsThatDiffer$Pile", name := "isFull", desc := "()Z" } : Jvm.MethodName)) ∈ TB := tb_in 690 (by decide +kernel) rfl
theorem tw_691 : (Jvm.Cond.selects "SumsThatDiffer$Pile" ({ cls := "SumsThatDiffer$Pile", name := "isFull", desc := "()Z" } : Jvm.MethodName) ({ cls := "SumsThatDiffer$Pile", name := "isFull", desc := "()Z" } : Jvm.MethodName)) ∈ TB := tb_in 691 (by decide +kernel) rfl
theorem tw_692 : (Jvm.Cond.code ({ cls := "SumsThatDiffer$Pile", name := "isFull", desc := "()Z" } : Jvm.MethodName) prog_6_method_3_code (1 : Nat) (Option.some Jvm.ClassFile.FieldType.boolean)) ∈ TB := tb_in 692 (by decide +kernel) rfl
theorem tw_693 : (Jvm.Cond.methodLink "SumsThatDiffer$Pile" (24 : Nat) ({ cls := "SumsThatDiffer$Pile", name := "dropOldest", desc := "()V" } : Jvm.MethodName)) ∈ TB := tb_in 693 (by decide +kernel) rfl
theorem tw_695 : (Jvm.Cond.instanceMethod ({ cls := "SumsThatDiffer$Pile", name := "dropOldest", desc := "()V" } : Jvm.MethodName)) ∈ TB := tb_in 695 (by decide +kernel) rfl
theorem tw_696 : (Jvm.Cond.code ({ cls := "SumsThatDiffer$Pile", name := "dropOldest", desc := "()V" } : Jvm.MethodName) prog_6_method_7_code (3 : Nat) (Option.none : Option Jvm.ClassFile.FieldType)) ∈ TB := tb_in 696 (by decide +kernel) rfl
theorem tw_697 : (Jvm.Cond.methodLink "SumsThatDiffer$Pile" (27 : Nat) ({ cls := "SumsThatDiffer$Standing", name := "copyFrom", desc := "(LSumsThatDiffer$Standing;)V" } : Jvm.MethodName)) ∈ TB := tb_in 697 (by decide +kernel) rfl
theorem tw_702 : (Jvm.Cond.methodLink "SumsThatDiffer" (169 : Nat) ({ cls := "SumsThatDiffer", name := "isFigure", desc := "(I)Z" } : Jvm.MethodName)) ∈ TB := tb_in 702 (by decide +kernel) rfl
theorem tw_703 : (Jvm.Cond.static ({ cls := "SumsThatDiffer", name := "isFigure", desc := "(I)Z" } : Jvm.MethodName)) ∈ TB := tb_in 703 (by decide +kernel) rfl
theorem tw_704 : (Jvm.Cond.code ({ cls := "SumsThatDiffer", name := "isFigure", desc := "(I)Z" } : Jvm.MethodName) prog_1_method_32_code (1 : Nat) (Option.some Jvm.ClassFile.FieldType.boolean)) ∈ TB := tb_in 704 (by decide +kernel) rfl
theorem tw_709 : (Jvm.Cond.methodLink "SumsThatDiffer" (172 : Nat) ({ cls := "SumsThatDiffer$Standing", name := "turn", desc := "(I)V" } : Jvm.MethodName)) ∈ TB := tb_in 709 (by decide +kernel) rfl
theorem tw_710 : (Jvm.Cond.instanceMethod ({ cls := "SumsThatDiffer$Standing", name := "turn", desc := "(I)V" } : Jvm.MethodName)) ∈ TB := tb_in 710 (by decide +kernel) rfl
theorem tw_711 : (Jvm.Cond.selects "SumsThatDiffer$Standing" ({ cls := "SumsThatDiffer$Standing", name := "turn", desc := "(I)V" } : Jvm.MethodName) ({ cls := "SumsThatDiffer$Standing", name := "turn", desc := "(I)V" } : Jvm.MethodName)) ∈ TB := tb_in 711 (by decide +kernel) rfl
theorem tw_712 : (Jvm.Cond.code ({ cls := "SumsThatDiffer$Standing", name := "turn", desc := "(I)V" } : Jvm.MethodName) prog_9_method_3_code (2 : Nat) (Option.none : Option Jvm.ClassFile.FieldType)) ∈ TB := tb_in 712 (by decide +kernel) rfl
theorem tw_713 : (Jvm.Cond.methodLink "SumsThatDiffer" (178 : Nat) ({ cls := "java/lang/Integer", name := "bitCount", desc := "(I)I" } : Jvm.MethodName)) ∈ TB := tb_in 713 (by decide +kernel) rfl
theorem tw_714 : (Jvm.Cond.static ({ cls := "java/lang/Integer", name := "bitCount", desc := "(I)I" } : Jvm.MethodName)) ∈ TB := tb_in 714 (by decide +kernel) rfl
theorem tw_715 : (Jvm.Cond.code ({ cls := "java/lang/Integer", name := "bitCount", desc := "(I)I" } : Jvm.MethodName) prog_15_method_49_code (1 : Nat) (Option.some Jvm.ClassFile.FieldType.int)) ∈ TB := tb_in 715 (by decide +kernel) rfl
theorem tw_716 : (Jvm.Cond.constant "java/lang/Integer" (265 : Nat) (1431655765 : Int32)) ∈ TB := tb_in 716 (by decide +kernel) rfl
theorem tw_717 : (Jvm.Cond.constant "java/lang/Integer" (266 : Nat) (858993459 : Int32)) ∈ TB := tb_in 717 (by decide +kernel) rfl
theorem tw_718 : (Jvm.Cond.constant "java/lang/Integer" (267 : Nat) (252645135 : Int32)) ∈ TB := tb_in 718 (by decide +kernel) rfl
theorem tw_723 : (Jvm.Cond.methodLink "SumsThatDiffer" (183 : Nat) ({ cls := "SumsThatDiffer$Pile", name := "popInto", desc := "(LSumsThatDiffer$Standing;)Z" } : Jvm.MethodName)) ∈ TB := tb_in 723 (by decide +kernel) rfl
theorem tw_724 : (Jvm.Cond.instanceMethod ({ cls := "SumsThatDiffer$Pile", name := "popInto", desc := "(LSumsThatDiffer$Standing;)Z" } : Jvm.MethodName)) ∈ TB := tb_in 724 (by decide +kernel) rfl
theorem tw_725 : (Jvm.Cond.selects "SumsThatDiffer$Pile" ({ cls := "SumsThatDiffer$Pile", name := "popInto", desc := "(LSumsThatDiffer$Standing;)Z" } : Jvm.MethodName) ({ cls := "SumsThatDiffer$Pile", name := "popInto", desc := "(LSumsThatDiffer$Standing;)Z" } : Jvm.MethodName)) ∈ TB := tb_in 725 (by decide +kernel) rfl
theorem tw_726 : (Jvm.Cond.code ({ cls := "SumsThatDiffer$Pile", name := "popInto", desc := "(LSumsThatDiffer$Standing;)Z" } : Jvm.MethodName) prog_6_method_6_code (2 : Nat) (Option.some Jvm.ClassFile.FieldType.boolean)) ∈ TB := tb_in 726 (by decide +kernel) rfl
theorem tw_727 : (Jvm.Cond.methodLink "SumsThatDiffer" (187 : Nat) ({ cls := "SumsThatDiffer$Pile", name := "size", desc := "()I" } : Jvm.MethodName)) ∈ TB := tb_in 727 (by decide +kernel) rfl
theorem tw_728 : (Jvm.Cond.instanceMethod ({ cls := "SumsThatDiffer$Pile", name := "size", desc := "()I" } : Jvm.MethodName)) ∈ TB := tb_in 728 (by decide +kernel) rfl
theorem tw_729 : (Jvm.Cond.selects "SumsThatDiffer$Pile" ({ cls := "SumsThatDiffer$Pile", name := "size", desc := "()I" } : Jvm.MethodName) ({ cls := "SumsThatDiffer$Pile", name := "size", desc := "()I" } : Jvm.MethodName)) ∈ TB := tb_in 729 (by decide +kernel) rfl
theorem tw_730 : (Jvm.Cond.code ({ cls := "SumsThatDiffer$Pile", name := "size", desc := "()I" } : Jvm.MethodName) prog_6_method_2_code (1 : Nat) (Option.some Jvm.ClassFile.FieldType.int)) ∈ TB := tb_in 730 (by decide +kernel) rfl
theorem tw_735 : (Jvm.Cond.methodLink "SumsThatDiffer" (190 : Nat) ({ cls := "SumsThatDiffer$County", name := "steps", desc := "()I" } : Jvm.MethodName)) ∈ TB := tb_in 735 (by decide +kernel) rfl
theorem tw_736 : (Jvm.Cond.instanceMethod ({ cls := "SumsThatDiffer$County", name := "steps", desc := "()I" } : Jvm.MethodName)) ∈ TB := tb_in 736 (by decide +kernel) rfl
theorem tw_737 : (Jvm.Cond.selects "SumsThatDiffer$County" ({ cls := "SumsThatDiffer$County", name := "steps", desc := "()I" } : Jvm.MethodName) ({ cls := "SumsThatDiffer$County", name := "steps", desc := "()I" } : Jvm.MethodName)) ∈ TB := tb_in 737 (by decide +kernel) rfl
theorem tw_738 : (Jvm.Cond.code ({ cls := "SumsThatDiffer$County", name := "steps", desc := "()I" } : Jvm.MethodName) prog_3_method_9_code (1 : Nat) (Option.some Jvm.ClassFile.FieldType.int)) ∈ TB := tb_in 738 (by decide +kernel) rfl
theorem tw_739 : (Jvm.Cond.methodLink "SumsThatDiffer" (193 : Nat) ({ cls := "SumsThatDiffer", name := "isEither", desc := "(I)Z" } : Jvm.MethodName)) ∈ TB := tb_in 739 (by decide +kernel) rfl
theorem tw_740 : (Jvm.Cond.static ({ cls := "SumsThatDiffer", name := "isEither", desc := "(I)Z" } : Jvm.MethodName)) ∈ TB := tb_in 740 (by decide +kernel) rfl
theorem tw_741 : (Jvm.Cond.code ({ cls := "SumsThatDiffer", name := "isEither", desc := "(I)Z" } : Jvm.MethodName) prog_1_method_31_code (1 : Nat) (Option.some Jvm.ClassFile.FieldType.boolean)) ∈ TB := tb_in 741 (by decide +kernel) rfl
theorem tw_742 : (Jvm.Cond.methodLink "SumsThatDiffer" (196 : Nat) ({ cls := "SumsThatDiffer$Walker", name := "followPlan", desc := "(I)Z" } : Jvm.MethodName)) ∈ TB := tb_in 742 (by decide +kernel) rfl
theorem tw_743 : (Jvm.Cond.instanceMethod ({ cls := "SumsThatDiffer$Walker", name := "followPlan", desc := "(I)Z" } : Jvm.MethodName)) ∈ TB := tb_in 743 (by decide +kernel) rfl
theorem tw_744 : (Jvm.Cond.selects "SumsThatDiffer$Walker" ({ cls := "SumsThatDiffer$Walker", name := "followPlan", desc := "(I)Z" } : Jvm.MethodName) ({ cls := "SumsThatDiffer$Walker", name := "followPlan", desc := "(I)Z" } : Jvm.MethodName)) ∈ TB := tb_in 744 (by decide +kernel) rfl
theorem tw_745 : (Jvm.Cond.code ({ cls := "SumsThatDiffer$Walker", name := "followPlan", desc := "(I)Z" } : Jvm.MethodName) prog_11_method_4_code (3 : Nat) (Option.some Jvm.ClassFile.FieldType.boolean)) ∈ TB := tb_in 745 (by decide +kernel) rfl
theorem tw_746 : (Jvm.Cond.methodLink "SumsThatDiffer$Walker" (51 : Nat) ({ cls := "SumsThatDiffer$Walker", name := "startNow", desc := "()V" } : Jvm.MethodName)) ∈ TB := tb_in 746 (by decide +kernel) rfl
theorem tw_747 : (Jvm.Cond.methodLink "SumsThatDiffer$Walker" (54 : Nat) ({ cls := "SumsThatDiffer$County", name := "steps", desc := "()I" } : Jvm.MethodName)) ∈ TB := tb_in 747 (by decide +kernel) rfl
theorem tw_748 : (Jvm.Cond.methodLink "SumsThatDiffer$Walker" (58 : Nat) ({ cls := "SumsThatDiffer$County", name := "planned", desc := "(I)I" } : Jvm.MethodName)) ∈ TB := tb_in 748 (by decide +kernel) rfl
theorem tw_749 : (Jvm.Cond.instanceMethod ({ cls := "SumsThatDiffer$County", name := "planned", desc := "(I)I" } : Jvm.MethodName)) ∈ TB := tb_in 749 (by decide +kernel) rfl
theorem tw_750 : (Jvm.Cond.selects "SumsThatDiffer$County" ({ cls := "SumsThatDiffer$County", name := "planned", desc := "(I)I" } : Jvm.MethodName) ({ cls := "SumsThatDiffer$County", name := "planned", desc := "(I)I" } : Jvm.MethodName)) ∈ TB := tb_in 750 (by decide +kernel) rfl
theorem tw_751 : (Jvm.Cond.code ({ cls := "SumsThatDiffer$County", name := "planned", desc := "(I)I" } : Jvm.MethodName) prog_3_method_10_code (2 : Nat) (Option.some Jvm.ClassFile.FieldType.int)) ∈ TB := tb_in 751 (by decide +kernel) rfl
theorem tw_752 : (Jvm.Cond.methodLink "SumsThatDiffer$Walker" (62 : Nat) ({ cls := "SumsThatDiffer$Walker", name := "goBy", desc := "(I)Z" } : Jvm.MethodName)) ∈ TB := tb_in 752 (by decide +kernel) rfl
theorem tw_757 : (Jvm.Cond.methodLink "SumsThatDiffer" (199 : Nat) ({ cls := "SumsThatDiffer$Climb", name := "findMost", desc := "(I)V" } : Jvm.MethodName)) ∈ TB := tb_in 757 (by decide +kernel) rfl
theorem tw_758 : (Jvm.Cond.instanceMethod ({ cls := "SumsThatDiffer$Climb", name := "findMost", desc := "(I)V" } : Jvm.MethodName)) ∈ TB := tb_in 758 (by decide +kernel) rfl
theorem tw_759 : (Jvm.Cond.selects "SumsThatDiffer$Climb" ({ cls := "SumsThatDiffer$Climb", name := "findMost", desc := "(I)V" } : Jvm.MethodName) ({ cls := "SumsThatDiffer$Climb", name := "findMost", desc := "(I)V" } : Jvm.MethodName)) ∈ TB := tb_in 759 (by decide +kernel) rfl
theorem tw_760 : (Jvm.Cond.code ({ cls := "SumsThatDiffer$Climb", name := "findMost", desc := "(I)V" } : Jvm.MethodName) prog_2_method_2_code (4 : Nat) (Option.none : Option Jvm.ClassFile.FieldType)) ∈ TB := tb_in 760 (by decide +kernel) rfl
theorem tw_761 : (Jvm.Cond.methodLink "SumsThatDiffer$Climb" (40 : Nat) ({ cls := "SumsThatDiffer$Climb", name := "begin", desc := "(II)V" } : Jvm.MethodName)) ∈ TB := tb_in 761 (by decide +kernel) rfl
theorem tw_763 : (Jvm.Cond.instanceMethod ({ cls := "SumsThatDiffer$Climb", name := "begin", desc := "(II)V" } : Jvm.MethodName)) ∈ TB := tb_in 763 (by decide +kernel) rfl
theorem tw_764 : (Jvm.Cond.code ({ cls := "SumsThatDiffer$Climb", name := "begin", desc := "(II)V" } : Jvm.MethodName) prog_2_method_9_code (3 : Nat) (Option.none : Option Jvm.ClassFile.FieldType)) ∈ TB := tb_in 764 (by decide +kernel) rfl
theorem tw_765 : (Jvm.Cond.methodLink "SumsThatDiffer$Climb" (81 : Nat) ({ cls := "java/util/Arrays", name := "fill", desc := "([II)V" } : Jvm.MethodName)) ∈ TB := tb_in 765 (by decide +kernel) rfl
theorem tw_766 : (Jvm.Cond.static ({ cls := "java/util/Arrays", name := "fill", desc := "([II)V" } : Jvm.MethodName)) ∈ TB := tb_in 766 (by decide +kernel) rfl
theorem tw_767 : (Jvm.Cond.code ({ cls := "java/util/Arrays", name := "fill", desc := "([II)V" } : Jvm.MethodName) prog_21_method_103_code (4 : Nat) (Option.none : Option Jvm.ClassFile.FieldType)) ∈ TB := tb_in 767 (by decide +kernel) rfl
theorem tw_768 : (Jvm.Cond.methodLink "SumsThatDiffer$Climb" (50 : Nat) ({ cls := "SumsThatDiffer$Climb", name := "advance", desc := "()V" } : Jvm.MethodName)) ∈ TB := tb_in 768 (by decide +kernel) rfl
theorem tw_770 : (Jvm.Cond.instanceMethod ({ cls := "SumsThatDiffer$Climb", name := "advance", desc := "()V" } : Jvm.MethodName)) ∈ TB := tb_in 770 (by decide +kernel) rfl
theorem tw_771 : (Jvm.Cond.code ({ cls := "SumsThatDiffer$Climb", name := "advance", desc := "()V" } : Jvm.MethodName) prog_2_method_10_code (2 : Nat) (Option.none : Option Jvm.ClassFile.FieldType)) ∈ TB := tb_in 771 (by decide +kernel) rfl
theorem tw_772 : (Jvm.Cond.methodLink "SumsThatDiffer$Climb" (71 : Nat) ({ cls := "SumsThatDiffer$County", name := "roads", desc := "()I" } : Jvm.MethodName)) ∈ TB := tb_in 772 (by decide +kernel) rfl
theorem tw_773 : (Jvm.Cond.methodLink "SumsThatDiffer$Climb" (87 : Nat) ({ cls := "SumsThatDiffer$Standing", name := "isShut", desc := "(I)Z" } : Jvm.MethodName)) ∈ TB := tb_in 773 (by decide +kernel) rfl
theorem tw_774 : (Jvm.Cond.methodLink "SumsThatDiffer$Climb" (91 : Nat) ({ cls := "SumsThatDiffer$County", name := "startOf", desc := "(I)I" } : Jvm.MethodName)) ∈ TB := tb_in 774 (by decide +kernel) rfl
theorem tw_775 : (Jvm.Cond.methodLink "SumsThatDiffer$Climb" (95 : Nat) ({ cls := "SumsThatDiffer$County", name := "endOf", desc := "(I)I" } : Jvm.MethodName)) ∈ TB := tb_in 775 (by decide +kernel) rfl
theorem tw_776 : (Jvm.Cond.methodLink "SumsThatDiffer$Climb" (98 : Nat) ({ cls := "SumsThatDiffer$Climb", name := "carry", desc := "(III)V" } : Jvm.MethodName)) ∈ TB := tb_in 776 (by decide +kernel) rfl
theorem tw_778 : (Jvm.Cond.instanceMethod ({ cls := "SumsThatDiffer$Climb", name := "carry", desc := "(III)V" } : Jvm.MethodName)) ∈ TB := tb_in 778 (by decide +kernel) rfl
theorem tw_779 : (Jvm.Cond.code ({ cls := "SumsThatDiffer$Climb", name := "carry", desc := "(III)V" } : Jvm.MethodName) prog_2_method_11_code (4 : Nat) (Option.none : Option Jvm.ClassFile.FieldType)) ∈ TB := tb_in 779 (by decide +kernel) rfl
theorem tw_780 : (Jvm.Cond.methodLink "SumsThatDiffer$Climb" (102 : Nat) ({ cls := "SumsThatDiffer$County", name := "figureFrom", desc := "(II)I" } : Jvm.MethodName)) ∈ TB := tb_in 780 (by decide +kernel) rfl
theorem tw_781 : (Jvm.Cond.methodLink "SumsThatDiffer$Climb" (105 : Nat) ({ cls := "SumsThatDiffer$County", name := "sumBy", desc := "(III)I" } : Jvm.MethodName)) ∈ TB := tb_in 781 (by decide +kernel) rfl
theorem tw_782 : (Jvm.Cond.methodLink "SumsThatDiffer$Climb" (108 : Nat) ({ cls := "java/lang/Math", name := "max", desc := "(II)I" } : Jvm.MethodName)) ∈ TB := tb_in 782 (by decide +kernel) rfl
theorem tw_783 : (Jvm.Cond.static ({ cls := "java/lang/Math", name := "max", desc := "(II)I" } : Jvm.MethodName)) ∈ TB := tb_in 783 (by decide +kernel) rfl
theorem tw_784 : (Jvm.Cond.code ({ cls := "java/lang/Math", name := "max", desc := "(II)I" } : Jvm.MethodName) prog_16_method_65_code (2 : Nat) (Option.some Jvm.ClassFile.FieldType.int)) ∈ TB := tb_in 784 (by decide +kernel) rfl
theorem tw_785 : (Jvm.Cond.methodLink "SumsThatDiffer$Climb" (53 : Nat) ({ cls := "SumsThatDiffer$County", name := "places", desc := "()I" } : Jvm.MethodName)) ∈ TB := tb_in 785 (by decide +kernel) rfl
theorem tw_786 : (Jvm.Cond.instanceMethod ({ cls := "SumsThatDiffer$County", name := "places", desc := "()I" } : Jvm.MethodName)) ∈ TB := tb_in 786 (by decide +kernel) rfl
theorem tw_787 : (Jvm.Cond.selects "SumsThatDiffer$County" ({ cls := "SumsThatDiffer$County", name := "places", desc := "()I" } : Jvm.MethodName) ({ cls := "SumsThatDiffer$County", name := "places", desc := "()I" } : Jvm.MethodName)) ∈ TB := tb_in 787 (by decide +kernel) rfl
theorem tw_788 : (Jvm.Cond.code ({ cls := "SumsThatDiffer$County", name := "places", desc := "()I" } : Jvm.MethodName) prog_3_method_7_code (1 : Nat) (Option.some Jvm.ClassFile.FieldType.int)) ∈ TB := tb_in 788 (by decide +kernel) rfl
theorem tw_789 : (Jvm.Cond.methodLink "SumsThatDiffer$Climb" (57 : Nat) ({ cls := "SumsThatDiffer$Climb", name := "raise", desc := "(II)V" } : Jvm.MethodName)) ∈ TB := tb_in 789 (by decide +kernel) rfl
theorem tw_791 : (Jvm.Cond.instanceMethod ({ cls := "SumsThatDiffer$Climb", name := "raise", desc := "(II)V" } : Jvm.MethodName)) ∈ TB := tb_in 791 (by decide +kernel) rfl
theorem tw_792 : (Jvm.Cond.code ({ cls := "SumsThatDiffer$Climb", name := "raise", desc := "(II)V" } : Jvm.MethodName) prog_2_method_5_code (3 : Nat) (Option.none : Option Jvm.ClassFile.FieldType)) ∈ TB := tb_in 792 (by decide +kernel) rfl
theorem tw_797 : (Jvm.Cond.methodLink "SumsThatDiffer" (206 : Nat) ({ cls := "SumsThatDiffer$Climb", name := "findRound", desc := "()V" } : Jvm.MethodName)) ∈ TB := tb_in 797 (by decide +kernel) rfl
theorem tw_798 : (Jvm.Cond.instanceMethod ({ cls := "SumsThatDiffer$Climb", name := "findRound", desc := "()V" } : Jvm.MethodName)) ∈ TB := tb_in 798 (by decide +kernel) rfl
theorem tw_799 : (Jvm.Cond.selects "SumsThatDiffer$Climb" ({ cls := "SumsThatDiffer$Climb", name := "findRound", desc := "()V" } : Jvm.MethodName) ({ cls := "SumsThatDiffer$Climb", name := "findRound", desc := "()V" } : Jvm.MethodName)) ∈ TB := tb_in 799 (by decide +kernel) rfl
theorem tw_800 : (Jvm.Cond.code ({ cls := "SumsThatDiffer$Climb", name := "findRound", desc := "()V" } : Jvm.MethodName) prog_2_method_3_code (2 : Nat) (Option.none : Option Jvm.ClassFile.FieldType)) ∈ TB := tb_in 800 (by decide +kernel) rfl
theorem tw_801 : (Jvm.Cond.methodLink "SumsThatDiffer" (209 : Nat) ({ cls := "SumsThatDiffer$Climb", name := "gain", desc := "()I" } : Jvm.MethodName)) ∈ TB := tb_in 801 (by decide +kernel) rfl
theorem tw_802 : (Jvm.Cond.instanceMethod ({ cls := "SumsThatDiffer$Climb", name := "gain", desc := "()I" } : Jvm.MethodName)) ∈ TB := tb_in 802 (by decide +kernel) rfl
theorem tw_803 : (Jvm.Cond.selects "SumsThatDiffer$Climb" ({ cls := "SumsThatDiffer$Climb", name := "gain", desc := "()I" } : Jvm.MethodName) ({ cls := "SumsThatDiffer$Climb", name := "gain", desc := "()I" } : Jvm.MethodName)) ∈ TB := tb_in 803 (by decide +kernel) rfl
theorem tw_804 : (Jvm.Cond.code ({ cls := "SumsThatDiffer$Climb", name := "gain", desc := "()I" } : Jvm.MethodName) prog_2_method_4_code (1 : Nat) (Option.some Jvm.ClassFile.FieldType.int)) ∈ TB := tb_in 804 (by decide +kernel) rfl
theorem tw_805 : (Jvm.Cond.methodLink "SumsThatDiffer" (212 : Nat) ({ cls := "SumsThatDiffer$Climb", name := "fillRow", desc := "()V" } : Jvm.MethodName)) ∈ TB := tb_in 805 (by decide +kernel) rfl
theorem tw_806 : (Jvm.Cond.instanceMethod ({ cls := "SumsThatDiffer$Climb", name := "fillRow", desc := "()V" } : Jvm.MethodName)) ∈ TB := tb_in 806 (by decide +kernel) rfl
theorem tw_807 : (Jvm.Cond.selects "SumsThatDiffer$Climb" ({ cls := "SumsThatDiffer$Climb", name := "fillRow", desc := "()V" } : Jvm.MethodName) ({ cls := "SumsThatDiffer$Climb", name := "fillRow", desc := "()V" } : Jvm.MethodName)) ∈ TB := tb_in 807 (by decide +kernel) rfl
theorem tw_808 : (Jvm.Cond.code ({ cls := "SumsThatDiffer$Climb", name := "fillRow", desc := "()V" } : Jvm.MethodName) prog_2_method_6_code (5 : Nat) (Option.none : Option Jvm.ClassFile.FieldType)) ∈ TB := tb_in 808 (by decide +kernel) rfl
theorem tw_809 : (Jvm.Cond.methodLink "SumsThatDiffer$Climb" (60 : Nat) ({ cls := "SumsThatDiffer$Climb", name := "firstToHighest", desc := "(III)I" } : Jvm.MethodName)) ∈ TB := tb_in 809 (by decide +kernel) rfl
theorem tw_811 : (Jvm.Cond.instanceMethod ({ cls := "SumsThatDiffer$Climb", name := "firstToHighest", desc := "(III)I" } : Jvm.MethodName)) ∈ TB := tb_in 811 (by decide +kernel) rfl
theorem tw_812 : (Jvm.Cond.code ({ cls := "SumsThatDiffer$Climb", name := "firstToHighest", desc := "(III)I" } : Jvm.MethodName) prog_2_method_7_code (5 : Nat) (Option.some Jvm.ClassFile.FieldType.int)) ∈ TB := tb_in 812 (by decide +kernel) rfl
theorem tw_813 : (Jvm.Cond.methodLink "SumsThatDiffer$Climb" (74 : Nat) ({ cls := "SumsThatDiffer$County", name := "canBeCrossed", desc := "(II)Z" } : Jvm.MethodName)) ∈ TB := tb_in 813 (by decide +kernel) rfl
theorem tw_814 : (Jvm.Cond.methodLink "SumsThatDiffer$Climb" (67 : Nat) ({ cls := "SumsThatDiffer$County", name := "otherEnd", desc := "(II)I" } : Jvm.MethodName)) ∈ TB := tb_in 814 (by decide +kernel) rfl
theorem tw_815 : (Jvm.Cond.methodLink "SumsThatDiffer$Climb" (64 : Nat) ({ cls := "SumsThatDiffer$County", name := "sumBehind", desc := "(III)I" } : Jvm.MethodName)) ∈ TB := tb_in 815 (by decide +kernel) rfl
theorem tw_816 : (Jvm.Cond.methodLink "SumsThatDiffer$Climb" (78 : Nat) ({ cls := "SumsThatDiffer$Climb", name := "highestHome", desc := "(III)I" } : Jvm.MethodName)) ∈ TB := tb_in 816 (by decide +kernel) rfl
theorem tw_818 : (Jvm.Cond.instanceMethod ({ cls := "SumsThatDiffer$Climb", name := "highestHome", desc := "(III)I" } : Jvm.MethodName)) ∈ TB := tb_in 818 (by decide +kernel) rfl
theorem tw_819 : (Jvm.Cond.code ({ cls := "SumsThatDiffer$Climb", name := "highestHome", desc := "(III)I" } : Jvm.MethodName) prog_2_method_8_code (5 : Nat) (Option.some Jvm.ClassFile.FieldType.int)) ∈ TB := tb_in 819 (by decide +kernel) rfl
theorem tw_824 : (Jvm.Cond.methodLink "SumsThatDiffer" (218 : Nat) ({ cls := "SumsThatDiffer$Heights", name := "agreeNow", desc := "()Z" } : Jvm.MethodName)) ∈ TB := tb_in 824 (by decide +kernel) rfl
theorem tw_825 : (Jvm.Cond.instanceMethod ({ cls := "SumsThatDiffer$Heights", name := "agreeNow", desc := "()Z" } : Jvm.MethodName)) ∈ TB := tb_in 825 (by decide +kernel) rfl
theorem tw_826 : (Jvm.Cond.selects "SumsThatDiffer$Heights" ({ cls := "SumsThatDiffer$Heights", name := "agreeNow", desc := "()Z" } : Jvm.MethodName) ({ cls := "SumsThatDiffer$Heights", name := "agreeNow", desc := "()Z" } : Jvm.MethodName)) ∈ TB := tb_in 826 (by decide +kernel) rfl
theorem tw_827 : (Jvm.Cond.code ({ cls := "SumsThatDiffer$Heights", name := "agreeNow", desc := "()Z" } : Jvm.MethodName) prog_4_method_2_code (1 : Nat) (Option.some Jvm.ClassFile.FieldType.boolean)) ∈ TB := tb_in 827 (by decide +kernel) rfl
theorem tw_828 : (Jvm.Cond.methodLink "SumsThatDiffer$Heights" (22 : Nat) ({ cls := "SumsThatDiffer$County", name := "bitsNotShut", desc := "()I" } : Jvm.MethodName)) ∈ TB := tb_in 828 (by decide +kernel) rfl
theorem tw_829 : (Jvm.Cond.instanceMethod ({ cls := "SumsThatDiffer$County", name := "bitsNotShut", desc := "()I" } : Jvm.MethodName)) ∈ TB := tb_in 829 (by decide +kernel) rfl
theorem tw_830 : (Jvm.Cond.selects "SumsThatDiffer$County" ({ cls := "SumsThatDiffer$County", name := "bitsNotShut", desc := "()I" } : Jvm.MethodName) ({ cls := "SumsThatDiffer$County", name := "bitsNotShut", desc := "()I" } : Jvm.MethodName)) ∈ TB := tb_in 830 (by decide +kernel) rfl
theorem tw_831 : (Jvm.Cond.code ({ cls := "SumsThatDiffer$County", name := "bitsNotShut", desc := "()I" } : Jvm.MethodName) prog_3_method_24_code (1 : Nat) (Option.some Jvm.ClassFile.FieldType.int)) ∈ TB := tb_in 831 (by decide +kernel) rfl
theorem tw_832 : (Jvm.Cond.methodLink "SumsThatDiffer$County" (88 : Nat) ({ cls := "SumsThatDiffer$County", name := "bitsOfAll", desc := "()I" } : Jvm.MethodName)) ∈ TB := tb_in 832 (by decide +kernel) rfl
theorem tw_833 : (Jvm.Cond.instanceMethod ({ cls := "SumsThatDiffer$County", name := "bitsOfAll", desc := "()I" } : Jvm.MethodName)) ∈ TB := tb_in 833 (by decide +kernel) rfl
theorem tw_834 : (Jvm.Cond.selects "SumsThatDiffer$County" ({ cls := "SumsThatDiffer$County", name := "bitsOfAll", desc := "()I" } : Jvm.MethodName) ({ cls := "SumsThatDiffer$County", name := "bitsOfAll", desc := "()I" } : Jvm.MethodName)) ∈ TB := tb_in 834 (by decide +kernel) rfl
theorem tw_835 : (Jvm.Cond.code ({ cls := "SumsThatDiffer$County", name := "bitsOfAll", desc := "()I" } : Jvm.MethodName) prog_3_method_23_code (1 : Nat) (Option.some Jvm.ClassFile.FieldType.int)) ∈ TB := tb_in 835 (by decide +kernel) rfl
theorem tw_836 : (Jvm.Cond.methodLink "SumsThatDiffer$Heights" (28 : Nat) ({ cls := "SumsThatDiffer$Heights", name := "agreeBy", desc := "(I)Z" } : Jvm.MethodName)) ∈ TB := tb_in 836 (by decide +kernel) rfl
theorem tw_838 : (Jvm.Cond.instanceMethod ({ cls := "SumsThatDiffer$Heights", name := "agreeBy", desc := "(I)Z" } : Jvm.MethodName)) ∈ TB := tb_in 838 (by decide +kernel) rfl
theorem tw_839 : (Jvm.Cond.code ({ cls := "SumsThatDiffer$Heights", name := "agreeBy", desc := "(I)Z" } : Jvm.MethodName) prog_4_method_7_code (3 : Nat) (Option.some Jvm.ClassFile.FieldType.boolean)) ∈ TB := tb_in 839 (by decide +kernel) rfl
theorem tw_840 : (Jvm.Cond.methodLink "SumsThatDiffer$Heights" (56 : Nat) ({ cls := "java/util/Arrays", name := "fill", desc := "([II)V" } : Jvm.MethodName)) ∈ TB := tb_in 840 (by decide +kernel) rfl
theorem tw_841 : (Jvm.Cond.methodLink "SumsThatDiffer$Heights" (62 : Nat) ({ cls := "SumsThatDiffer$County", name := "places", desc := "()I" } : Jvm.MethodName)) ∈ TB := tb_in 841 (by decide +kernel) rfl
theorem tw_842 : (Jvm.Cond.methodLink "SumsThatDiffer$Heights" (65 : Nat) ({ cls := "SumsThatDiffer$Heights", name := "spreadFrom", desc := "(II)V" } : Jvm.MethodName)) ∈ TB := tb_in 842 (by decide +kernel) rfl
theorem tw_844 : (Jvm.Cond.instanceMethod ({ cls := "SumsThatDiffer$Heights", name := "spreadFrom", desc := "(II)V" } : Jvm.MethodName)) ∈ TB := tb_in 844 (by decide +kernel) rfl
theorem tw_845 : (Jvm.Cond.code ({ cls := "SumsThatDiffer$Heights", name := "spreadFrom", desc := "(II)V" } : Jvm.MethodName) prog_4_method_8_code (6 : Nat) (Option.none : Option Jvm.ClassFile.FieldType)) ∈ TB := tb_in 845 (by decide +kernel) rfl
theorem tw_846 : (Jvm.Cond.methodLink "SumsThatDiffer$Heights" (41 : Nat) ({ cls := "SumsThatDiffer$County", name := "roads", desc := "()I" } : Jvm.MethodName)) ∈ TB := tb_in 846 (by decide +kernel) rfl
theorem tw_847 : (Jvm.Cond.methodLink "SumsThatDiffer$Heights" (72 : Nat) ({ cls := "SumsThatDiffer$County", name := "startOf", desc := "(I)I" } : Jvm.MethodName)) ∈ TB := tb_in 847 (by decide +kernel) rfl
theorem tw_848 : (Jvm.Cond.methodLink "SumsThatDiffer$Heights" (75 : Nat) ({ cls := "SumsThatDiffer$Heights", name := "carry", desc := "(II)Z" } : Jvm.MethodName)) ∈ TB := tb_in 848 (by decide +kernel) rfl
theorem tw_850 : (Jvm.Cond.instanceMethod ({ cls := "SumsThatDiffer$Heights", name := "carry", desc := "(II)Z" } : Jvm.MethodName)) ∈ TB := tb_in 850 (by decide +kernel) rfl
theorem tw_851 : (Jvm.Cond.code ({ cls := "SumsThatDiffer$Heights", name := "carry", desc := "(II)Z" } : Jvm.MethodName) prog_4_method_9_code (4 : Nat) (Option.some Jvm.ClassFile.FieldType.boolean)) ∈ TB := tb_in 851 (by decide +kernel) rfl
theorem tw_852 : (Jvm.Cond.methodLink "SumsThatDiffer$Heights" (82 : Nat) ({ cls := "SumsThatDiffer$County", name := "otherEnd", desc := "(II)I" } : Jvm.MethodName)) ∈ TB := tb_in 852 (by decide +kernel) rfl
theorem tw_853 : (Jvm.Cond.methodLink "SumsThatDiffer$Heights" (86 : Nat) ({ cls := "SumsThatDiffer$County", name := "changeFrom", desc := "(II)I" } : Jvm.MethodName)) ∈ TB := tb_in 853 (by decide +kernel) rfl
theorem tw_854 : (Jvm.Cond.methodLink "SumsThatDiffer$Heights" (79 : Nat) ({ cls := "SumsThatDiffer$County", name := "endOf", desc := "(I)I" } : Jvm.MethodName)) ∈ TB := tb_in 854 (by decide +kernel) rfl
theorem tw_855 : (Jvm.Cond.methodLink "SumsThatDiffer$Heights" (69 : Nat) ({ cls := "SumsThatDiffer$Heights", name := "suits", desc := "(I)Z" } : Jvm.MethodName)) ∈ TB := tb_in 855 (by decide +kernel) rfl
theorem tw_857 : (Jvm.Cond.instanceMethod ({ cls := "SumsThatDiffer$Heights", name := "suits", desc := "(I)Z" } : Jvm.MethodName)) ∈ TB := tb_in 857 (by decide +kernel) rfl
theorem tw_858 : (Jvm.Cond.code ({ cls := "SumsThatDiffer$Heights", name := "suits", desc := "(I)Z" } : Jvm.MethodName) prog_4_method_10_code (5 : Nat) (Option.some Jvm.ClassFile.FieldType.boolean)) ∈ TB := tb_in 858 (by decide +kernel) rfl
theorem tw_863 : (Jvm.Cond.methodLink "SumsThatDiffer" (221 : Nat) ({ cls := "SumsThatDiffer$County", name := "hasPlace", desc := "(I)Z" } : Jvm.MethodName)) ∈ TB := tb_in 863 (by decide +kernel) rfl
theorem tw_864 : (Jvm.Cond.methodLink "SumsThatDiffer" (224 : Nat) ({ cls := "SumsThatDiffer$Heights", name := "of", desc := "(I)I" } : Jvm.MethodName)) ∈ TB := tb_in 864 (by decide +kernel) rfl
theorem tw_865 : (Jvm.Cond.instanceMethod ({ cls := "SumsThatDiffer$Heights", name := "of", desc := "(I)I" } : Jvm.MethodName)) ∈ TB := tb_in 865 (by decide +kernel) rfl
theorem tw_866 : (Jvm.Cond.selects "SumsThatDiffer$Heights" ({ cls := "SumsThatDiffer$Heights", name := "of", desc := "(I)I" } : Jvm.MethodName) ({ cls := "SumsThatDiffer$Heights", name := "of", desc := "(I)I" } : Jvm.MethodName)) ∈ TB := tb_in 866 (by decide +kernel) rfl
theorem tw_867 : (Jvm.Cond.code ({ cls := "SumsThatDiffer$Heights", name := "of", desc := "(I)I" } : Jvm.MethodName) prog_4_method_3_code (2 : Nat) (Option.some Jvm.ClassFile.FieldType.int)) ∈ TB := tb_in 867 (by decide +kernel) rfl
theorem tw_872 : (Jvm.Cond.methodLink "SumsThatDiffer" (227 : Nat) ({ cls := "SumsThatDiffer$Rings", name := "find", desc := "()Z" } : Jvm.MethodName)) ∈ TB := tb_in 872 (by decide +kernel) rfl
theorem tw_873 : (Jvm.Cond.instanceMethod ({ cls := "SumsThatDiffer$Rings", name := "find", desc := "()Z" } : Jvm.MethodName)) ∈ TB := tb_in 873 (by decide +kernel) rfl
theorem tw_874 : (Jvm.Cond.selects "SumsThatDiffer$Rings" ({ cls := "SumsThatDiffer$Rings", name := "find", desc := "()Z" } : Jvm.MethodName) ({ cls := "SumsThatDiffer$Rings", name := "find", desc := "()Z" } : Jvm.MethodName)) ∈ TB := tb_in 874 (by decide +kernel) rfl
theorem tw_875 : (Jvm.Cond.code ({ cls := "SumsThatDiffer$Rings", name := "find", desc := "()Z" } : Jvm.MethodName) prog_8_method_2_code (2 : Nat) (Option.some Jvm.ClassFile.FieldType.boolean)) ∈ TB := tb_in 875 (by decide +kernel) rfl
theorem tw_876 : (Jvm.Cond.methodLink "SumsThatDiffer$Rings" (32 : Nat) ({ cls := "SumsThatDiffer$County", name := "places", desc := "()I" } : Jvm.MethodName)) ∈ TB := tb_in 876 (by decide +kernel) rfl
theorem tw_877 : (Jvm.Cond.methodLink "SumsThatDiffer$Rings" (38 : Nat) ({ cls := "SumsThatDiffer$Rings", name := "findFrom", desc := "(I)V" } : Jvm.MethodName)) ∈ TB := tb_in 877 (by decide +kernel) rfl
theorem tw_879 : (Jvm.Cond.instanceMethod ({ cls := "SumsThatDiffer$Rings", name := "findFrom", desc := "(I)V" } : Jvm.MethodName)) ∈ TB := tb_in 879 (by decide +kernel) rfl
theorem tw_880 : (Jvm.Cond.code ({ cls := "SumsThatDiffer$Rings", name := "findFrom", desc := "(I)V" } : Jvm.MethodName) prog_8_method_3_code (3 : Nat) (Option.none : Option Jvm.ClassFile.FieldType)) ∈ TB := tb_in 880 (by decide +kernel) rfl
theorem tw_881 : (Jvm.Cond.methodLink "SumsThatDiffer$Rings" (45 : Nat) ({ cls := "SumsThatDiffer$Rings", name := "advance", desc := "()V" } : Jvm.MethodName)) ∈ TB := tb_in 881 (by decide +kernel) rfl
theorem tw_883 : (Jvm.Cond.instanceMethod ({ cls := "SumsThatDiffer$Rings", name := "advance", desc := "()V" } : Jvm.MethodName)) ∈ TB := tb_in 883 (by decide +kernel) rfl
theorem tw_884 : (Jvm.Cond.code ({ cls := "SumsThatDiffer$Rings", name := "advance", desc := "()V" } : Jvm.MethodName) prog_8_method_4_code (2 : Nat) (Option.none : Option Jvm.ClassFile.FieldType)) ∈ TB := tb_in 884 (by decide +kernel) rfl
theorem tw_885 : (Jvm.Cond.methodLink "SumsThatDiffer$Rings" (54 : Nat) ({ cls := "SumsThatDiffer$County", name := "roads", desc := "()I" } : Jvm.MethodName)) ∈ TB := tb_in 885 (by decide +kernel) rfl
theorem tw_886 : (Jvm.Cond.methodLink "SumsThatDiffer$Rings" (61 : Nat) ({ cls := "SumsThatDiffer$Standing", name := "isShut", desc := "(I)Z" } : Jvm.MethodName)) ∈ TB := tb_in 886 (by decide +kernel) rfl
theorem tw_887 : (Jvm.Cond.methodLink "SumsThatDiffer$Rings" (67 : Nat) ({ cls := "SumsThatDiffer$County", name := "startOf", desc := "(I)I" } : Jvm.MethodName)) ∈ TB := tb_in 887 (by decide +kernel) rfl
theorem tw_888 : (Jvm.Cond.methodLink "SumsThatDiffer$Rings" (71 : Nat) ({ cls := "SumsThatDiffer$County", name := "endOf", desc := "(I)I" } : Jvm.MethodName)) ∈ TB := tb_in 888 (by decide +kernel) rfl
theorem tw_889 : (Jvm.Cond.methodLink "SumsThatDiffer$Rings" (74 : Nat) ({ cls := "SumsThatDiffer$Rings", name := "carry", desc := "(III)V" } : Jvm.MethodName)) ∈ TB := tb_in 889 (by decide +kernel) rfl
theorem tw_891 : (Jvm.Cond.instanceMethod ({ cls := "SumsThatDiffer$Rings", name := "carry", desc := "(III)V" } : Jvm.MethodName)) ∈ TB := tb_in 891 (by decide +kernel) rfl
theorem tw_892 : (Jvm.Cond.code ({ cls := "SumsThatDiffer$Rings", name := "carry", desc := "(III)V" } : Jvm.MethodName) prog_8_method_5_code (6 : Nat) (Option.none : Option Jvm.ClassFile.FieldType)) ∈ TB := tb_in 892 (by decide +kernel) rfl
theorem tw_893 : (Jvm.Cond.methodLink "SumsThatDiffer$Rings" (81 : Nat) ({ cls := "SumsThatDiffer$County", name := "changeFrom", desc := "(II)I" } : Jvm.MethodName)) ∈ TB := tb_in 893 (by decide +kernel) rfl
theorem tw_894 : (Jvm.Cond.methodLink "SumsThatDiffer$Rings" (85 : Nat) ({ cls := "java/lang/Math", name := "max", desc := "(II)I" } : Jvm.MethodName)) ∈ TB := tb_in 894 (by decide +kernel) rfl
theorem tw_895 : (Jvm.Cond.methodLink "SumsThatDiffer$Rings" (90 : Nat) ({ cls := "java/lang/Math", name := "min", desc := "(II)I" } : Jvm.MethodName)) ∈ TB := tb_in 895 (by decide +kernel) rfl
theorem tw_896 : (Jvm.Cond.static ({ cls := "java/lang/Math", name := "min", desc := "(II)I" } : Jvm.MethodName)) ∈ TB := tb_in 896 (by decide +kernel) rfl
theorem tw_897 : (Jvm.Cond.code ({ cls := "java/lang/Math", name := "min", desc := "(II)I" } : Jvm.MethodName) prog_16_method_69_code (2 : Nat) (Option.some Jvm.ClassFile.FieldType.int)) ∈ TB := tb_in 897 (by decide +kernel) rfl
theorem tw_898 : (Jvm.Cond.methodLink "SumsThatDiffer$Rings" (78 : Nat) ({ cls := "SumsThatDiffer$Rings", name := "swapRows", desc := "()V" } : Jvm.MethodName)) ∈ TB := tb_in 898 (by decide +kernel) rfl
theorem tw_900 : (Jvm.Cond.instanceMethod ({ cls := "SumsThatDiffer$Rings", name := "swapRows", desc := "()V" } : Jvm.MethodName)) ∈ TB := tb_in 900 (by decide +kernel) rfl
theorem tw_901 : (Jvm.Cond.code ({ cls := "SumsThatDiffer$Rings", name := "swapRows", desc := "()V" } : Jvm.MethodName) prog_8_method_6_code (3 : Nat) (Option.none : Option Jvm.ClassFile.FieldType)) ∈ TB := tb_in 901 (by decide +kernel) rfl
theorem tw_906 : (Jvm.Cond.methodLink "SumsThatDiffer" (235 : Nat) ({ cls := "SumsThatDiffer$Heights", name := "fewestToShut", desc := "()I" } : Jvm.MethodName)) ∈ TB := tb_in 906 (by decide +kernel) rfl
theorem tw_907 : (Jvm.Cond.instanceMethod ({ cls := "SumsThatDiffer$Heights", name := "fewestToShut", desc := "()I" } : Jvm.MethodName)) ∈ TB := tb_in 907 (by decide +kernel) rfl
theorem tw_908 : (Jvm.Cond.selects "SumsThatDiffer$Heights" ({ cls := "SumsThatDiffer$Heights", name := "fewestToShut", desc := "()I" } : Jvm.MethodName) ({ cls := "SumsThatDiffer$Heights", name := "fewestToShut", desc := "()I" } : Jvm.MethodName)) ∈ TB := tb_in 908 (by decide +kernel) rfl
theorem tw_909 : (Jvm.Cond.code ({ cls := "SumsThatDiffer$Heights", name := "fewestToShut", desc := "()I" } : Jvm.MethodName) prog_4_method_5_code (6 : Nat) (Option.some Jvm.ClassFile.FieldType.int)) ∈ TB := tb_in 909 (by decide +kernel) rfl
theorem tw_910 : (Jvm.Cond.methodLink "SumsThatDiffer$Heights" (32 : Nat) ({ cls := "SumsThatDiffer$Heights", name := "unlikeWays", desc := "(I)I" } : Jvm.MethodName)) ∈ TB := tb_in 910 (by decide +kernel) rfl
theorem tw_912 : (Jvm.Cond.instanceMethod ({ cls := "SumsThatDiffer$Heights", name := "unlikeWays", desc := "(I)I" } : Jvm.MethodName)) ∈ TB := tb_in 912 (by decide +kernel) rfl
theorem tw_913 : (Jvm.Cond.code ({ cls := "SumsThatDiffer$Heights", name := "unlikeWays", desc := "(I)I" } : Jvm.MethodName) prog_4_method_6_code (4 : Nat) (Option.some Jvm.ClassFile.FieldType.int)) ∈ TB := tb_in 913 (by decide +kernel) rfl
theorem tw_914 : (Jvm.Cond.methodLink "SumsThatDiffer$Heights" (36 : Nat) ({ cls := "java/lang/Integer", name := "bitCount", desc := "(I)I" } : Jvm.MethodName)) ∈ TB := tb_in 914 (by decide +kernel) rfl
theorem tw_919 : (Jvm.Cond.methodLink "SumsThatDiffer" (238 : Nat) ({ cls := "SumsThatDiffer$Heights", name := "hangTogether", desc := "(II)Z" } : Jvm.MethodName)) ∈ TB := tb_in 919 (by decide +kernel) rfl
theorem tw_920 : (Jvm.Cond.instanceMethod ({ cls := "SumsThatDiffer$Heights", name := "hangTogether", desc := "(II)Z" } : Jvm.MethodName)) ∈ TB := tb_in 920 (by decide +kernel) rfl
theorem tw_921 : (Jvm.Cond.selects "SumsThatDiffer$Heights" ({ cls := "SumsThatDiffer$Heights", name := "hangTogether", desc := "(II)Z" } : Jvm.MethodName) ({ cls := "SumsThatDiffer$Heights", name := "hangTogether", desc := "(II)Z" } : Jvm.MethodName)) ∈ TB := tb_in 921 (by decide +kernel) rfl
theorem tw_922 : (Jvm.Cond.code ({ cls := "SumsThatDiffer$Heights", name := "hangTogether", desc := "(II)Z" } : Jvm.MethodName) prog_4_method_4_code (3 : Nat) (Option.some Jvm.ClassFile.FieldType.boolean)) ∈ TB := tb_in 922 (by decide +kernel) rfl
theorem tw_927 : (Jvm.Cond.methodLink "SumsThatDiffer" (242 : Nat) ({ cls := "SumsThatDiffer", name := "isSum", desc := "(I)Z" } : Jvm.MethodName)) ∈ TB := tb_in 927 (by decide +kernel) rfl
theorem tw_928 : (Jvm.Cond.static ({ cls := "SumsThatDiffer", name := "isSum", desc := "(I)Z" } : Jvm.MethodName)) ∈ TB := tb_in 928 (by decide +kernel) rfl
theorem tw_929 : (Jvm.Cond.code ({ cls := "SumsThatDiffer", name := "isSum", desc := "(I)Z" } : Jvm.MethodName) prog_1_method_33_code (1 : Nat) (Option.some Jvm.ClassFile.FieldType.boolean)) ∈ TB := tb_in 929 (by decide +kernel) rfl
theorem tw_930 : (Jvm.Cond.methodLink "SumsThatDiffer" (245 : Nat) ({ cls := "SumsThatDiffer$County", name := "leadsOn", desc := "(II)Z" } : Jvm.MethodName)) ∈ TB := tb_in 930 (by decide +kernel) rfl
theorem tw_931 : (Jvm.Cond.methodLink "SumsThatDiffer" (248 : Nat) ({ cls := "SumsThatDiffer$County", name := "otherEnd", desc := "(II)I" } : Jvm.MethodName)) ∈ TB := tb_in 931 (by decide +kernel) rfl
theorem tw_932 : (Jvm.Cond.methodLink "SumsThatDiffer" (252 : Nat) ({ cls := "SumsThatDiffer$Told", name := "add", desc := "(IIIII)Z" } : Jvm.MethodName)) ∈ TB := tb_in 932 (by decide +kernel) rfl
theorem tw_933 : (Jvm.Cond.instanceMethod ({ cls := "SumsThatDiffer$Told", name := "add", desc := "(IIIII)Z" } : Jvm.MethodName)) ∈ TB := tb_in 933 (by decide +kernel) rfl
theorem tw_934 : (Jvm.Cond.selects "SumsThatDiffer$Told" ({ cls := "SumsThatDiffer$Told", name := "add", desc := "(IIIII)Z" } : Jvm.MethodName) ({ cls := "SumsThatDiffer$Told", name := "add", desc := "(IIIII)Z" } : Jvm.MethodName)) ∈ TB := tb_in 934 (by decide +kernel) rfl
theorem tw_935 : (Jvm.Cond.code ({ cls := "SumsThatDiffer$Told", name := "add", desc := "(IIIII)Z" } : Jvm.MethodName) prog_10_method_4_code (6 : Nat) (Option.some Jvm.ClassFile.FieldType.boolean)) ∈ TB := tb_in 935 (by decide +kernel) rfl
theorem tw_936 : (Jvm.Cond.methodLink "SumsThatDiffer" (256 : Nat) ({ cls := "SumsThatDiffer$Told", name := "size", desc := "()I" } : Jvm.MethodName)) ∈ TB := tb_in 936 (by decide +kernel) rfl
theorem tw_937 : (Jvm.Cond.instanceMethod ({ cls := "SumsThatDiffer$Told", name := "size", desc := "()I" } : Jvm.MethodName)) ∈ TB := tb_in 937 (by decide +kernel) rfl
theorem tw_938 : (Jvm.Cond.selects "SumsThatDiffer$Told" ({ cls := "SumsThatDiffer$Told", name := "size", desc := "()I" } : Jvm.MethodName) ({ cls := "SumsThatDiffer$Told", name := "size", desc := "()I" } : Jvm.MethodName)) ∈ TB := tb_in 938 (by decide +kernel) rfl
theorem tw_939 : (Jvm.Cond.code ({ cls := "SumsThatDiffer$Told", name := "size", desc := "()I" } : Jvm.MethodName) prog_10_method_2_code (1 : Nat) (Option.some Jvm.ClassFile.FieldType.int)) ∈ TB := tb_in 939 (by decide +kernel) rfl
theorem tw_948 : (Jvm.Cond.methodLink "SumsThatDiffer" (258 : Nat) ({ cls := "SumsThatDiffer$Told", name := "wrongRoads", desc := "()I" } : Jvm.MethodName)) ∈ TB := tb_in 948 (by decide +kernel) rfl
theorem tw_949 : (Jvm.Cond.instanceMethod ({ cls := "SumsThatDiffer$Told", name := "wrongRoads", desc := "()I" } : Jvm.MethodName)) ∈ TB := tb_in 949 (by decide +kernel) rfl
theorem tw_950 : (Jvm.Cond.selects "SumsThatDiffer$Told" ({ cls := "SumsThatDiffer$Told", name := "wrongRoads", desc := "()I" } : Jvm.MethodName) ({ cls := "SumsThatDiffer$Told", name := "wrongRoads", desc := "()I" } : Jvm.MethodName)) ∈ TB := tb_in 950 (by decide +kernel) rfl
theorem tw_951 : (Jvm.Cond.code ({ cls := "SumsThatDiffer$Told", name := "wrongRoads", desc := "()I" } : Jvm.MethodName) prog_10_method_5_code (3 : Nat) (Option.some Jvm.ClassFile.FieldType.int)) ∈ TB := tb_in 951 (by decide +kernel) rfl
theorem tw_952 : (Jvm.Cond.methodLink "SumsThatDiffer$Told" (51 : Nat) ({ cls := "SumsThatDiffer$County", name := "roads", desc := "()I" } : Jvm.MethodName)) ∈ TB := tb_in 952 (by decide +kernel) rfl
theorem tw_953 : (Jvm.Cond.methodLink "SumsThatDiffer$Told" (57 : Nat) ({ cls := "SumsThatDiffer$Told", name := "suppose", desc := "(I)Z" } : Jvm.MethodName)) ∈ TB := tb_in 953 (by decide +kernel) rfl
theorem tw_955 : (Jvm.Cond.instanceMethod ({ cls := "SumsThatDiffer$Told", name := "suppose", desc := "(I)Z" } : Jvm.MethodName)) ∈ TB := tb_in 955 (by decide +kernel) rfl
theorem tw_956 : (Jvm.Cond.code ({ cls := "SumsThatDiffer$Told", name := "suppose", desc := "(I)Z" } : Jvm.MethodName) prog_10_method_8_code (6 : Nat) (Option.some Jvm.ClassFile.FieldType.boolean)) ∈ TB := tb_in 956 (by decide +kernel) rfl
theorem tw_957 : (Jvm.Cond.methodLink "SumsThatDiffer$Told" (104 : Nat) ({ cls := "SumsThatDiffer$Told", name := "sortByWays", desc := "(I)V" } : Jvm.MethodName)) ∈ TB := tb_in 957 (by decide +kernel) rfl
theorem tw_959 : (Jvm.Cond.instanceMethod ({ cls := "SumsThatDiffer$Told", name := "sortByWays", desc := "(I)V" } : Jvm.MethodName)) ∈ TB := tb_in 959 (by decide +kernel) rfl
theorem tw_960 : (Jvm.Cond.code ({ cls := "SumsThatDiffer$Told", name := "sortByWays", desc := "(I)V" } : Jvm.MethodName) prog_10_method_9_code (4 : Nat) (Option.none : Option Jvm.ClassFile.FieldType)) ∈ TB := tb_in 960 (by decide +kernel) rfl
theorem tw_961 : (Jvm.Cond.methodLink "SumsThatDiffer$Told" (117 : Nat) ({ cls := "SumsThatDiffer$County", name := "otherEnd", desc := "(II)I" } : Jvm.MethodName)) ∈ TB := tb_in 961 (by decide +kernel) rfl
theorem tw_962 : (Jvm.Cond.methodLink "SumsThatDiffer$Told" (120 : Nat) ({ cls := "SumsThatDiffer$Told", name := "wayOver", desc := "(III)I" } : Jvm.MethodName)) ∈ TB := tb_in 962 (by decide +kernel) rfl
theorem tw_964 : (Jvm.Cond.instanceMethod ({ cls := "SumsThatDiffer$Told", name := "wayOver", desc := "(III)I" } : Jvm.MethodName)) ∈ TB := tb_in 964 (by decide +kernel) rfl
theorem tw_965 : (Jvm.Cond.code ({ cls := "SumsThatDiffer$Told", name := "wayOver", desc := "(III)I" } : Jvm.MethodName) prog_10_method_10_code (4 : Nat) (Option.some Jvm.ClassFile.FieldType.int)) ∈ TB := tb_in 965 (by decide +kernel) rfl
theorem tw_966 : (Jvm.Cond.methodLink "SumsThatDiffer$Told" (87 : Nat) ({ cls := "SumsThatDiffer$County", name := "startOf", desc := "(I)I" } : Jvm.MethodName)) ∈ TB := tb_in 966 (by decide +kernel) rfl
theorem tw_967 : (Jvm.Cond.methodLink "SumsThatDiffer$Told" (108 : Nat) ({ cls := "SumsThatDiffer$Told", name := "hold", desc := "(I)Z" } : Jvm.MethodName)) ∈ TB := tb_in 967 (by decide +kernel) rfl
theorem tw_969 : (Jvm.Cond.instanceMethod ({ cls := "SumsThatDiffer$Told", name := "hold", desc := "(I)Z" } : Jvm.MethodName)) ∈ TB := tb_in 969 (by decide +kernel) rfl
theorem tw_970 : (Jvm.Cond.code ({ cls := "SumsThatDiffer$Told", name := "hold", desc := "(I)Z" } : Jvm.MethodName) prog_10_method_11_code (4 : Nat) (Option.some Jvm.ClassFile.FieldType.boolean)) ∈ TB := tb_in 970 (by decide +kernel) rfl
theorem tw_971 : (Jvm.Cond.methodLink "SumsThatDiffer$Told" (123 : Nat) ({ cls := "SumsThatDiffer$Told", name := "supposedSum", desc := "(III)I" } : Jvm.MethodName)) ∈ TB := tb_in 971 (by decide +kernel) rfl
theorem tw_973 : (Jvm.Cond.instanceMethod ({ cls := "SumsThatDiffer$Told", name := "supposedSum", desc := "(III)I" } : Jvm.MethodName)) ∈ TB := tb_in 973 (by decide +kernel) rfl
theorem tw_974 : (Jvm.Cond.code ({ cls := "SumsThatDiffer$Told", name := "supposedSum", desc := "(III)I" } : Jvm.MethodName) prog_10_method_12_code (5 : Nat) (Option.some Jvm.ClassFile.FieldType.int)) ∈ TB := tb_in 974 (by decide +kernel) rfl
theorem tw_975 : (Jvm.Cond.methodLink "SumsThatDiffer$Told" (91 : Nat) ({ cls := "SumsThatDiffer$County", name := "figureFrom", desc := "(II)I" } : Jvm.MethodName)) ∈ TB := tb_in 975 (by decide +kernel) rfl
theorem tw_976 : (Jvm.Cond.methodLink "SumsThatDiffer$Told" (97 : Nat) ({ cls := "SumsThatDiffer$County", name := "sumBy", desc := "(III)I" } : Jvm.MethodName)) ∈ TB := tb_in 976 (by decide +kernel) rfl
theorem tw_981 : (Jvm.Cond.methodLink "SumsThatDiffer" (261 : Nat) ({ cls := "SumsThatDiffer$Told", name := "findWalk", desc := "()Z" } : Jvm.MethodName)) ∈ TB := tb_in 981 (by decide +kernel) rfl
theorem tw_982 : (Jvm.Cond.instanceMethod ({ cls := "SumsThatDiffer$Told", name := "findWalk", desc := "()Z" } : Jvm.MethodName)) ∈ TB := tb_in 982 (by decide +kernel) rfl
theorem tw_983 : (Jvm.Cond.selects "SumsThatDiffer$Told" ({ cls := "SumsThatDiffer$Told", name := "findWalk", desc := "()Z" } : Jvm.MethodName) ({ cls := "SumsThatDiffer$Told", name := "findWalk", desc := "()Z" } : Jvm.MethodName)) ∈ TB := tb_in 983 (by decide +kernel) rfl
theorem tw_984 : (Jvm.Cond.code ({ cls := "SumsThatDiffer$Told", name := "findWalk", desc := "()Z" } : Jvm.MethodName) prog_10_method_6_code (4 : Nat) (Option.some Jvm.ClassFile.FieldType.boolean)) ∈ TB := tb_in 984 (by decide +kernel) rfl
theorem tw_985 : (Jvm.Cond.methodLink "SumsThatDiffer$Told" (61 : Nat) ({ cls := "SumsThatDiffer$Told", name := "wrongRoads", desc := "()I" } : Jvm.MethodName)) ∈ TB := tb_in 985 (by decide +kernel) rfl
theorem tw_986 : (Jvm.Cond.methodLink "SumsThatDiffer$Told" (76 : Nat) ({ cls := "SumsThatDiffer$County", name := "canBeCrossed", desc := "(II)Z" } : Jvm.MethodName)) ∈ TB := tb_in 986 (by decide +kernel) rfl
theorem tw_987 : (Jvm.Cond.methodLink "SumsThatDiffer$Told" (80 : Nat) ({ cls := "SumsThatDiffer$Told", name := "unlikeSums", desc := "(II)I" } : Jvm.MethodName)) ∈ TB := tb_in 987 (by decide +kernel) rfl
theorem tw_989 : (Jvm.Cond.instanceMethod ({ cls := "SumsThatDiffer$Told", name := "unlikeSums", desc := "(II)I" } : Jvm.MethodName)) ∈ TB := tb_in 989 (by decide +kernel) rfl
theorem tw_990 : (Jvm.Cond.code ({ cls := "SumsThatDiffer$Told", name := "unlikeSums", desc := "(II)I" } : Jvm.MethodName) prog_10_method_7_code (12 : Nat) (Option.some Jvm.ClassFile.FieldType.int)) ∈ TB := tb_in 990 (by decide +kernel) rfl
theorem tw_999 : (Jvm.Cond.methodLink "SumsThatDiffer" (273 : Nat) ({ cls := "SumsThatDiffer$Weather", name := "findChance", desc := "(III)V" } : Jvm.MethodName)) ∈ TB := tb_in 999 (by decide +kernel) rfl
theorem tw_1000 : (Jvm.Cond.instanceMethod ({ cls := "SumsThatDiffer$Weather", name := "findChance", desc := "(III)V" } : Jvm.MethodName)) ∈ TB := tb_in 1000 (by decide +kernel) rfl
theorem tw_1001 : (Jvm.Cond.selects "SumsThatDiffer$Weather" ({ cls := "SumsThatDiffer$Weather", name := "findChance", desc := "(III)V" } : Jvm.MethodName) ({ cls := "SumsThatDiffer$Weather", name := "findChance", desc := "(III)V" } : Jvm.MethodName)) ∈ TB := tb_in 1001 (by decide +kernel) rfl
theorem tw_1002 : (Jvm.Cond.code ({ cls := "SumsThatDiffer$Weather", name := "findChance", desc := "(III)V" } : Jvm.MethodName) prog_12_method_2_code (7 : Nat) (Option.none : Option Jvm.ClassFile.FieldType)) ∈ TB := tb_in 1002 (by decide +kernel) rfl
theorem tw_1003 : (Jvm.Cond.methodLink "SumsThatDiffer$Weather" (19 : Nat) ({ cls := "SumsThatDiffer$County", name := "bitsNotShut", desc := "()I" } : Jvm.MethodName)) ∈ TB := tb_in 1003 (by decide +kernel) rfl
theorem tw_1004 : (Jvm.Cond.methodLink "SumsThatDiffer$Weather" (25 : Nat) ({ cls := "java/lang/Integer", name := "bitCount", desc := "(I)I" } : Jvm.MethodName)) ∈ TB := tb_in 1004 (by decide +kernel) rfl
theorem tw_1005 : (Jvm.Cond.methodLink "SumsThatDiffer$Weather" (31 : Nat) ({ cls := "SumsThatDiffer$Weather", name := "countSets", desc := "(III)V" } : Jvm.MethodName)) ∈ TB := tb_in 1005 (by decide +kernel) rfl
theorem tw_1007 : (Jvm.Cond.instanceMethod ({ cls := "SumsThatDiffer$Weather", name := "countSets", desc := "(III)V" } : Jvm.MethodName)) ∈ TB := tb_in 1007 (by decide +kernel) rfl
theorem tw_1008 : (Jvm.Cond.code ({ cls := "SumsThatDiffer$Weather", name := "countSets", desc := "(III)V" } : Jvm.MethodName) prog_12_method_3_code (5 : Nat) (Option.none : Option Jvm.ClassFile.FieldType)) ∈ TB := tb_in 1008 (by decide +kernel) rfl
theorem tw_1009 : (Jvm.Cond.methodLink "SumsThatDiffer$Weather" (49 : Nat) ({ cls := "java/util/Arrays", name := "fill", desc := "([II)V" } : Jvm.MethodName)) ∈ TB := tb_in 1009 (by decide +kernel) rfl
theorem tw_1010 : (Jvm.Cond.methodLink "SumsThatDiffer$Weather" (55 : Nat) ({ cls := "SumsThatDiffer$Weather", name := "leads", desc := "(III)Z" } : Jvm.MethodName)) ∈ TB := tb_in 1010 (by decide +kernel) rfl
theorem tw_1012 : (Jvm.Cond.instanceMethod ({ cls := "SumsThatDiffer$Weather", name := "leads", desc := "(III)Z" } : Jvm.MethodName)) ∈ TB := tb_in 1012 (by decide +kernel) rfl
theorem tw_1013 : (Jvm.Cond.code ({ cls := "SumsThatDiffer$Weather", name := "leads", desc := "(III)Z" } : Jvm.MethodName) prog_12_method_4_code (9 : Nat) (Option.some Jvm.ClassFile.FieldType.boolean)) ∈ TB := tb_in 1013 (by decide +kernel) rfl
theorem tw_1014 : (Jvm.Cond.methodLink "SumsThatDiffer$Weather" (59 : Nat) ({ cls := "SumsThatDiffer$County", name := "roads", desc := "()I" } : Jvm.MethodName)) ∈ TB := tb_in 1014 (by decide +kernel) rfl
theorem tw_1015 : (Jvm.Cond.methodLink "SumsThatDiffer$Weather" (62 : Nat) ({ cls := "SumsThatDiffer$County", name := "startOf", desc := "(I)I" } : Jvm.MethodName)) ∈ TB := tb_in 1015 (by decide +kernel) rfl
theorem tw_1016 : (Jvm.Cond.methodLink "SumsThatDiffer$Weather" (65 : Nat) ({ cls := "SumsThatDiffer$County", name := "endOf", desc := "(I)I" } : Jvm.MethodName)) ∈ TB := tb_in 1016 (by decide +kernel) rfl
theorem tw_1017 : (Jvm.Cond.methodLink "SumsThatDiffer$Weather" (39 : Nat) ({ cls := "SumsThatDiffer$Weather", name := "power", desc := "(II)J" } : Jvm.MethodName)) ∈ TB := tb_in 1017 (by decide +kernel) rfl
theorem tw_1018 : (Jvm.Cond.static ({ cls := "SumsThatDiffer$Weather", name := "power", desc := "(II)J" } : Jvm.MethodName)) ∈ TB := tb_in 1018 (by decide +kernel) rfl
theorem tw_1019 : (Jvm.Cond.code ({ cls := "SumsThatDiffer$Weather", name := "power", desc := "(II)J" } : Jvm.MethodName) prog_12_method_5_code (5 : Nat) (Option.some Jvm.ClassFile.FieldType.long)) ∈ TB := tb_in 1019 (by decide +kernel) rfl
theorem tw_1020 : (Jvm.Cond.methodLink "SumsThatDiffer$Weather" (46 : Nat) ({ cls := "SumsThatDiffer$Weather", name := "lowestTerms", desc := "()V" } : Jvm.MethodName)) ∈ TB := tb_in 1020 (by decide +kernel) rfl
theorem tw_1022 : (Jvm.Cond.instanceMethod ({ cls := "SumsThatDiffer$Weather", name := "lowestTerms", desc := "()V" } : Jvm.MethodName)) ∈ TB := tb_in 1022 (by decide +kernel) rfl
theorem tw_1023 : (Jvm.Cond.code ({ cls := "SumsThatDiffer$Weather", name := "lowestTerms", desc := "()V" } : Jvm.MethodName) prog_12_method_6_code (8 : Nat) (Option.none : Option Jvm.ClassFile.FieldType)) ∈ TB := tb_in 1023 (by decide +kernel) rfl
theorem tw_1028 : (Jvm.Cond.methodLink "SumsThatDiffer" (284 : Nat) ({ cls := "SumsThatDiffer$Walker", name := "followDraws", desc := "(II)V" } : Jvm.MethodName)) ∈ TB := tb_in 1028 (by decide +kernel) rfl
theorem tw_1029 : (Jvm.Cond.instanceMethod ({ cls := "SumsThatDiffer$Walker", name := "followDraws", desc := "(II)V" } : Jvm.MethodName)) ∈ TB := tb_in 1029 (by decide +kernel) rfl
theorem tw_1030 : (Jvm.Cond.selects "SumsThatDiffer$Walker" ({ cls := "SumsThatDiffer$Walker", name := "followDraws", desc := "(II)V" } : Jvm.MethodName) ({ cls := "SumsThatDiffer$Walker", name := "followDraws", desc := "(II)V" } : Jvm.MethodName)) ∈ TB := tb_in 1030 (by decide +kernel) rfl
theorem tw_1031 : (Jvm.Cond.code ({ cls := "SumsThatDiffer$Walker", name := "followDraws", desc := "(II)V" } : Jvm.MethodName) prog_11_method_5_code (5 : Nat) (Option.none : Option Jvm.ClassFile.FieldType)) ∈ TB := tb_in 1031 (by decide +kernel) rfl
theorem tw_1032 : (Jvm.Cond.methodLink "SumsThatDiffer$Walker" (66 : Nat) ({ cls := "SumsThatDiffer$County", name := "roads", desc := "()I" } : Jvm.MethodName)) ∈ TB := tb_in 1032 (by decide +kernel) rfl
theorem tw_1033 : (Jvm.Cond.methodLink "SumsThatDiffer$Walker" (69 : Nat) ({ cls := "SumsThatDiffer$Walker", name := "draw", desc := "(II)I" } : Jvm.MethodName)) ∈ TB := tb_in 1033 (by decide +kernel) rfl
theorem tw_1034 : (Jvm.Cond.static ({ cls := "SumsThatDiffer$Walker", name := "draw", desc := "(II)I" } : Jvm.MethodName)) ∈ TB := tb_in 1034 (by decide +kernel) rfl
theorem tw_1035 : (Jvm.Cond.code ({ cls := "SumsThatDiffer$Walker", name := "draw", desc := "(II)I" } : Jvm.MethodName) prog_11_method_6_code (4 : Nat) (Option.some Jvm.ClassFile.FieldType.int)) ∈ TB := tb_in 1035 (by decide +kernel) rfl
theorem tw_1036 : (Jvm.Cond.constantLong "SumsThatDiffer$Walker" (72 : Nat) (7919 : Int64)) ∈ TB := tb_in 1036 (by decide +kernel) rfl
theorem tw_1037 : (Jvm.Cond.constantLong "SumsThatDiffer$Walker" (74 : Nat) (6151 : Int64)) ∈ TB := tb_in 1037 (by decide +kernel) rfl
theorem tw_1038 : (Jvm.Cond.constantLong "SumsThatDiffer$Walker" (76 : Nat) (65521 : Int64)) ∈ TB := tb_in 1038 (by decide +kernel) rfl
theorem tw_1039 : (Jvm.Cond.constantLong "SumsThatDiffer$Walker" (78 : Nat) (8 : Int64)) ∈ TB := tb_in 1039 (by decide +kernel) rfl
theorem tw_1044 : (Jvm.Cond.methodLink "SumsThatDiffer" (291 : Nat) ({ cls := "SumsThatDiffer$Pile", name := "isFull", desc := "()Z" } : Jvm.MethodName)) ∈ TB := tb_in 1044 (by decide +kernel) rfl
theorem tw_1053 : (Jvm.Cond.methodLink "SumsThatDiffer" (295 : Nat) ({ cls := "SumsThatDiffer$County", name := "places", desc := "()I" } : Jvm.MethodName)) ∈ TB := tb_in 1053 (by decide +kernel) rfl
theorem tw_1059 : (Jvm.Cond.methodLink "SumsThatDifferModel" (1 : Nat) ({ cls := "java/lang/Object", name := "<init>", desc := "()V" } : Jvm.MethodName)) ∈ TB := tb_in 1059 (by decide +kernel) rfl
theorem tw_1060 : (Jvm.Cond.methodLink "SumsThatDifferModel" (68 : Nat) ({ cls := "SumsThatDifferModel", name := "clean", desc := "()V" } : Jvm.MethodName)) ∈ TB := tb_in 1060 (by decide +kernel) rfl
theorem tw_1062 : (Jvm.Cond.instanceMethod ({ cls := "SumsThatDifferModel", name := "clean", desc := "()V" } : Jvm.MethodName)) ∈ TB := tb_in 1062 (by decide +kernel) rfl
theorem tw_1063 : (Jvm.Cond.code ({ cls := "SumsThatDifferModel", name := "clean", desc := "()V" } : Jvm.MethodName) prog_14_method_9_code (2 : Nat) (Option.none : Option Jvm.ClassFile.FieldType)) ∈ TB := tb_in 1063 (by decide +kernel) rfl
theorem tw_1064 : (Jvm.Cond.methodLink "SumsThatDifferModel" (71 : Nat) ({ cls := "SumsThatDifferModel", name := "comes", desc := "(IIIII)V" } : Jvm.MethodName)) ∈ TB := tb_in 1064 (by decide +kernel) rfl
theorem tw_1066 : (Jvm.Cond.instanceMethod ({ cls := "SumsThatDifferModel", name := "comes", desc := "(IIIII)V" } : Jvm.MethodName)) ∈ TB := tb_in 1066 (by decide +kernel) rfl
theorem tw_1067 : (Jvm.Cond.code ({ cls := "SumsThatDifferModel", name := "comes", desc := "(IIIII)V" } : Jvm.MethodName) prog_14_method_10_code (7 : Nat) (Option.none : Option Jvm.ClassFile.FieldType)) ∈ TB := tb_in 1067 (by decide +kernel) rfl
theorem tw_1068 : (Jvm.Cond.methodLink "SumsThatDifferModel" (75 : Nat) ({ cls := "SumsThatDifferModel", name := "begins", desc := "()V" } : Jvm.MethodName)) ∈ TB := tb_in 1068 (by decide +kernel) rfl
theorem tw_1070 : (Jvm.Cond.instanceMethod ({ cls := "SumsThatDifferModel", name := "begins", desc := "()V" } : Jvm.MethodName)) ∈ TB := tb_in 1070 (by decide +kernel) rfl
theorem tw_1071 : (Jvm.Cond.code ({ cls := "SumsThatDifferModel", name := "begins", desc := "()V" } : Jvm.MethodName) prog_14_method_19_code (2 : Nat) (Option.none : Option Jvm.ClassFile.FieldType)) ∈ TB := tb_in 1071 (by decide +kernel) rfl
theorem tw_1072 : (Jvm.Cond.fieldLink "SumsThatDifferModel" (7 : Nat) "SumsThatDifferModel" "county" "[I") ∈ TB := tb_in 1072 (by decide +kernel) rfl
theorem tw_1073 : (Jvm.Cond.fieldLink "SumsThatDifferModel" (13 : Nat) "SumsThatDifferModel" "read" "[I") ∈ TB := tb_in 1073 (by decide +kernel) rfl
theorem tw_1074 : (Jvm.Cond.fieldLink "SumsThatDifferModel" (16 : Nat) "SumsThatDifferModel" "now" "[I") ∈ TB := tb_in 1074 (by decide +kernel) rfl
theorem tw_1075 : (Jvm.Cond.fieldLink "SumsThatDifferModel" (19 : Nat) "SumsThatDifferModel" "past" "[I") ∈ TB := tb_in 1075 (by decide +kernel) rfl
theorem tw_1076 : (Jvm.Cond.fieldLink "SumsThatDifferModel" (129 : Nat) "SumsThatDifferModel" "undos" "I") ∈ TB := tb_in 1076 (by decide +kernel) rfl
theorem tw_1077 : (Jvm.Cond.fieldLink "SumsThatDifferModel" (22 : Nat) "SumsThatDifferModel" "kept" "[I") ∈ TB := tb_in 1077 (by decide +kernel) rfl
theorem tw_1078 : (Jvm.Cond.fieldLink "SumsThatDifferModel" (132 : Nat) "SumsThatDifferModel" "keptMany" "I") ∈ TB := tb_in 1078 (by decide +kernel) rfl
theorem tw_1079 : (Jvm.Cond.fieldLink "SumsThatDifferModel" (25 : Nat) "SumsThatDifferModel" "text" "[I") ∈ TB := tb_in 1079 (by decide +kernel) rfl
theorem tw_1080 : (Jvm.Cond.fieldLink "SumsThatDifferModel" (86 : Nat) "SumsThatDifferModel" "size" "I") ∈ TB := tb_in 1080 (by decide +kernel) rfl
theorem tw_1081 : (Jvm.Cond.fieldLink "SumsThatDifferModel" (28 : Nat) "SumsThatDifferModel" "told" "[I") ∈ TB := tb_in 1081 (by decide +kernel) rfl
theorem tw_1082 : (Jvm.Cond.fieldLink "SumsThatDifferModel" (135 : Nat) "SumsThatDifferModel" "toldMany" "I") ∈ TB := tb_in 1082 (by decide +kernel) rfl
theorem tw_1083 : (Jvm.Cond.fieldLink "SumsThatDifferModel" (90 : Nat) "SumsThatDifferModel" "onlyN" "Z") ∈ TB := tb_in 1083 (by decide +kernel) rfl
theorem tw_1084 : (Jvm.Cond.fieldLink "SumsThatDifferModel" (94 : Nat) "SumsThatDifferModel" "at" "I") ∈ TB := tb_in 1084 (by decide +kernel) rfl
theorem tw_1085 : (Jvm.Cond.fieldLink "SumsThatDifferModel" (31 : Nat) "SumsThatDifferModel" "numbers" "[I") ∈ TB := tb_in 1085 (by decide +kernel) rfl
theorem tw_1086 : (Jvm.Cond.fieldLink "SumsThatDifferModel" (185 : Nat) "SumsThatDifferModel" "wherePlace" "I") ∈ TB := tb_in 1086 (by decide +kernel) rfl
theorem tw_1087 : (Jvm.Cond.fieldLink "SumsThatDifferModel" (188 : Nat) "SumsThatDifferModel" "whereSum" "I") ∈ TB := tb_in 1087 (by decide +kernel) rfl
theorem tw_1088 : (Jvm.Cond.fieldLink "SumsThatDifferModel" (34 : Nat) "SumsThatDifferModel" "greatest" "[I") ∈ TB := tb_in 1088 (by decide +kernel) rfl
theorem tw_1089 : (Jvm.Cond.fieldLink "SumsThatDifferModel" (37 : Nat) "SumsThatDifferModel" "next" "[I") ∈ TB := tb_in 1089 (by decide +kernel) rfl
theorem tw_1090 : (Jvm.Cond.fieldLink "SumsThatDifferModel" (40 : Nat) "SumsThatDifferModel" "row" "[I") ∈ TB := tb_in 1090 (by decide +kernel) rfl
theorem tw_1091 : (Jvm.Cond.fieldLink "SumsThatDifferModel" (43 : Nat) "SumsThatDifferModel" "places" "[I") ∈ TB := tb_in 1091 (by decide +kernel) rfl
theorem tw_1092 : (Jvm.Cond.fieldLink "SumsThatDifferModel" (46 : Nat) "SumsThatDifferModel" "sums" "[I") ∈ TB := tb_in 1092 (by decide +kernel) rfl
theorem tw_1093 : (Jvm.Cond.fieldLink "SumsThatDifferModel" (49 : Nat) "SumsThatDifferModel" "best" "[I") ∈ TB := tb_in 1093 (by decide +kernel) rfl
theorem tw_1094 : (Jvm.Cond.fieldLink "SumsThatDifferModel" (199 : Nat) "SumsThatDifferModel" "bestLong" "I") ∈ TB := tb_in 1094 (by decide +kernel) rfl
theorem tw_1095 : (Jvm.Cond.fieldLink "SumsThatDifferModel" (196 : Nat) "SumsThatDifferModel" "bestSum" "I") ∈ TB := tb_in 1095 (by decide +kernel) rfl
theorem tw_1096 : (Jvm.Cond.fieldLink "SumsThatDifferModel" (52 : Nat) "SumsThatDifferModel" "heights" "[I") ∈ TB := tb_in 1096 (by decide +kernel) rfl
theorem tw_1097 : (Jvm.Cond.fieldLink "SumsThatDifferModel" (55 : Nat) "SumsThatDifferModel" "group" "[I") ∈ TB := tb_in 1097 (by decide +kernel) rfl
theorem tw_1098 : (Jvm.Cond.fieldLink "SumsThatDifferModel" (58 : Nat) "SumsThatDifferModel" "marks" "[Z") ∈ TB := tb_in 1098 (by decide +kernel) rfl
theorem tw_1099 : (Jvm.Cond.fieldLink "SumsThatDifferModel" (62 : Nat) "SumsThatDifferModel" "marksNext" "[Z") ∈ TB := tb_in 1099 (by decide +kernel) rfl
theorem tw_1100 : (Jvm.Cond.fieldLink "SumsThatDifferModel" (65 : Nat) "SumsThatDifferModel" "seen" "[Z") ∈ TB := tb_in 1100 (by decide +kernel) rfl
theorem tw_1101 : (Jvm.Cond.laysFinal "SumsThatDifferModel" "SumsThatDifferModel" "county" "[I") ∈ TB := tb_in 1101 (by decide +kernel) rfl
theorem tw_1103 : (Jvm.Cond.laysFinal "SumsThatDifferModel" "SumsThatDifferModel" "read" "[I") ∈ TB := tb_in 1103 (by decide +kernel) rfl
theorem tw_1105 : (Jvm.Cond.laysFinal "SumsThatDifferModel" "SumsThatDifferModel" "now" "[I") ∈ TB := tb_in 1105 (by decide +kernel) rfl
theorem tw_1107 : (Jvm.Cond.laysFinal "SumsThatDifferModel" "SumsThatDifferModel" "past" "[I") ∈ TB := tb_in 1107 (by decide +kernel) rfl
theorem tw_1109 : (Jvm.Cond.lays "SumsThatDifferModel" "SumsThatDifferModel" "undos" "I") ∈ TB := tb_in 1109 (by decide +kernel) rfl
theorem tw_1111 : (Jvm.Cond.laysFinal "SumsThatDifferModel" "SumsThatDifferModel" "kept" "[I") ∈ TB := tb_in 1111 (by decide +kernel) rfl
theorem tw_1113 : (Jvm.Cond.lays "SumsThatDifferModel" "SumsThatDifferModel" "keptMany" "I") ∈ TB := tb_in 1113 (by decide +kernel) rfl
theorem tw_1115 : (Jvm.Cond.laysFinal "SumsThatDifferModel" "SumsThatDifferModel" "text" "[I") ∈ TB := tb_in 1115 (by decide +kernel) rfl
theorem tw_1117 : (Jvm.Cond.lays "SumsThatDifferModel" "SumsThatDifferModel" "size" "I") ∈ TB := tb_in 1117 (by decide +kernel) rfl
theorem tw_1119 : (Jvm.Cond.laysFinal "SumsThatDifferModel" "SumsThatDifferModel" "told" "[I") ∈ TB := tb_in 1119 (by decide +kernel) rfl
theorem tw_1121 : (Jvm.Cond.lays "SumsThatDifferModel" "SumsThatDifferModel" "toldMany" "I") ∈ TB := tb_in 1121 (by decide +kernel) rfl
theorem tw_1123 : (Jvm.Cond.lays "SumsThatDifferModel" "SumsThatDifferModel" "onlyN" "Z") ∈ TB := tb_in 1123 (by decide +kernel) rfl
theorem tw_1125 : (Jvm.Cond.lays "SumsThatDifferModel" "SumsThatDifferModel" "at" "I") ∈ TB := tb_in 1125 (by decide +kernel) rfl
theorem tw_1127 : (Jvm.Cond.laysFinal "SumsThatDifferModel" "SumsThatDifferModel" "numbers" "[I") ∈ TB := tb_in 1127 (by decide +kernel) rfl
theorem tw_1129 : (Jvm.Cond.lays "SumsThatDifferModel" "SumsThatDifferModel" "wherePlace" "I") ∈ TB := tb_in 1129 (by decide +kernel) rfl
theorem tw_1131 : (Jvm.Cond.lays "SumsThatDifferModel" "SumsThatDifferModel" "whereSum" "I") ∈ TB := tb_in 1131 (by decide +kernel) rfl
theorem tw_1133 : (Jvm.Cond.laysFinal "SumsThatDifferModel" "SumsThatDifferModel" "greatest" "[I") ∈ TB := tb_in 1133 (by decide +kernel) rfl
theorem tw_1135 : (Jvm.Cond.laysFinal "SumsThatDifferModel" "SumsThatDifferModel" "next" "[I") ∈ TB := tb_in 1135 (by decide +kernel) rfl
theorem tw_1137 : (Jvm.Cond.laysFinal "SumsThatDifferModel" "SumsThatDifferModel" "row" "[I") ∈ TB := tb_in 1137 (by decide +kernel) rfl
theorem tw_1139 : (Jvm.Cond.laysFinal "SumsThatDifferModel" "SumsThatDifferModel" "places" "[I") ∈ TB := tb_in 1139 (by decide +kernel) rfl
theorem tw_1141 : (Jvm.Cond.laysFinal "SumsThatDifferModel" "SumsThatDifferModel" "sums" "[I") ∈ TB := tb_in 1141 (by decide +kernel) rfl
theorem tw_1143 : (Jvm.Cond.laysFinal "SumsThatDifferModel" "SumsThatDifferModel" "best" "[I") ∈ TB := tb_in 1143 (by decide +kernel) rfl
theorem tw_1145 : (Jvm.Cond.lays "SumsThatDifferModel" "SumsThatDifferModel" "bestLong" "I") ∈ TB := tb_in 1145 (by decide +kernel) rfl
theorem tw_1147 : (Jvm.Cond.lays "SumsThatDifferModel" "SumsThatDifferModel" "bestSum" "I") ∈ TB := tb_in 1147 (by decide +kernel) rfl
theorem tw_1149 : (Jvm.Cond.laysFinal "SumsThatDifferModel" "SumsThatDifferModel" "heights" "[I") ∈ TB := tb_in 1149 (by decide +kernel) rfl
theorem tw_1151 : (Jvm.Cond.laysFinal "SumsThatDifferModel" "SumsThatDifferModel" "group" "[I") ∈ TB := tb_in 1151 (by decide +kernel) rfl
theorem tw_1153 : (Jvm.Cond.laysFinal "SumsThatDifferModel" "SumsThatDifferModel" "marks" "[Z") ∈ TB := tb_in 1153 (by decide +kernel) rfl
theorem tw_1155 : (Jvm.Cond.laysFinal "SumsThatDifferModel" "SumsThatDifferModel" "marksNext" "[Z") ∈ TB := tb_in 1155 (by decide +kernel) rfl
theorem tw_1157 : (Jvm.Cond.laysFinal "SumsThatDifferModel" "SumsThatDifferModel" "seen" "[Z") ∈ TB := tb_in 1157 (by decide +kernel) rfl
theorem tw_1164 : (Jvm.Cond.constantLong "SumsThatDifferModel" (82 : Nat) (32 : Int64)) ∈ TB := tb_in 1164 (by decide +kernel) rfl
theorem tw_1165 : (Jvm.Cond.constantLong "SumsThatDifferModel" (84 : Nat) (126 : Int64)) ∈ TB := tb_in 1165 (by decide +kernel) rfl
theorem tw_1166 : (Jvm.Cond.methodLink "SumsThatDifferModel" (78 : Nat) ({ cls := "SumsThatDifferModel", name := "in", desc := "(JJJ)Z" } : Jvm.MethodName)) ∈ TB := tb_in 1166 (by decide +kernel) rfl
theorem tw_1167 : (Jvm.Cond.static ({ cls := "SumsThatDifferModel", name := "in", desc := "(JJJ)Z" } : Jvm.MethodName)) ∈ TB := tb_in 1167 (by decide +kernel) rfl
theorem tw_1168 : (Jvm.Cond.code ({ cls := "SumsThatDifferModel", name := "in", desc := "(JJJ)Z" } : Jvm.MethodName) prog_14_method_3_code (6 : Nat) (Option.some Jvm.ClassFile.FieldType.boolean)) ∈ TB := tb_in 1168 (by decide +kernel) rfl
theorem tw_1174 : (Jvm.Cond.instanceMethod ({ cls := "SumsThatDifferModel", name := "fault", desc := "()I" } : Jvm.MethodName)) ∈ TB := tb_in 1174 (by decide +kernel) rfl
theorem tw_1175 : (Jvm.Cond.selects "SumsThatDifferModel" ({ cls := "SumsThatDifferModel", name := "fault", desc := "()I" } : Jvm.MethodName) ({ cls := "SumsThatDifferModel", name := "fault", desc := "()I" } : Jvm.MethodName)) ∈ TB := tb_in 1175 (by decide +kernel) rfl
theorem tw_1176 : (Jvm.Cond.code ({ cls := "SumsThatDifferModel", name := "fault", desc := "()I" } : Jvm.MethodName) prog_14_method_18_code (2 : Nat) (Option.some Jvm.ClassFile.FieldType.int)) ∈ TB := tb_in 1176 (by decide +kernel) rfl
theorem tw_1177 : (Jvm.Cond.methodLink "SumsThatDifferModel" (126 : Nat) ({ cls := "SumsThatDifferModel", name := "takesItem", desc := "()Z" } : Jvm.MethodName)) ∈ TB := tb_in 1177 (by decide +kernel) rfl
theorem tw_1179 : (Jvm.Cond.instanceMethod ({ cls := "SumsThatDifferModel", name := "takesItem", desc := "()Z" } : Jvm.MethodName)) ∈ TB := tb_in 1179 (by decide +kernel) rfl
theorem tw_1180 : (Jvm.Cond.code ({ cls := "SumsThatDifferModel", name := "takesItem", desc := "()Z" } : Jvm.MethodName) prog_14_method_17_code (2 : Nat) (Option.some Jvm.ClassFile.FieldType.boolean)) ∈ TB := tb_in 1180 (by decide +kernel) rfl
theorem tw_1181 : (Jvm.Cond.methodLink "SumsThatDifferModel" (97 : Nat) ({ cls := "SumsThatDifferModel", name := "here", desc := "()I" } : Jvm.MethodName)) ∈ TB := tb_in 1181 (by decide +kernel) rfl
theorem tw_1183 : (Jvm.Cond.instanceMethod ({ cls := "SumsThatDifferModel", name := "here", desc := "()I" } : Jvm.MethodName)) ∈ TB := tb_in 1183 (by decide +kernel) rfl
theorem tw_1184 : (Jvm.Cond.code ({ cls := "SumsThatDifferModel", name := "here", desc := "()I" } : Jvm.MethodName) prog_14_method_11_code (1 : Nat) (Option.some Jvm.ClassFile.FieldType.int)) ∈ TB := tb_in 1184 (by decide +kernel) rfl
theorem tw_1185 : (Jvm.Cond.methodLink "SumsThatDifferModel" (113 : Nat) ({ cls := "SumsThatDifferModel", name := "takesPlaces", desc := "()Z" } : Jvm.MethodName)) ∈ TB := tb_in 1185 (by decide +kernel) rfl
theorem tw_1187 : (Jvm.Cond.instanceMethod ({ cls := "SumsThatDifferModel", name := "takesPlaces", desc := "()Z" } : Jvm.MethodName)) ∈ TB := tb_in 1187 (by decide +kernel) rfl
theorem tw_1188 : (Jvm.Cond.code ({ cls := "SumsThatDifferModel", name := "takesPlaces", desc := "()Z" } : Jvm.MethodName) prog_14_method_13_code (1 : Nat) (Option.some Jvm.ClassFile.FieldType.boolean)) ∈ TB := tb_in 1188 (by decide +kernel) rfl
theorem tw_1189 : (Jvm.Cond.methodLink "SumsThatDifferModel" (107 : Nat) ({ cls := "SumsThatDifferModel", name := "takes", desc := "(I)Z" } : Jvm.MethodName)) ∈ TB := tb_in 1189 (by decide +kernel) rfl
theorem tw_1191 : (Jvm.Cond.instanceMethod ({ cls := "SumsThatDifferModel", name := "takes", desc := "(I)Z" } : Jvm.MethodName)) ∈ TB := tb_in 1191 (by decide +kernel) rfl
theorem tw_1192 : (Jvm.Cond.code ({ cls := "SumsThatDifferModel", name := "takes", desc := "(I)Z" } : Jvm.MethodName) prog_14_method_12_code (5 : Nat) (Option.some Jvm.ClassFile.FieldType.boolean)) ∈ TB := tb_in 1192 (by decide +kernel) rfl
theorem tw_1193 : (Jvm.Cond.constantLong "SumsThatDifferModel" (101 : Nat) (48 : Int64)) ∈ TB := tb_in 1193 (by decide +kernel) rfl
theorem tw_1194 : (Jvm.Cond.constantLong "SumsThatDifferModel" (103 : Nat) (57 : Int64)) ∈ TB := tb_in 1194 (by decide +kernel) rfl
theorem tw_1195 : (Jvm.Cond.constantLong "SumsThatDifferModel" (105 : Nat) (2 : Int64)) ∈ TB := tb_in 1195 (by decide +kernel) rfl
theorem tw_1196 : (Jvm.Cond.constantLong "SumsThatDifferModel" (111 : Nat) (6 : Int64)) ∈ TB := tb_in 1196 (by decide +kernel) rfl
theorem tw_1197 : (Jvm.Cond.methodLink "SumsThatDifferModel" (117 : Nat) ({ cls := "SumsThatDifferModel", name := "takesRoad", desc := "()Z" } : Jvm.MethodName)) ∈ TB := tb_in 1197 (by decide +kernel) rfl
theorem tw_1199 : (Jvm.Cond.instanceMethod ({ cls := "SumsThatDifferModel", name := "takesRoad", desc := "()Z" } : Jvm.MethodName)) ∈ TB := tb_in 1199 (by decide +kernel) rfl
theorem tw_1200 : (Jvm.Cond.code ({ cls := "SumsThatDifferModel", name := "takesRoad", desc := "()Z" } : Jvm.MethodName) prog_14_method_14_code (2 : Nat) (Option.some Jvm.ClassFile.FieldType.boolean)) ∈ TB := tb_in 1200 (by decide +kernel) rfl
theorem tw_1201 : (Jvm.Cond.methodLink "SumsThatDifferModel" (120 : Nat) ({ cls := "SumsThatDifferModel", name := "takesStart", desc := "()Z" } : Jvm.MethodName)) ∈ TB := tb_in 1201 (by decide +kernel) rfl
theorem tw_1203 : (Jvm.Cond.instanceMethod ({ cls := "SumsThatDifferModel", name := "takesStart", desc := "()Z" } : Jvm.MethodName)) ∈ TB := tb_in 1203 (by decide +kernel) rfl
theorem tw_1204 : (Jvm.Cond.code ({ cls := "SumsThatDifferModel", name := "takesStart", desc := "()Z" } : Jvm.MethodName) prog_14_method_15_code (1 : Nat) (Option.some Jvm.ClassFile.FieldType.boolean)) ∈ TB := tb_in 1204 (by decide +kernel) rfl
theorem tw_1205 : (Jvm.Cond.methodLink "SumsThatDifferModel" (123 : Nat) ({ cls := "SumsThatDifferModel", name := "takesJourney", desc := "()Z" } : Jvm.MethodName)) ∈ TB := tb_in 1205 (by decide +kernel) rfl
theorem tw_1207 : (Jvm.Cond.instanceMethod ({ cls := "SumsThatDifferModel", name := "takesJourney", desc := "()Z" } : Jvm.MethodName)) ∈ TB := tb_in 1207 (by decide +kernel) rfl
theorem tw_1208 : (Jvm.Cond.code ({ cls := "SumsThatDifferModel", name := "takesJourney", desc := "()Z" } : Jvm.MethodName) prog_14_method_16_code (1 : Nat) (Option.some Jvm.ClassFile.FieldType.boolean)) ∈ TB := tb_in 1208 (by decide +kernel) rfl
theorem tw_1213 : (Jvm.Cond.methodLink "SumsThatDifferModel" (138 : Nat) ({ cls := "SumsThatDifferModel", name := "fault", desc := "()I" } : Jvm.MethodName)) ∈ TB := tb_in 1213 (by decide +kernel) rfl
theorem tw_1218 : (Jvm.Cond.methodLink "SumsThatDifferModel" (160 : Nat) ({ cls := "SumsThatDifferModel", name := "isRoad", desc := "(I)Z" } : Jvm.MethodName)) ∈ TB := tb_in 1218 (by decide +kernel) rfl
theorem tw_1220 : (Jvm.Cond.instanceMethod ({ cls := "SumsThatDifferModel", name := "isRoad", desc := "(I)Z" } : Jvm.MethodName)) ∈ TB := tb_in 1220 (by decide +kernel) rfl
theorem tw_1221 : (Jvm.Cond.code ({ cls := "SumsThatDifferModel", name := "isRoad", desc := "(I)Z" } : Jvm.MethodName) prog_14_method_22_code (2 : Nat) (Option.some Jvm.ClassFile.FieldType.boolean)) ∈ TB := tb_in 1221 (by decide +kernel) rfl
theorem tw_1222 : (Jvm.Cond.methodLink "SumsThatDifferModel" (157 : Nat) ({ cls := "SumsThatDifferModel", name := "isShut", desc := "(I)Z" } : Jvm.MethodName)) ∈ TB := tb_in 1222 (by decide +kernel) rfl
theorem tw_1224 : (Jvm.Cond.instanceMethod ({ cls := "SumsThatDifferModel", name := "isShut", desc := "(I)Z" } : Jvm.MethodName)) ∈ TB := tb_in 1224 (by decide +kernel) rfl
theorem tw_1225 : (Jvm.Cond.code ({ cls := "SumsThatDifferModel", name := "isShut", desc := "(I)Z" } : Jvm.MethodName) prog_14_method_23_code (2 : Nat) (Option.some Jvm.ClassFile.FieldType.boolean)) ∈ TB := tb_in 1225 (by decide +kernel) rfl
theorem tw_1226 : (Jvm.Cond.methodLink "SumsThatDifferModel" (141 : Nat) ({ cls := "SumsThatDifferModel", name := "has", desc := "(II)Z" } : Jvm.MethodName)) ∈ TB := tb_in 1226 (by decide +kernel) rfl
theorem tw_1227 : (Jvm.Cond.static ({ cls := "SumsThatDifferModel", name := "has", desc := "(II)Z" } : Jvm.MethodName)) ∈ TB := tb_in 1227 (by decide +kernel) rfl
theorem tw_1228 : (Jvm.Cond.code ({ cls := "SumsThatDifferModel", name := "has", desc := "(II)Z" } : Jvm.MethodName) prog_14_method_5_code (2 : Nat) (Option.some Jvm.ClassFile.FieldType.boolean)) ∈ TB := tb_in 1228 (by decide +kernel) rfl
theorem tw_1233 : (Jvm.Cond.methodLink "SumsThatDifferModel" (163 : Nat) ({ cls := "SumsThatDifferModel", name := "isTwo", desc := "(I)Z" } : Jvm.MethodName)) ∈ TB := tb_in 1233 (by decide +kernel) rfl
theorem tw_1234 : (Jvm.Cond.static ({ cls := "SumsThatDifferModel", name := "isTwo", desc := "(I)Z" } : Jvm.MethodName)) ∈ TB := tb_in 1234 (by decide +kernel) rfl
theorem tw_1235 : (Jvm.Cond.code ({ cls := "SumsThatDifferModel", name := "isTwo", desc := "(I)Z" } : Jvm.MethodName) prog_14_method_4_code (1 : Nat) (Option.some Jvm.ClassFile.FieldType.boolean)) ∈ TB := tb_in 1235 (by decide +kernel) rfl
theorem tw_1240 : (Jvm.Cond.methodLink "SumsThatDifferModel" (170 : Nat) ({ cls := "SumsThatDifferModel", name := "mayCross", desc := "(II)Z" } : Jvm.MethodName)) ∈ TB := tb_in 1240 (by decide +kernel) rfl
theorem tw_1242 : (Jvm.Cond.instanceMethod ({ cls := "SumsThatDifferModel", name := "mayCross", desc := "(II)Z" } : Jvm.MethodName)) ∈ TB := tb_in 1242 (by decide +kernel) rfl
theorem tw_1243 : (Jvm.Cond.code ({ cls := "SumsThatDifferModel", name := "mayCross", desc := "(II)Z" } : Jvm.MethodName) prog_14_method_28_code (3 : Nat) (Option.some Jvm.ClassFile.FieldType.boolean)) ∈ TB := tb_in 1243 (by decide +kernel) rfl
theorem tw_1244 : (Jvm.Cond.methodLink "SumsThatDifferModel" (153 : Nat) ({ cls := "SumsThatDifferModel", name := "otherEnd", desc := "(II)I" } : Jvm.MethodName)) ∈ TB := tb_in 1244 (by decide +kernel) rfl
theorem tw_1246 : (Jvm.Cond.instanceMethod ({ cls := "SumsThatDifferModel", name := "otherEnd", desc := "(II)I" } : Jvm.MethodName)) ∈ TB := tb_in 1246 (by decide +kernel) rfl
theorem tw_1247 : (Jvm.Cond.code ({ cls := "SumsThatDifferModel", name := "otherEnd", desc := "(II)I" } : Jvm.MethodName) prog_14_method_24_code (3 : Nat) (Option.some Jvm.ClassFile.FieldType.int)) ∈ TB := tb_in 1247 (by decide +kernel) rfl
theorem tw_1248 : (Jvm.Cond.methodLink "SumsThatDifferModel" (173 : Nat) ({ cls := "SumsThatDifferModel", name := "remember", desc := "()V" } : Jvm.MethodName)) ∈ TB := tb_in 1248 (by decide +kernel) rfl
theorem tw_1250 : (Jvm.Cond.instanceMethod ({ cls := "SumsThatDifferModel", name := "remember", desc := "()V" } : Jvm.MethodName)) ∈ TB := tb_in 1250 (by decide +kernel) rfl
theorem tw_1251 : (Jvm.Cond.code ({ cls := "SumsThatDifferModel", name := "remember", desc := "()V" } : Jvm.MethodName) prog_14_method_32_code (2 : Nat) (Option.none : Option Jvm.ClassFile.FieldType)) ∈ TB := tb_in 1251 (by decide +kernel) rfl
theorem tw_1252 : (Jvm.Cond.methodLink "SumsThatDifferModel" (166 : Nat) ({ cls := "SumsThatDifferModel", name := "copies", desc := "([II[II)V" } : Jvm.MethodName)) ∈ TB := tb_in 1252 (by decide +kernel) rfl
theorem tw_1253 : (Jvm.Cond.static ({ cls := "SumsThatDifferModel", name := "copies", desc := "([II[II)V" } : Jvm.MethodName)) ∈ TB := tb_in 1253 (by decide +kernel) rfl
theorem tw_1254 : (Jvm.Cond.code ({ cls := "SumsThatDifferModel", name := "copies", desc := "([II[II)V" } : Jvm.MethodName) prog_14_method_31_code (5 : Nat) (Option.none : Option Jvm.ClassFile.FieldType)) ∈ TB := tb_in 1254 (by decide +kernel) rfl
theorem tw_1255 : (Jvm.Cond.methodLink "SumsThatDifferModel" (176 : Nat) ({ cls := "SumsThatDifferModel", name := "byNow", desc := "(III)I" } : Jvm.MethodName)) ∈ TB := tb_in 1255 (by decide +kernel) rfl
theorem tw_1257 : (Jvm.Cond.instanceMethod ({ cls := "SumsThatDifferModel", name := "byNow", desc := "(III)I" } : Jvm.MethodName)) ∈ TB := tb_in 1257 (by decide +kernel) rfl
theorem tw_1258 : (Jvm.Cond.code ({ cls := "SumsThatDifferModel", name := "byNow", desc := "(III)I" } : Jvm.MethodName) prog_14_method_27_code (4 : Nat) (Option.some Jvm.ClassFile.FieldType.int)) ∈ TB := tb_in 1258 (by decide +kernel) rfl
theorem tw_1259 : (Jvm.Cond.methodLink "SumsThatDifferModel" (149 : Nat) ({ cls := "SumsThatDifferModel", name := "by", desc := "(IIIII)I" } : Jvm.MethodName)) ∈ TB := tb_in 1259 (by decide +kernel) rfl
theorem tw_1261 : (Jvm.Cond.instanceMethod ({ cls := "SumsThatDifferModel", name := "by", desc := "(IIIII)I" } : Jvm.MethodName)) ∈ TB := tb_in 1261 (by decide +kernel) rfl
theorem tw_1262 : (Jvm.Cond.code ({ cls := "SumsThatDifferModel", name := "by", desc := "(IIIII)I" } : Jvm.MethodName) prog_14_method_26_code (6 : Nat) (Option.some Jvm.ClassFile.FieldType.int)) ∈ TB := tb_in 1262 (by decide +kernel) rfl
theorem tw_1263 : (Jvm.Cond.methodLink "SumsThatDifferModel" (145 : Nat) ({ cls := "SumsThatDifferModel", name := "crossed", desc := "(III)I" } : Jvm.MethodName)) ∈ TB := tb_in 1263 (by decide +kernel) rfl
theorem tw_1264 : (Jvm.Cond.static ({ cls := "SumsThatDifferModel", name := "crossed", desc := "(III)I" } : Jvm.MethodName)) ∈ TB := tb_in 1264 (by decide +kernel) rfl
theorem tw_1265 : (Jvm.Cond.code ({ cls := "SumsThatDifferModel", name := "crossed", desc := "(III)I" } : Jvm.MethodName) prog_14_method_25_code (5 : Nat) (Option.some Jvm.ClassFile.FieldType.int)) ∈ TB := tb_in 1265 (by decide +kernel) rfl
theorem tw_1270 : (Jvm.Cond.constantLong "SumsThatDifferModel" (179 : Nat) (40 : Int64)) ∈ TB := tb_in 1270 (by decide +kernel) rfl
theorem tw_1275 : (Jvm.Cond.methodLink "SumsThatDifferModel" (181 : Nat) ({ cls := "SumsThatDifferModel", name := "bits", desc := "(I)I" } : Jvm.MethodName)) ∈ TB := tb_in 1275 (by decide +kernel) rfl
theorem tw_1276 : (Jvm.Cond.static ({ cls := "SumsThatDifferModel", name := "bits", desc := "(I)I" } : Jvm.MethodName)) ∈ TB := tb_in 1276 (by decide +kernel) rfl
theorem tw_1277 : (Jvm.Cond.code ({ cls := "SumsThatDifferModel", name := "bits", desc := "(I)I" } : Jvm.MethodName) prog_14_method_6_code (3 : Nat) (Option.some Jvm.ClassFile.FieldType.int)) ∈ TB := tb_in 1277 (by decide +kernel) rfl
theorem tw_1286 : (Jvm.Cond.methodLink "SumsThatDifferModel" (191 : Nat) ({ cls := "SumsThatDifferModel", name := "goes", desc := "(I)Z" } : Jvm.MethodName)) ∈ TB := tb_in 1286 (by decide +kernel) rfl
theorem tw_1288 : (Jvm.Cond.instanceMethod ({ cls := "SumsThatDifferModel", name := "goes", desc := "(I)Z" } : Jvm.MethodName)) ∈ TB := tb_in 1288 (by decide +kernel) rfl
theorem tw_1289 : (Jvm.Cond.code ({ cls := "SumsThatDifferModel", name := "goes", desc := "(I)Z" } : Jvm.MethodName) prog_14_method_37_code (4 : Nat) (Option.some Jvm.ClassFile.FieldType.boolean)) ∈ TB := tb_in 1289 (by decide +kernel) rfl
theorem tw_1294 : (Jvm.Cond.constantLong "SumsThatDifferModel" (194 : Nat) (5 : Int64)) ∈ TB := tb_in 1294 (by decide +kernel) rfl
theorem tw_1299 : (Jvm.Cond.methodLink "SumsThatDifferModel" (202 : Nat) ({ cls := "SumsThatDifferModel", name := "layRounds", desc := "(I)V" } : Jvm.MethodName)) ∈ TB := tb_in 1299 (by decide +kernel) rfl
theorem tw_1301 : (Jvm.Cond.instanceMethod ({ cls := "SumsThatDifferModel", name := "layRounds", desc := "(I)V" } : Jvm.MethodName)) ∈ TB := tb_in 1301 (by decide +kernel) rfl
theorem tw_1302 : (Jvm.Cond.code ({ cls := "SumsThatDifferModel", name := "layRounds", desc := "(I)V" } : Jvm.MethodName) prog_14_method_40_code (7 : Nat) (Option.none : Option Jvm.ClassFile.FieldType)) ∈ TB := tb_in 1302 (by decide +kernel) rfl
theorem tw_1307 : (Jvm.Cond.methodLink "SumsThatDifferModel" (213 : Nat) ({ cls := "SumsThatDifferModel", name := "layHeights", desc := "(I)Z" } : Jvm.MethodName)) ∈ TB := tb_in 1307 (by decide +kernel) rfl
theorem tw_1309 : (Jvm.Cond.instanceMethod ({ cls := "SumsThatDifferModel", name := "layHeights", desc := "(I)Z" } : Jvm.MethodName)) ∈ TB := tb_in 1309 (by decide +kernel) rfl
theorem tw_1310 : (Jvm.Cond.code ({ cls := "SumsThatDifferModel", name := "layHeights", desc := "(I)Z" } : Jvm.MethodName) prog_14_method_43_code (5 : Nat) (Option.some Jvm.ClassFile.FieldType.boolean)) ∈ TB := tb_in 1310 (by decide +kernel) rfl
theorem tw_1311 : (Jvm.Cond.methodLink "SumsThatDifferModel" (206 : Nat) ({ cls := "SumsThatDifferModel", name := "spread", desc := "(I)V" } : Jvm.MethodName)) ∈ TB := tb_in 1311 (by decide +kernel) rfl
theorem tw_1313 : (Jvm.Cond.instanceMethod ({ cls := "SumsThatDifferModel", name := "spread", desc := "(I)V" } : Jvm.MethodName)) ∈ TB := tb_in 1313 (by decide +kernel) rfl
theorem tw_1314 : (Jvm.Cond.code ({ cls := "SumsThatDifferModel", name := "spread", desc := "(I)V" } : Jvm.MethodName) prog_14_method_44_code (6 : Nat) (Option.none : Option Jvm.ClassFile.FieldType)) ∈ TB := tb_in 1314 (by decide +kernel) rfl
theorem tw_1315 : (Jvm.Cond.methodLink "SumsThatDifferModel" (209 : Nat) ({ cls := "SumsThatDifferModel", name := "change", desc := "(IZ)I" } : Jvm.MethodName)) ∈ TB := tb_in 1315 (by decide +kernel) rfl
theorem tw_1317 : (Jvm.Cond.instanceMethod ({ cls := "SumsThatDifferModel", name := "change", desc := "(IZ)I" } : Jvm.MethodName)) ∈ TB := tb_in 1317 (by decide +kernel) rfl
theorem tw_1318 : (Jvm.Cond.code ({ cls := "SumsThatDifferModel", name := "change", desc := "(IZ)I" } : Jvm.MethodName) prog_14_method_42_code (4 : Nat) (Option.some Jvm.ClassFile.FieldType.int)) ∈ TB := tb_in 1318 (by decide +kernel) rfl
theorem tw_1323 : (Jvm.Cond.methodLink "SumsThatDifferModel" (216 : Nat) ({ cls := "SumsThatDifferModel", name := "isPlace", desc := "(I)Z" } : Jvm.MethodName)) ∈ TB := tb_in 1323 (by decide +kernel) rfl
theorem tw_1325 : (Jvm.Cond.instanceMethod ({ cls := "SumsThatDifferModel", name := "isPlace", desc := "(I)Z" } : Jvm.MethodName)) ∈ TB := tb_in 1325 (by decide +kernel) rfl
theorem tw_1326 : (Jvm.Cond.code ({ cls := "SumsThatDifferModel", name := "isPlace", desc := "(I)Z" } : Jvm.MethodName) prog_14_method_21_code (2 : Nat) (Option.some Jvm.ClassFile.FieldType.boolean)) ∈ TB := tb_in 1326 (by decide +kernel) rfl
theorem tw_1331 : (Jvm.Cond.constant "SumsThatDifferModel" (223 : Nat) (1000000 : Int32)) ∈ TB := tb_in 1331 (by decide +kernel) rfl
theorem tw_1332 : (Jvm.Cond.methodLink "SumsThatDifferModel" (226 : Nat) ({ cls := "SumsThatDifferModel", name := "ringFrom", desc := "(I)I" } : Jvm.MethodName)) ∈ TB := tb_in 1332 (by decide +kernel) rfl
theorem tw_1334 : (Jvm.Cond.instanceMethod ({ cls := "SumsThatDifferModel", name := "ringFrom", desc := "(I)I" } : Jvm.MethodName)) ∈ TB := tb_in 1334 (by decide +kernel) rfl
theorem tw_1335 : (Jvm.Cond.code ({ cls := "SumsThatDifferModel", name := "ringFrom", desc := "(I)I" } : Jvm.MethodName) prog_14_method_47_code (4 : Nat) (Option.some Jvm.ClassFile.FieldType.int)) ∈ TB := tb_in 1335 (by decide +kernel) rfl
theorem tw_1336 : (Jvm.Cond.methodLink "SumsThatDifferModel" (219 : Nat) ({ cls := "SumsThatDifferModel", name := "marksGo", desc := "(III)V" } : Jvm.MethodName)) ∈ TB := tb_in 1336 (by decide +kernel) rfl
theorem tw_1338 : (Jvm.Cond.instanceMethod ({ cls := "SumsThatDifferModel", name := "marksGo", desc := "(III)V" } : Jvm.MethodName)) ∈ TB := tb_in 1338 (by decide +kernel) rfl
theorem tw_1339 : (Jvm.Cond.code ({ cls := "SumsThatDifferModel", name := "marksGo", desc := "(III)V" } : Jvm.MethodName) prog_14_method_48_code (6 : Nat) (Option.none : Option Jvm.ClassFile.FieldType)) ∈ TB := tb_in 1339 (by decide +kernel) rfl
theorem tw_1340 : (Jvm.Cond.constantLong "SumsThatDifferModel" (224 : Nat) (480 : Int64)) ∈ TB := tb_in 1340 (by decide +kernel) rfl
theorem tw_1353 : (Jvm.Cond.constantLong "SumsThatDifferModel" (229 : Nat) (999 : Int64)) ∈ TB := tb_in 1353 (by decide +kernel) rfl
theorem tw_1362 : (Jvm.Cond.methodLink "SumsThatDifferModel" (239 : Nat) ({ cls := "SumsThatDifferModel", name := "wrongs", desc := "()I" } : Jvm.MethodName)) ∈ TB := tb_in 1362 (by decide +kernel) rfl
theorem tw_1364 : (Jvm.Cond.instanceMethod ({ cls := "SumsThatDifferModel", name := "wrongs", desc := "()I" } : Jvm.MethodName)) ∈ TB := tb_in 1364 (by decide +kernel) rfl
theorem tw_1365 : (Jvm.Cond.code ({ cls := "SumsThatDifferModel", name := "wrongs", desc := "()I" } : Jvm.MethodName) prog_14_method_56_code (4 : Nat) (Option.some Jvm.ClassFile.FieldType.int)) ∈ TB := tb_in 1365 (by decide +kernel) rfl
theorem tw_1366 : (Jvm.Cond.methodLink "SumsThatDifferModel" (235 : Nat) ({ cls := "SumsThatDifferModel", name := "fits", desc := "(III)Z" } : Jvm.MethodName)) ∈ TB := tb_in 1366 (by decide +kernel) rfl
theorem tw_1368 : (Jvm.Cond.instanceMethod ({ cls := "SumsThatDifferModel", name := "fits", desc := "(III)Z" } : Jvm.MethodName)) ∈ TB := tb_in 1368 (by decide +kernel) rfl
theorem tw_1369 : (Jvm.Cond.code ({ cls := "SumsThatDifferModel", name := "fits", desc := "(III)Z" } : Jvm.MethodName) prog_14_method_55_code (9 : Nat) (Option.some Jvm.ClassFile.FieldType.boolean)) ∈ TB := tb_in 1369 (by decide +kernel) rfl
theorem tw_1370 : (Jvm.Cond.methodLink "SumsThatDifferModel" (231 : Nat) ({ cls := "SumsThatDifferModel", name := "byOther", desc := "(IIIIII)I" } : Jvm.MethodName)) ∈ TB := tb_in 1370 (by decide +kernel) rfl
theorem tw_1372 : (Jvm.Cond.instanceMethod ({ cls := "SumsThatDifferModel", name := "byOther", desc := "(IIIIII)I" } : Jvm.MethodName)) ∈ TB := tb_in 1372 (by decide +kernel) rfl
theorem tw_1373 : (Jvm.Cond.code ({ cls := "SumsThatDifferModel", name := "byOther", desc := "(IIIIII)I" } : Jvm.MethodName) prog_14_method_54_code (7 : Nat) (Option.some Jvm.ClassFile.FieldType.int)) ∈ TB := tb_in 1373 (by decide +kernel) rfl
theorem tw_1378 : (Jvm.Cond.methodLink "SumsThatDifferModel" (242 : Nat) ({ cls := "SumsThatDifferModel", name := "sumsBehind", desc := "(II)I" } : Jvm.MethodName)) ∈ TB := tb_in 1378 (by decide +kernel) rfl
theorem tw_1380 : (Jvm.Cond.instanceMethod ({ cls := "SumsThatDifferModel", name := "sumsBehind", desc := "(II)I" } : Jvm.MethodName)) ∈ TB := tb_in 1380 (by decide +kernel) rfl
theorem tw_1381 : (Jvm.Cond.code ({ cls := "SumsThatDifferModel", name := "sumsBehind", desc := "(II)I" } : Jvm.MethodName) prog_14_method_58_code (5 : Nat) (Option.some Jvm.ClassFile.FieldType.int)) ∈ TB := tb_in 1381 (by decide +kernel) rfl
theorem tw_1390 : (Jvm.Cond.constantLong "SumsThatDifferModel" (245 : Nat) (10 : Int64)) ∈ TB := tb_in 1390 (by decide +kernel) rfl
theorem tw_1391 : (Jvm.Cond.methodLink "SumsThatDifferModel" (247 : Nat) ({ cls := "SumsThatDifferModel", name := "leads", desc := "(III)Z" } : Jvm.MethodName)) ∈ TB := tb_in 1391 (by decide +kernel) rfl
theorem tw_1393 : (Jvm.Cond.instanceMethod ({ cls := "SumsThatDifferModel", name := "leads", desc := "(III)Z" } : Jvm.MethodName)) ∈ TB := tb_in 1393 (by decide +kernel) rfl
theorem tw_1394 : (Jvm.Cond.code ({ cls := "SumsThatDifferModel", name := "leads", desc := "(III)Z" } : Jvm.MethodName) prog_14_method_61_code (8 : Nat) (Option.some Jvm.ClassFile.FieldType.boolean)) ∈ TB := tb_in 1394 (by decide +kernel) rfl
theorem tw_1399 : (Jvm.Cond.constantLong "SumsThatDifferModel" (250 : Nat) (9999 : Int64)) ∈ TB := tb_in 1399 (by decide +kernel) rfl
theorem tw_1400 : (Jvm.Cond.constantLong "SumsThatDifferModel" (252 : Nat) (60 : Int64)) ∈ TB := tb_in 1400 (by decide +kernel) rfl
theorem tw_1401 : (Jvm.Cond.constantLong "SumsThatDifferModel" (254 : Nat) (7919 : Int64)) ∈ TB := tb_in 1401 (by decide +kernel) rfl
theorem tw_1402 : (Jvm.Cond.constantLong "SumsThatDifferModel" (256 : Nat) (6151 : Int64)) ∈ TB := tb_in 1402 (by decide +kernel) rfl
theorem tw_1403 : (Jvm.Cond.constantLong "SumsThatDifferModel" (258 : Nat) (65521 : Int64)) ∈ TB := tb_in 1403 (by decide +kernel) rfl
