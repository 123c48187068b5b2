/-! the words of the tables, by their places -/
theorem tw_0 : (Jvm.Cond.selects "SumsThatDiffer" ⟨"SumsThatDiffer", "layLetters", "()Z"⟩ ⟨"SumsThatDiffer", "layLetters", "()Z"⟩) ∈ TB := tb_in 0 (by decide +kernel) rfl
theorem tw_1 : (Jvm.Cond.selects "SumsThatDiffer$Reading" ⟨"SumsThatDiffer$Reading", "readItem", "(LSumsThatDiffer$Letters;)Z"⟩ ⟨"SumsThatDiffer$Reading", "readItem", "(LSumsThatDiffer$Letters;)Z"⟩) ∈ TB := tb_in 1 (by decide +kernel) rfl
theorem tw_2 : (Jvm.Cond.selects "SumsThatDiffer$Reading" ⟨"SumsThatDiffer$Reading", "readNumbers", "(LSumsThatDiffer$Letters;I)Z"⟩ ⟨"SumsThatDiffer$Reading", "readNumbers", "(LSumsThatDiffer$Letters;I)Z"⟩) ∈ TB := tb_in 2 (by decide +kernel) rfl
theorem tw_3 : (Jvm.Cond.selects "SumsThatDiffer$Reading" ⟨"SumsThatDiffer$Reading", "readNumber", "(LSumsThatDiffer$Letters;)I"⟩ ⟨"SumsThatDiffer$Reading", "readNumber", "(LSumsThatDiffer$Letters;)I"⟩) ∈ TB := tb_in 3 (by decide +kernel) rfl
theorem tw_4 : (Jvm.Cond.selects "SumsThatDiffer$Reading" ⟨"SumsThatDiffer$Reading", "tellPlaces", "(I)Z"⟩ ⟨"SumsThatDiffer$Reading", "tellPlaces", "(I)Z"⟩) ∈ TB := tb_in 4 (by decide +kernel) rfl
theorem tw_5 : (Jvm.Cond.selects "SumsThatDiffer$Reading" ⟨"SumsThatDiffer$Reading", "tellRoad", "()Z"⟩ ⟨"SumsThatDiffer$Reading", "tellRoad", "()Z"⟩) ∈ TB := tb_in 5 (by decide +kernel) rfl
theorem tw_6 : (Jvm.Cond.selects "SumsThatDiffer$Reading" ⟨"SumsThatDiffer$Reading", "tellStart", "(II)Z"⟩ ⟨"SumsThatDiffer$Reading", "tellStart", "(II)Z"⟩) ∈ TB := tb_in 6 (by decide +kernel) rfl
theorem tw_7 : (Jvm.Cond.selects "SumsThatDiffer$Pile" ⟨"SumsThatDiffer$Pile", "dropOldest", "()V"⟩ ⟨"SumsThatDiffer$Pile", "dropOldest", "()V"⟩) ∈ TB := tb_in 7 (by decide +kernel) rfl
theorem tw_8 : (Jvm.Cond.selects "SumsThatDiffer$Climb" ⟨"SumsThatDiffer$Climb", "begin", "(II)V"⟩ ⟨"SumsThatDiffer$Climb", "begin", "(II)V"⟩) ∈ TB := tb_in 8 (by decide +kernel) rfl
theorem tw_9 : (Jvm.Cond.selects "SumsThatDiffer$Climb" ⟨"SumsThatDiffer$Climb", "advance", "()V"⟩ ⟨"SumsThatDiffer$Climb", "advance", "()V"⟩) ∈ TB := tb_in 9 (by decide +kernel) rfl
theorem tw_10 : (Jvm.Cond.selects "SumsThatDiffer$Climb" ⟨"SumsThatDiffer$Climb", "carry", "(III)V"⟩ ⟨"SumsThatDiffer$Climb", "carry", "(III)V"⟩) ∈ TB := tb_in 10 (by decide +kernel) rfl
theorem tw_11 : (Jvm.Cond.selects "SumsThatDiffer$Climb" ⟨"SumsThatDiffer$Climb", "raise", "(II)V"⟩ ⟨"SumsThatDiffer$Climb", "raise", "(II)V"⟩) ∈ TB := tb_in 11 (by decide +kernel) rfl
theorem tw_12 : (Jvm.Cond.selects "SumsThatDiffer$Climb" ⟨"SumsThatDiffer$Climb", "bestAtHome", "()I"⟩ ⟨"SumsThatDiffer$Climb", "bestAtHome", "()I"⟩) ∈ TB := tb_in 12 (by decide +kernel) rfl
theorem tw_13 : (Jvm.Cond.selects "SumsThatDiffer$Climb" ⟨"SumsThatDiffer$Climb", "firstToHighest", "(III)I"⟩ ⟨"SumsThatDiffer$Climb", "firstToHighest", "(III)I"⟩) ∈ TB := tb_in 13 (by decide +kernel) rfl
theorem tw_14 : (Jvm.Cond.selects "SumsThatDiffer$Climb" ⟨"SumsThatDiffer$Climb", "highestHome", "(III)I"⟩ ⟨"SumsThatDiffer$Climb", "highestHome", "(III)I"⟩) ∈ TB := tb_in 14 (by decide +kernel) rfl
theorem tw_15 : (Jvm.Cond.selects "SumsThatDiffer$Heights" ⟨"SumsThatDiffer$Heights", "agreeBy", "(I)Z"⟩ ⟨"SumsThatDiffer$Heights", "agreeBy", "(I)Z"⟩) ∈ TB := tb_in 15 (by decide +kernel) rfl
theorem tw_16 : (Jvm.Cond.selects "SumsThatDiffer$Heights" ⟨"SumsThatDiffer$Heights", "spread", "(I)V"⟩ ⟨"SumsThatDiffer$Heights", "spread", "(I)V"⟩) ∈ TB := tb_in 16 (by decide +kernel) rfl
theorem tw_17 : (Jvm.Cond.selects "SumsThatDiffer$Heights" ⟨"SumsThatDiffer$Heights", "carry", "(II)Z"⟩ ⟨"SumsThatDiffer$Heights", "carry", "(II)Z"⟩) ∈ TB := tb_in 17 (by decide +kernel) rfl
theorem tw_18 : (Jvm.Cond.selects "SumsThatDiffer$Heights" ⟨"SumsThatDiffer$Heights", "suits", "(I)Z"⟩ ⟨"SumsThatDiffer$Heights", "suits", "(I)Z"⟩) ∈ TB := tb_in 18 (by decide +kernel) rfl
theorem tw_19 : (Jvm.Cond.selects "SumsThatDiffer$Rings" ⟨"SumsThatDiffer$Rings", "findFrom", "(I)V"⟩ ⟨"SumsThatDiffer$Rings", "findFrom", "(I)V"⟩) ∈ TB := tb_in 19 (by decide +kernel) rfl
theorem tw_20 : (Jvm.Cond.selects "SumsThatDiffer$Rings" ⟨"SumsThatDiffer$Rings", "advance", "()V"⟩ ⟨"SumsThatDiffer$Rings", "advance", "()V"⟩) ∈ TB := tb_in 20 (by decide +kernel) rfl
theorem tw_21 : (Jvm.Cond.selects "SumsThatDiffer$Rings" ⟨"SumsThatDiffer$Rings", "carry", "(III)V"⟩ ⟨"SumsThatDiffer$Rings", "carry", "(III)V"⟩) ∈ TB := tb_in 21 (by decide +kernel) rfl
theorem tw_22 : (Jvm.Cond.selects "SumsThatDiffer$Rings" ⟨"SumsThatDiffer$Rings", "swapRows", "()V"⟩ ⟨"SumsThatDiffer$Rings", "swapRows", "()V"⟩) ∈ TB := tb_in 22 (by decide +kernel) rfl
theorem tw_23 : (Jvm.Cond.selects "SumsThatDiffer$Heights" ⟨"SumsThatDiffer$Heights", "unlikeWays", "(I)I"⟩ ⟨"SumsThatDiffer$Heights", "unlikeWays", "(I)I"⟩) ∈ TB := tb_in 23 (by decide +kernel) rfl
theorem tw_24 : (Jvm.Cond.selects "SumsThatDiffer$Told" ⟨"SumsThatDiffer$Told", "suppose", "(I)Z"⟩ ⟨"SumsThatDiffer$Told", "suppose", "(I)Z"⟩) ∈ TB := tb_in 24 (by decide +kernel) rfl
theorem tw_25 : (Jvm.Cond.selects "SumsThatDiffer$Told" ⟨"SumsThatDiffer$Told", "sortByWays", "(I)V"⟩ ⟨"SumsThatDiffer$Told", "sortByWays", "(I)V"⟩) ∈ TB := tb_in 25 (by decide +kernel) rfl
theorem tw_26 : (Jvm.Cond.selects "SumsThatDiffer$Told" ⟨"SumsThatDiffer$Told", "wayOver", "(III)I"⟩ ⟨"SumsThatDiffer$Told", "wayOver", "(III)I"⟩) ∈ TB := tb_in 26 (by decide +kernel) rfl
theorem tw_27 : (Jvm.Cond.selects "SumsThatDiffer$Told" ⟨"SumsThatDiffer$Told", "hold", "(I)Z"⟩ ⟨"SumsThatDiffer$Told", "hold", "(I)Z"⟩) ∈ TB := tb_in 27 (by decide +kernel) rfl
theorem tw_28 : (Jvm.Cond.selects "SumsThatDiffer$Told" ⟨"SumsThatDiffer$Told", "supposedSum", "(III)I"⟩ ⟨"SumsThatDiffer$Told", "supposedSum", "(III)I"⟩) ∈ TB := tb_in 28 (by decide +kernel) rfl
theorem tw_29 : (Jvm.Cond.selects "SumsThatDiffer$Told" ⟨"SumsThatDiffer$Told", "unlikeSums", "(II)I"⟩ ⟨"SumsThatDiffer$Told", "unlikeSums", "(II)I"⟩) ∈ TB := tb_in 29 (by decide +kernel) rfl
theorem tw_30 : (Jvm.Cond.selects "SumsThatDiffer$Weather" ⟨"SumsThatDiffer$Weather", "countSets", "(III)V"⟩ ⟨"SumsThatDiffer$Weather", "countSets", "(III)V"⟩) ∈ TB := tb_in 30 (by decide +kernel) rfl
theorem tw_31 : (Jvm.Cond.selects "SumsThatDiffer$Weather" ⟨"SumsThatDiffer$Weather", "leads", "(III)Z"⟩ ⟨"SumsThatDiffer$Weather", "leads", "(III)Z"⟩) ∈ TB := tb_in 31 (by decide +kernel) rfl
theorem tw_32 : (Jvm.Cond.selects "SumsThatDiffer$Weather" ⟨"SumsThatDiffer$Weather", "lowestTerms", "()V"⟩ ⟨"SumsThatDiffer$Weather", "lowestTerms", "()V"⟩) ∈ TB := tb_in 32 (by decide +kernel) rfl
theorem tw_33 : (Jvm.Cond.selects "SumsThatDifferModel" ⟨"SumsThatDifferModel", "clean", "()V"⟩ ⟨"SumsThatDifferModel", "clean", "()V"⟩) ∈ TB := tb_in 33 (by decide +kernel) rfl
theorem tw_34 : (Jvm.Cond.selects "SumsThatDifferModel" ⟨"SumsThatDifferModel", "comes", "(IIIII)V"⟩ ⟨"SumsThatDifferModel", "comes", "(IIIII)V"⟩) ∈ TB := tb_in 34 (by decide +kernel) rfl
theorem tw_35 : (Jvm.Cond.selects "SumsThatDifferModel" ⟨"SumsThatDifferModel", "begins", "()V"⟩ ⟨"SumsThatDifferModel", "begins", "()V"⟩) ∈ TB := tb_in 35 (by decide +kernel) rfl
theorem tw_36 : (Jvm.Cond.selects "SumsThatDifferModel" ⟨"SumsThatDifferModel", "takesItem", "()Z"⟩ ⟨"SumsThatDifferModel", "takesItem", "()Z"⟩) ∈ TB := tb_in 36 (by decide +kernel) rfl
theorem tw_37 : (Jvm.Cond.selects "SumsThatDifferModel" ⟨"SumsThatDifferModel", "here", "()I"⟩ ⟨"SumsThatDifferModel", "here", "()I"⟩) ∈ TB := tb_in 37 (by decide +kernel) rfl
theorem tw_38 : (Jvm.Cond.selects "SumsThatDifferModel" ⟨"SumsThatDifferModel", "takesPlaces", "()Z"⟩ ⟨"SumsThatDifferModel", "takesPlaces", "()Z"⟩) ∈ TB := tb_in 38 (by decide +kernel) rfl
theorem tw_39 : (Jvm.Cond.selects "SumsThatDifferModel" ⟨"SumsThatDifferModel", "takes", "(I)Z"⟩ ⟨"SumsThatDifferModel", "takes", "(I)Z"⟩) ∈ TB := tb_in 39 (by decide +kernel) rfl
theorem tw_40 : (Jvm.Cond.selects "SumsThatDifferModel" ⟨"SumsThatDifferModel", "takesRoad", "()Z"⟩ ⟨"SumsThatDifferModel", "takesRoad", "()Z"⟩) ∈ TB := tb_in 40 (by decide +kernel) rfl
theorem tw_41 : (Jvm.Cond.selects "SumsThatDifferModel" ⟨"SumsThatDifferModel", "takesStart", "()Z"⟩ ⟨"SumsThatDifferModel", "takesStart", "()Z"⟩) ∈ TB := tb_in 41 (by decide +kernel) rfl
theorem tw_42 : (Jvm.Cond.selects "SumsThatDifferModel" ⟨"SumsThatDifferModel", "takesJourney", "()Z"⟩ ⟨"SumsThatDifferModel", "takesJourney", "()Z"⟩) ∈ TB := tb_in 42 (by decide +kernel) rfl
theorem tw_43 : (Jvm.Cond.selects "SumsThatDifferModel" ⟨"SumsThatDifferModel", "isRoad", "(I)Z"⟩ ⟨"SumsThatDifferModel", "isRoad", "(I)Z"⟩) ∈ TB := tb_in 43 (by decide +kernel) rfl
theorem tw_44 : (Jvm.Cond.selects "SumsThatDifferModel" ⟨"SumsThatDifferModel", "isShut", "(I)Z"⟩ ⟨"SumsThatDifferModel", "isShut", "(I)Z"⟩) ∈ TB := tb_in 44 (by decide +kernel) rfl
theorem tw_45 : (Jvm.Cond.selects "SumsThatDifferModel" ⟨"SumsThatDifferModel", "mayCross", "(II)Z"⟩ ⟨"SumsThatDifferModel", "mayCross", "(II)Z"⟩) ∈ TB := tb_in 45 (by decide +kernel) rfl
theorem tw_46 : (Jvm.Cond.selects "SumsThatDifferModel" ⟨"SumsThatDifferModel", "otherEnd", "(II)I"⟩ ⟨"SumsThatDifferModel", "otherEnd", "(II)I"⟩) ∈ TB := tb_in 46 (by decide +kernel) rfl
theorem tw_47 : (Jvm.Cond.selects "SumsThatDifferModel" ⟨"SumsThatDifferModel", "remember", "()V"⟩ ⟨"SumsThatDifferModel", "remember", "()V"⟩) ∈ TB := tb_in 47 (by decide +kernel) rfl
theorem tw_48 : (Jvm.Cond.selects "SumsThatDifferModel" ⟨"SumsThatDifferModel", "byNow", "(III)I"⟩ ⟨"SumsThatDifferModel", "byNow", "(III)I"⟩) ∈ TB := tb_in 48 (by decide +kernel) rfl
theorem tw_49 : (Jvm.Cond.selects "SumsThatDifferModel" ⟨"SumsThatDifferModel", "by", "(IIIII)I"⟩ ⟨"SumsThatDifferModel", "by", "(IIIII)I"⟩) ∈ TB := tb_in 49 (by decide +kernel) rfl
theorem tw_50 : (Jvm.Cond.selects "SumsThatDifferModel" ⟨"SumsThatDifferModel", "goes", "(I)Z"⟩ ⟨"SumsThatDifferModel", "goes", "(I)Z"⟩) ∈ TB := tb_in 50 (by decide +kernel) rfl
theorem tw_51 : (Jvm.Cond.selects "SumsThatDifferModel" ⟨"SumsThatDifferModel", "layRounds", "(I)V"⟩ ⟨"SumsThatDifferModel", "layRounds", "(I)V"⟩) ∈ TB := tb_in 51 (by decide +kernel) rfl
theorem tw_52 : (Jvm.Cond.selects "SumsThatDifferModel" ⟨"SumsThatDifferModel", "layHeights", "(I)Z"⟩ ⟨"SumsThatDifferModel", "layHeights", "(I)Z"⟩) ∈ TB := tb_in 52 (by decide +kernel) rfl
theorem tw_53 : (Jvm.Cond.selects "SumsThatDifferModel" ⟨"SumsThatDifferModel", "spread", "(I)V"⟩ ⟨"SumsThatDifferModel", "spread", "(I)V"⟩) ∈ TB := tb_in 53 (by decide +kernel) rfl
theorem tw_54 : (Jvm.Cond.selects "SumsThatDifferModel" ⟨"SumsThatDifferModel", "change", "(IZ)I"⟩ ⟨"SumsThatDifferModel", "change", "(IZ)I"⟩) ∈ TB := tb_in 54 (by decide +kernel) rfl
theorem tw_55 : (Jvm.Cond.selects "SumsThatDifferModel" ⟨"SumsThatDifferModel", "isPlace", "(I)Z"⟩ ⟨"SumsThatDifferModel", "isPlace", "(I)Z"⟩) ∈ TB := tb_in 55 (by decide +kernel) rfl
theorem tw_56 : (Jvm.Cond.selects "SumsThatDifferModel" ⟨"SumsThatDifferModel", "ringFrom", "(I)I"⟩ ⟨"SumsThatDifferModel", "ringFrom", "(I)I"⟩) ∈ TB := tb_in 56 (by decide +kernel) rfl
theorem tw_57 : (Jvm.Cond.selects "SumsThatDifferModel" ⟨"SumsThatDifferModel", "marksGo", "(III)V"⟩ ⟨"SumsThatDifferModel", "marksGo", "(III)V"⟩) ∈ TB := tb_in 57 (by decide +kernel) rfl
theorem tw_58 : (Jvm.Cond.selects "SumsThatDifferModel" ⟨"SumsThatDifferModel", "wrongs", "()I"⟩ ⟨"SumsThatDifferModel", "wrongs", "()I"⟩) ∈ TB := tb_in 58 (by decide +kernel) rfl
theorem tw_59 : (Jvm.Cond.selects "SumsThatDifferModel" ⟨"SumsThatDifferModel", "fits", "(III)Z"⟩ ⟨"SumsThatDifferModel", "fits", "(III)Z"⟩) ∈ TB := tb_in 59 (by decide +kernel) rfl
theorem tw_60 : (Jvm.Cond.selects "SumsThatDifferModel" ⟨"SumsThatDifferModel", "byOther", "(IIIIII)I"⟩ ⟨"SumsThatDifferModel", "byOther", "(IIIIII)I"⟩) ∈ TB := tb_in 60 (by decide +kernel) rfl
theorem tw_61 : (Jvm.Cond.selects "SumsThatDifferModel" ⟨"SumsThatDifferModel", "sumsBehind", "(II)I"⟩ ⟨"SumsThatDifferModel", "sumsBehind", "(II)I"⟩) ∈ TB := tb_in 61 (by decide +kernel) rfl
theorem tw_62 : (Jvm.Cond.selects "SumsThatDifferModel" ⟨"SumsThatDifferModel", "leads", "(III)Z"⟩ ⟨"SumsThatDifferModel", "leads", "(III)Z"⟩) ∈ TB := tb_in 62 (by decide +kernel) rfl
theorem tw_64 : (Jvm.Cond.initialized "SumsThatDiffer") ∈ TB := tb_in 64 (by decide +kernel) rfl
theorem tw_65 : (Jvm.Cond.initialized "SumsThatDiffer$Letters") ∈ TB := tb_in 65 (by decide +kernel) rfl
theorem tw_66 : (Jvm.Cond.initialized "SumsThatDiffer$Reading") ∈ TB := tb_in 66 (by decide +kernel) rfl
theorem tw_67 : (Jvm.Cond.initialized "SumsThatDiffer$County") ∈ TB := tb_in 67 (by decide +kernel) rfl
theorem tw_68 : (Jvm.Cond.initialized "SumsThatDiffer$Standing") ∈ TB := tb_in 68 (by decide +kernel) rfl
theorem tw_69 : (Jvm.Cond.initialized "SumsThatDiffer$Pile") ∈ TB := tb_in 69 (by decide +kernel) rfl
theorem tw_70 : (Jvm.Cond.initialized "SumsThatDiffer$Walker") ∈ TB := tb_in 70 (by decide +kernel) rfl
theorem tw_71 : (Jvm.Cond.initialized "SumsThatDiffer$Climb") ∈ TB := tb_in 71 (by decide +kernel) rfl
theorem tw_72 : (Jvm.Cond.initialized "SumsThatDiffer$Heights") ∈ TB := tb_in 72 (by decide +kernel) rfl
theorem tw_73 : (Jvm.Cond.initialized "SumsThatDiffer$Rings") ∈ TB := tb_in 73 (by decide +kernel) rfl
theorem tw_74 : (Jvm.Cond.initialized "SumsThatDiffer$Told") ∈ TB := tb_in 74 (by decide +kernel) rfl
theorem tw_75 : (Jvm.Cond.initialized "SumsThatDiffer$Weather") ∈ TB := tb_in 75 (by decide +kernel) rfl
theorem tw_80 : (Jvm.Cond.initialized "java/lang/System") ∈ TB := tb_in 80 (by decide +kernel) rfl
theorem tw_81 : (Jvm.Cond.initialized "SumsThatDifferModel") ∈ TB := tb_in 81 (by decide +kernel) rfl
theorem tw_82 : (Jvm.Cond.initialized "java/lang/Integer") ∈ TB := tb_in 82 (by decide +kernel) rfl
theorem tw_83 : (Jvm.Cond.initialized "java/util/Arrays") ∈ TB := tb_in 83 (by decide +kernel) rfl
theorem tw_84 : (Jvm.Cond.initialized "java/lang/Math") ∈ TB := tb_in 84 (by decide +kernel) rfl
theorem tw_91 : (Jvm.Cond.instanceMethod ({ cls := "java/lang/Object", name := "<init>", desc := "()V" } : Jvm.MethodName)) ∈ TB := tb_in 91 (by decide +kernel) rfl
theorem tw_92 : (Jvm.Cond.code ({ cls := "java/lang/Object", name := "<init>", desc := "()V" } : Jvm.MethodName) object_method_1_code (1 : Nat) (Option.none : Option Jvm.ClassFile.FieldType)) ∈ TB := tb_in 92 (by decide +kernel) rfl
theorem tw_98 : (Jvm.Cond.methodLink "SumsThatDiffer$Letters" (3 : Nat) ({ cls := "java/lang/Object", name := "<init>", desc := "()V" } : Jvm.MethodName)) ∈ TB := tb_in 98 (by decide +kernel) rfl
theorem tw_99 : (Jvm.Cond.fieldLink "SumsThatDiffer$Letters" (9 : Nat) "SumsThatDiffer$Letters" "signs" "[C") ∈ TB := tb_in 99 (by decide +kernel) rfl
theorem tw_100 : (Jvm.Cond.fieldLink "SumsThatDiffer$Letters" (15 : Nat) "SumsThatDiffer$Letters" "length" "I") ∈ TB := tb_in 100 (by decide +kernel) rfl
theorem tw_101 : (Jvm.Cond.laysFinal "SumsThatDiffer$Letters" "SumsThatDiffer$Letters" "signs" "[C") ∈ TB := tb_in 101 (by decide +kernel) rfl
theorem tw_103 : (Jvm.Cond.lays "SumsThatDiffer$Letters" "SumsThatDiffer$Letters" "length" "I") ∈ TB := tb_in 103 (by decide +kernel) rfl
theorem tw_106 : (Jvm.Cond.arrayClass Jvm.ClassFile.FieldType.char) ∈ TB := tb_in 106 (by decide +kernel) rfl
theorem tw_112 : (Jvm.Cond.methodLink "SumsThatDiffer$Reading" (3 : Nat) ({ cls := "java/lang/Object", name := "<init>", desc := "()V" } : Jvm.MethodName)) ∈ TB := tb_in 112 (by decide +kernel) rfl
theorem tw_113 : (Jvm.Cond.classLink "SumsThatDiffer$Reading" (9 : Nat) "SumsThatDiffer$County") ∈ TB := tb_in 113 (by decide +kernel) rfl
theorem tw_114 : (Jvm.Cond.instantiable "SumsThatDiffer$County" (8 : Nat)) ∈ TB := tb_in 114 (by decide +kernel) rfl
theorem tw_115 : (Jvm.Cond.methodLinkNest "SumsThatDiffer$Reading" (11 : Nat) ({ cls := "SumsThatDiffer$County", name := "<init>", desc := "()V" } : Jvm.MethodName) "SumsThatDiffer") ∈ NB := nb_in 115 (by decide +kernel) rfl
theorem tw_116 : (Jvm.Cond.instanceMethod ({ cls := "SumsThatDiffer$County", name := "<init>", desc := "()V" } : Jvm.MethodName)) ∈ TB := tb_in 116 (by decide +kernel) rfl
theorem tw_117 : (Jvm.Cond.code ({ cls := "SumsThatDiffer$County", name := "<init>", desc := "()V" } : Jvm.MethodName) prog_3_method_1_code (1 : Nat) (Option.none : Option Jvm.ClassFile.FieldType)) ∈ TB := tb_in 117 (by decide +kernel) rfl
theorem tw_118 : (Jvm.Cond.methodLink "SumsThatDiffer$County" (3 : Nat) ({ cls := "java/lang/Object", name := "<init>", desc := "()V" } : Jvm.MethodName)) ∈ TB := tb_in 118 (by decide +kernel) rfl
theorem tw_119 : (Jvm.Cond.classLink "SumsThatDiffer$County" (9 : Nat) "SumsThatDiffer$Standing") ∈ TB := tb_in 119 (by decide +kernel) rfl
theorem tw_120 : (Jvm.Cond.instantiable "SumsThatDiffer$Standing" (6 : Nat)) ∈ TB := tb_in 120 (by decide +kernel) rfl
theorem tw_121 : (Jvm.Cond.methodLinkNest "SumsThatDiffer$County" (11 : Nat) ({ cls := "SumsThatDiffer$Standing", name := "<init>", desc := "()V" } : Jvm.MethodName) "SumsThatDiffer") ∈ NB := nb_in 121 (by decide +kernel) rfl
theorem tw_122 : (Jvm.Cond.instanceMethod ({ cls := "SumsThatDiffer$Standing", name := "<init>", desc := "()V" } : Jvm.MethodName)) ∈ TB := tb_in 122 (by decide +kernel) rfl
theorem tw_123 : (Jvm.Cond.code ({ cls := "SumsThatDiffer$Standing", name := "<init>", desc := "()V" } : Jvm.MethodName) prog_9_method_1_code (1 : Nat) (Option.none : Option Jvm.ClassFile.FieldType)) ∈ TB := tb_in 123 (by decide +kernel) rfl
theorem tw_124 : (Jvm.Cond.methodLink "SumsThatDiffer$Standing" (3 : Nat) ({ cls := "java/lang/Object", name := "<init>", desc := "()V" } : Jvm.MethodName)) ∈ TB := tb_in 124 (by decide +kernel) rfl
theorem tw_125 : (Jvm.Cond.fieldLinkNest "SumsThatDiffer$Walker" (19 : Nat) "SumsThatDiffer$Standing" "place" "I" "SumsThatDiffer") ∈ NB := nb_in 125 (by decide +kernel) rfl
theorem tw_126 : (Jvm.Cond.fieldLinkNest "SumsThatDiffer$Climb" (31 : Nat) "SumsThatDiffer$Standing" "place" "I" "SumsThatDiffer") ∈ NB := nb_in 126 (by decide +kernel) rfl
theorem tw_127 : (Jvm.Cond.fieldLinkNest "SumsThatDiffer$County" (41 : Nat) "SumsThatDiffer$Standing" "place" "I" "SumsThatDiffer") ∈ NB := nb_in 127 (by decide +kernel) rfl
theorem tw_128 : (Jvm.Cond.fieldLink "SumsThatDiffer$Standing" (22 : Nat) "SumsThatDiffer$Standing" "place" "I") ∈ TB := tb_in 128 (by decide +kernel) rfl
theorem tw_129 : (Jvm.Cond.fieldLinkNest "SumsThatDiffer$Told" (71 : Nat) "SumsThatDiffer$Standing" "place" "I" "SumsThatDiffer") ∈ NB := nb_in 129 (by decide +kernel) rfl
theorem tw_130 : (Jvm.Cond.fieldLinkNest "SumsThatDiffer" (147 : Nat) "SumsThatDiffer$Standing" "place" "I" "SumsThatDiffer") ∈ NB := nb_in 130 (by decide +kernel) rfl
theorem tw_131 : (Jvm.Cond.fieldLinkNest "SumsThatDiffer$Reading" (88 : Nat) "SumsThatDiffer$Standing" "place" "I" "SumsThatDiffer") ∈ NB := nb_in 131 (by decide +kernel) rfl
theorem tw_132 : (Jvm.Cond.fieldLinkNest "SumsThatDiffer$Climb" (37 : Nat) "SumsThatDiffer$Standing" "sum" "I" "SumsThatDiffer") ∈ NB := nb_in 132 (by decide +kernel) rfl
theorem tw_133 : (Jvm.Cond.fieldLinkNest "SumsThatDiffer$Walker" (26 : Nat) "SumsThatDiffer$Standing" "sum" "I" "SumsThatDiffer") ∈ NB := nb_in 133 (by decide +kernel) rfl
theorem tw_134 : (Jvm.Cond.fieldLinkNest "SumsThatDiffer$County" (44 : Nat) "SumsThatDiffer$Standing" "sum" "I" "SumsThatDiffer") ∈ NB := nb_in 134 (by decide +kernel) rfl
theorem tw_135 : (Jvm.Cond.fieldLink "SumsThatDiffer$Standing" (25 : Nat) "SumsThatDiffer$Standing" "sum" "I") ∈ TB := tb_in 135 (by decide +kernel) rfl
theorem tw_136 : (Jvm.Cond.fieldLinkNest "SumsThatDiffer" (151 : Nat) "SumsThatDiffer$Standing" "sum" "I" "SumsThatDiffer") ∈ NB := nb_in 136 (by decide +kernel) rfl
theorem tw_137 : (Jvm.Cond.fieldLinkNest "SumsThatDiffer$Told" (94 : Nat) "SumsThatDiffer$Standing" "sum" "I" "SumsThatDiffer") ∈ NB := nb_in 137 (by decide +kernel) rfl
theorem tw_138 : (Jvm.Cond.fieldLinkNest "SumsThatDiffer$Reading" (91 : Nat) "SumsThatDiffer$Standing" "sum" "I" "SumsThatDiffer") ∈ NB := nb_in 138 (by decide +kernel) rfl
theorem tw_139 : (Jvm.Cond.fieldLinkNest "SumsThatDiffer$County" (47 : Nat) "SumsThatDiffer$Standing" "crossings" "I" "SumsThatDiffer") ∈ NB := nb_in 139 (by decide +kernel) rfl
theorem tw_140 : (Jvm.Cond.fieldLink "SumsThatDiffer$Standing" (28 : Nat) "SumsThatDiffer$Standing" "crossings" "I") ∈ TB := tb_in 140 (by decide +kernel) rfl
theorem tw_141 : (Jvm.Cond.fieldLinkNest "SumsThatDiffer" (166 : Nat) "SumsThatDiffer$Standing" "crossings" "I" "SumsThatDiffer") ∈ NB := nb_in 141 (by decide +kernel) rfl
theorem tw_142 : (Jvm.Cond.fieldLink "SumsThatDiffer$Standing" (18 : Nat) "SumsThatDiffer$Standing" "shutBits" "I") ∈ TB := tb_in 142 (by decide +kernel) rfl
theorem tw_143 : (Jvm.Cond.fieldLinkNest "SumsThatDiffer$County" (50 : Nat) "SumsThatDiffer$Standing" "shutBits" "I" "SumsThatDiffer") ∈ NB := nb_in 143 (by decide +kernel) rfl
theorem tw_144 : (Jvm.Cond.fieldLinkNest "SumsThatDiffer" (175 : Nat) "SumsThatDiffer$Standing" "shutBits" "I" "SumsThatDiffer") ∈ NB := nb_in 144 (by decide +kernel) rfl
theorem tw_145 : (Jvm.Cond.fieldLink "SumsThatDiffer$Standing" (9 : Nat) "SumsThatDiffer$Standing" "f" "[I") ∈ TB := tb_in 145 (by decide +kernel) rfl
theorem tw_146 : (Jvm.Cond.fieldLinkNest "SumsThatDiffer$County" (63 : Nat) "SumsThatDiffer$Standing" "f" "[I" "SumsThatDiffer") ∈ NB := nb_in 146 (by decide +kernel) rfl
theorem tw_147 : (Jvm.Cond.fieldLinkNest "SumsThatDiffer$Heights" (51 : Nat) "SumsThatDiffer$Standing" "f" "[I" "SumsThatDiffer") ∈ NB := nb_in 147 (by decide +kernel) rfl
theorem tw_148 : (Jvm.Cond.fieldLinkNest "SumsThatDiffer" (135 : Nat) "SumsThatDiffer$Standing" "f" "[I" "SumsThatDiffer") ∈ NB := nb_in 148 (by decide +kernel) rfl
theorem tw_149 : (Jvm.Cond.fieldLink "SumsThatDiffer$Standing" (15 : Nat) "SumsThatDiffer$Standing" "g" "[I") ∈ TB := tb_in 149 (by decide +kernel) rfl
theorem tw_150 : (Jvm.Cond.fieldLinkNest "SumsThatDiffer$County" (66 : Nat) "SumsThatDiffer$Standing" "g" "[I" "SumsThatDiffer") ∈ NB := nb_in 150 (by decide +kernel) rfl
theorem tw_151 : (Jvm.Cond.fieldLinkNest "SumsThatDiffer$Heights" (56 : Nat) "SumsThatDiffer$Standing" "g" "[I" "SumsThatDiffer") ∈ NB := nb_in 151 (by decide +kernel) rfl
theorem tw_152 : (Jvm.Cond.fieldLinkNest "SumsThatDiffer" (141 : Nat) "SumsThatDiffer$Standing" "g" "[I" "SumsThatDiffer") ∈ NB := nb_in 152 (by decide +kernel) rfl
theorem tw_153 : (Jvm.Cond.lays "SumsThatDiffer$Standing" "SumsThatDiffer$Standing" "place" "I") ∈ TB := tb_in 153 (by decide +kernel) rfl
theorem tw_155 : (Jvm.Cond.lays "SumsThatDiffer$Standing" "SumsThatDiffer$Standing" "sum" "I") ∈ TB := tb_in 155 (by decide +kernel) rfl
theorem tw_157 : (Jvm.Cond.lays "SumsThatDiffer$Standing" "SumsThatDiffer$Standing" "crossings" "I") ∈ TB := tb_in 157 (by decide +kernel) rfl
theorem tw_159 : (Jvm.Cond.lays "SumsThatDiffer$Standing" "SumsThatDiffer$Standing" "shutBits" "I") ∈ TB := tb_in 159 (by decide +kernel) rfl
theorem tw_161 : (Jvm.Cond.laysFinal "SumsThatDiffer$Standing" "SumsThatDiffer$Standing" "f" "[I") ∈ TB := tb_in 161 (by decide +kernel) rfl
theorem tw_163 : (Jvm.Cond.laysFinal "SumsThatDiffer$Standing" "SumsThatDiffer$Standing" "g" "[I") ∈ TB := tb_in 163 (by decide +kernel) rfl
theorem tw_166 : (Jvm.Cond.arrayClass Jvm.ClassFile.FieldType.int) ∈ TB := tb_in 166 (by decide +kernel) rfl
theorem tw_167 : (Jvm.Cond.fieldLink "SumsThatDiffer$County" (12 : Nat) "SumsThatDiffer$County" "now" "LSumsThatDiffer$Standing;") ∈ TB := tb_in 167 (by decide +kernel) rfl
theorem tw_168 : (Jvm.Cond.fieldLinkNest "SumsThatDiffer$Walker" (13 : Nat) "SumsThatDiffer$County" "now" "LSumsThatDiffer$Standing;" "SumsThatDiffer") ∈ NB := nb_in 168 (by decide +kernel) rfl
theorem tw_169 : (Jvm.Cond.fieldLinkNest "SumsThatDiffer$Climb" (25 : Nat) "SumsThatDiffer$County" "now" "LSumsThatDiffer$Standing;" "SumsThatDiffer") ∈ NB := nb_in 169 (by decide +kernel) rfl
theorem tw_170 : (Jvm.Cond.fieldLinkNest "SumsThatDiffer$Rings" (57 : Nat) "SumsThatDiffer$County" "now" "LSumsThatDiffer$Standing;" "SumsThatDiffer") ∈ NB := nb_in 170 (by decide +kernel) rfl
theorem tw_171 : (Jvm.Cond.fieldLinkNest "SumsThatDiffer$Heights" (47 : Nat) "SumsThatDiffer$County" "now" "LSumsThatDiffer$Standing;" "SumsThatDiffer") ∈ NB := nb_in 171 (by decide +kernel) rfl
theorem tw_172 : (Jvm.Cond.fieldLinkNest "SumsThatDiffer$Told" (67 : Nat) "SumsThatDiffer$County" "now" "LSumsThatDiffer$Standing;" "SumsThatDiffer") ∈ NB := nb_in 172 (by decide +kernel) rfl
theorem tw_173 : (Jvm.Cond.fieldLinkNest "SumsThatDiffer" (131 : Nat) "SumsThatDiffer$County" "now" "LSumsThatDiffer$Standing;" "SumsThatDiffer") ∈ NB := nb_in 173 (by decide +kernel) rfl
theorem tw_174 : (Jvm.Cond.fieldLinkNest "SumsThatDiffer$Reading" (84 : Nat) "SumsThatDiffer$County" "now" "LSumsThatDiffer$Standing;" "SumsThatDiffer") ∈ NB := nb_in 174 (by decide +kernel) rfl
theorem tw_175 : (Jvm.Cond.fieldLink "SumsThatDiffer$County" (18 : Nat) "SumsThatDiffer$County" "kinds" "[I") ∈ TB := tb_in 175 (by decide +kernel) rfl
theorem tw_176 : (Jvm.Cond.fieldLink "SumsThatDiffer$County" (22 : Nat) "SumsThatDiffer$County" "starts" "[I") ∈ TB := tb_in 176 (by decide +kernel) rfl
theorem tw_177 : (Jvm.Cond.fieldLink "SumsThatDiffer$County" (25 : Nat) "SumsThatDiffer$County" "ends" "[I") ∈ TB := tb_in 177 (by decide +kernel) rfl
theorem tw_178 : (Jvm.Cond.fieldLink "SumsThatDiffer$County" (28 : Nat) "SumsThatDiffer$County" "plan" "[I") ∈ TB := tb_in 178 (by decide +kernel) rfl
theorem tw_179 : (Jvm.Cond.fieldLink "SumsThatDiffer$County" (31 : Nat) "SumsThatDiffer$County" "places" "I") ∈ TB := tb_in 179 (by decide +kernel) rfl
theorem tw_180 : (Jvm.Cond.fieldLink "SumsThatDiffer$County" (35 : Nat) "SumsThatDiffer$County" "roads" "I") ∈ TB := tb_in 180 (by decide +kernel) rfl
theorem tw_181 : (Jvm.Cond.fieldLink "SumsThatDiffer$County" (38 : Nat) "SumsThatDiffer$County" "steps" "I") ∈ TB := tb_in 181 (by decide +kernel) rfl
theorem tw_182 : (Jvm.Cond.laysFinal "SumsThatDiffer$County" "SumsThatDiffer$County" "now" "LSumsThatDiffer$Standing;") ∈ TB := tb_in 182 (by decide +kernel) rfl
theorem tw_184 : (Jvm.Cond.laysFinal "SumsThatDiffer$County" "SumsThatDiffer$County" "kinds" "[I") ∈ TB := tb_in 184 (by decide +kernel) rfl
theorem tw_186 : (Jvm.Cond.laysFinal "SumsThatDiffer$County" "SumsThatDiffer$County" "starts" "[I") ∈ TB := tb_in 186 (by decide +kernel) rfl
theorem tw_188 : (Jvm.Cond.laysFinal "SumsThatDiffer$County" "SumsThatDiffer$County" "ends" "[I") ∈ TB := tb_in 188 (by decide +kernel) rfl
theorem tw_190 : (Jvm.Cond.laysFinal "SumsThatDiffer$County" "SumsThatDiffer$County" "plan" "[I") ∈ TB := tb_in 190 (by decide +kernel) rfl
theorem tw_192 : (Jvm.Cond.lays "SumsThatDiffer$County" "SumsThatDiffer$County" "places" "I") ∈ TB := tb_in 192 (by decide +kernel) rfl
theorem tw_194 : (Jvm.Cond.lays "SumsThatDiffer$County" "SumsThatDiffer$County" "roads" "I") ∈ TB := tb_in 194 (by decide +kernel) rfl
theorem tw_196 : (Jvm.Cond.lays "SumsThatDiffer$County" "SumsThatDiffer$County" "steps" "I") ∈ TB := tb_in 196 (by decide +kernel) rfl
theorem tw_199 : (Jvm.Cond.fieldLink "SumsThatDiffer$Reading" (12 : Nat) "SumsThatDiffer$Reading" "county" "LSumsThatDiffer$County;") ∈ TB := tb_in 199 (by decide +kernel) rfl
theorem tw_200 : (Jvm.Cond.fieldLinkNest "SumsThatDiffer" (298 : Nat) "SumsThatDiffer$Reading" "county" "LSumsThatDiffer$County;" "SumsThatDiffer") ∈ NB := nb_in 200 (by decide +kernel) rfl
theorem tw_201 : (Jvm.Cond.fieldLink "SumsThatDiffer$Reading" (18 : Nat) "SumsThatDiffer$Reading" "numbers" "[I") ∈ TB := tb_in 201 (by decide +kernel) rfl
theorem tw_202 : (Jvm.Cond.fieldLink "SumsThatDiffer$Reading" (29 : Nat) "SumsThatDiffer$Reading" "place" "I") ∈ TB := tb_in 202 (by decide +kernel) rfl
theorem tw_203 : (Jvm.Cond.fieldLink "SumsThatDiffer$Reading" (25 : Nat) "SumsThatDiffer$Reading" "onlyPlacesTold" "Z") ∈ TB := tb_in 203 (by decide +kernel) rfl
theorem tw_204 : (Jvm.Cond.laysFinal "SumsThatDiffer$Reading" "SumsThatDiffer$Reading" "county" "LSumsThatDiffer$County;") ∈ TB := tb_in 204 (by decide +kernel) rfl
theorem tw_206 : (Jvm.Cond.laysFinal "SumsThatDiffer$Reading" "SumsThatDiffer$Reading" "numbers" "[I") ∈ TB := tb_in 206 (by decide +kernel) rfl
theorem tw_208 : (Jvm.Cond.lays "SumsThatDiffer$Reading" "SumsThatDiffer$Reading" "place" "I") ∈ TB := tb_in 208 (by decide +kernel) rfl
theorem tw_210 : (Jvm.Cond.lays "SumsThatDiffer$Reading" "SumsThatDiffer$Reading" "onlyPlacesTold" "Z") ∈ TB := tb_in 210 (by decide +kernel) rfl
theorem tw_220 : (Jvm.Cond.methodLink "SumsThatDiffer$Pile" (1 : Nat) ({ cls := "java/lang/Object", name := "<init>", desc := "()V" } : Jvm.MethodName)) ∈ TB := tb_in 220 (by decide +kernel) rfl
theorem tw_221 : (Jvm.Cond.classLink "SumsThatDiffer$Pile" (7 : Nat) "SumsThatDiffer$Standing") ∈ TB := tb_in 221 (by decide +kernel) rfl
theorem tw_223 : (Jvm.Cond.methodLinkNest "SumsThatDiffer$Pile" (15 : Nat) ({ cls := "SumsThatDiffer$Standing", name := "<init>", desc := "()V" } : Jvm.MethodName) "SumsThatDiffer") ∈ NB := nb_in 223 (by decide +kernel) rfl
theorem tw_224 : (Jvm.Cond.fieldLink "SumsThatDiffer$Pile" (9 : Nat) "SumsThatDiffer$Pile" "rows" "[LSumsThatDiffer$Standing;") ∈ TB := tb_in 224 (by decide +kernel) rfl
theorem tw_225 : (Jvm.Cond.fieldLink "SumsThatDiffer$Pile" (16 : Nat) "SumsThatDiffer$Pile" "size" "I") ∈ TB := tb_in 225 (by decide +kernel) rfl
theorem tw_226 : (Jvm.Cond.laysFinal "SumsThatDiffer$Pile" "SumsThatDiffer$Pile" "rows" "[LSumsThatDiffer$Standing;") ∈ TB := tb_in 226 (by decide +kernel) rfl
theorem tw_228 : (Jvm.Cond.lays "SumsThatDiffer$Pile" "SumsThatDiffer$Pile" "size" "I") ∈ TB := tb_in 228 (by decide +kernel) rfl
theorem tw_236 : (Jvm.Cond.methodLink "SumsThatDiffer$Walker" (1 : Nat) ({ cls := "java/lang/Object", name := "<init>", desc := "()V" } : Jvm.MethodName)) ∈ TB := tb_in 236 (by decide +kernel) rfl
theorem tw_237 : (Jvm.Cond.fieldLink "SumsThatDiffer$Walker" (7 : Nat) "SumsThatDiffer$Walker" "county" "LSumsThatDiffer$County;") ∈ TB := tb_in 237 (by decide +kernel) rfl
theorem tw_238 : (Jvm.Cond.fieldLink "SumsThatDiffer$Walker" (25 : Nat) "SumsThatDiffer$Walker" "place" "I") ∈ TB := tb_in 238 (by decide +kernel) rfl
theorem tw_239 : (Jvm.Cond.fieldLinkNest "SumsThatDiffer" (164 : Nat) "SumsThatDiffer$Walker" "place" "I" "SumsThatDiffer") ∈ NB := nb_in 239 (by decide +kernel) rfl
theorem tw_240 : (Jvm.Cond.fieldLink "SumsThatDiffer$Walker" (29 : Nat) "SumsThatDiffer$Walker" "sum" "I") ∈ TB := tb_in 240 (by decide +kernel) rfl
theorem tw_241 : (Jvm.Cond.fieldLinkNest "SumsThatDiffer" (165 : Nat) "SumsThatDiffer$Walker" "sum" "I" "SumsThatDiffer") ∈ NB := nb_in 241 (by decide +kernel) rfl
theorem tw_242 : (Jvm.Cond.fieldLink "SumsThatDiffer$Walker" (30 : Nat) "SumsThatDiffer$Walker" "changes" "I") ∈ TB := tb_in 242 (by decide +kernel) rfl
theorem tw_243 : (Jvm.Cond.fieldLinkNest "SumsThatDiffer" (270 : Nat) "SumsThatDiffer$Walker" "changes" "I" "SumsThatDiffer") ∈ NB := nb_in 243 (by decide +kernel) rfl
theorem tw_244 : (Jvm.Cond.fieldLink "SumsThatDiffer$Walker" (33 : Nat) "SumsThatDiffer$Walker" "crossed" "I") ∈ TB := tb_in 244 (by decide +kernel) rfl
theorem tw_245 : (Jvm.Cond.fieldLinkNest "SumsThatDiffer" (288 : Nat) "SumsThatDiffer$Walker" "crossed" "I" "SumsThatDiffer") ∈ NB := nb_in 245 (by decide +kernel) rfl
theorem tw_246 : (Jvm.Cond.laysFinal "SumsThatDiffer$Walker" "SumsThatDiffer$Walker" "county" "LSumsThatDiffer$County;") ∈ TB := tb_in 246 (by decide +kernel) rfl
theorem tw_248 : (Jvm.Cond.lays "SumsThatDiffer$Walker" "SumsThatDiffer$Walker" "place" "I") ∈ TB := tb_in 248 (by decide +kernel) rfl
theorem tw_250 : (Jvm.Cond.lays "SumsThatDiffer$Walker" "SumsThatDiffer$Walker" "sum" "I") ∈ TB := tb_in 250 (by decide +kernel) rfl
theorem tw_252 : (Jvm.Cond.lays "SumsThatDiffer$Walker" "SumsThatDiffer$Walker" "changes" "I") ∈ TB := tb_in 252 (by decide +kernel) rfl
theorem tw_254 : (Jvm.Cond.lays "SumsThatDiffer$Walker" "SumsThatDiffer$Walker" "crossed" "I") ∈ TB := tb_in 254 (by decide +kernel) rfl
theorem tw_262 : (Jvm.Cond.methodLink "SumsThatDiffer$Climb" (3 : Nat) ({ cls := "java/lang/Object", name := "<init>", desc := "()V" } : Jvm.MethodName)) ∈ TB := tb_in 262 (by decide +kernel) rfl
theorem tw_263 : (Jvm.Cond.fieldLink "SumsThatDiffer$Climb" (21 : Nat) "SumsThatDiffer$Climb" "county" "LSumsThatDiffer$County;") ∈ TB := tb_in 263 (by decide +kernel) rfl
theorem tw_264 : (Jvm.Cond.fieldLink "SumsThatDiffer$Climb" (9 : Nat) "SumsThatDiffer$Climb" "row" "[I") ∈ TB := tb_in 264 (by decide +kernel) rfl
theorem tw_265 : (Jvm.Cond.fieldLinkNest "SumsThatDiffer" (215 : Nat) "SumsThatDiffer$Climb" "row" "[I" "SumsThatDiffer") ∈ NB := nb_in 265 (by decide +kernel) rfl
theorem tw_266 : (Jvm.Cond.fieldLink "SumsThatDiffer$Climb" (15 : Nat) "SumsThatDiffer$Climb" "best" "[I") ∈ TB := tb_in 266 (by decide +kernel) rfl
theorem tw_267 : (Jvm.Cond.fieldLink "SumsThatDiffer$Climb" (18 : Nat) "SumsThatDiffer$Climb" "next" "[I") ∈ TB := tb_in 267 (by decide +kernel) rfl
theorem tw_268 : (Jvm.Cond.fieldLink "SumsThatDiffer$Climb" (44 : Nat) "SumsThatDiffer$Climb" "highest" "I") ∈ TB := tb_in 268 (by decide +kernel) rfl
theorem tw_269 : (Jvm.Cond.fieldLinkNest "SumsThatDiffer" (202 : Nat) "SumsThatDiffer$Climb" "highest" "I" "SumsThatDiffer") ∈ NB := nb_in 269 (by decide +kernel) rfl
theorem tw_270 : (Jvm.Cond.fieldLink "SumsThatDiffer$Climb" (47 : Nat) "SumsThatDiffer$Climb" "crossings" "I") ∈ TB := tb_in 270 (by decide +kernel) rfl
theorem tw_271 : (Jvm.Cond.fieldLinkNest "SumsThatDiffer" (205 : Nat) "SumsThatDiffer$Climb" "crossings" "I" "SumsThatDiffer") ∈ NB := nb_in 271 (by decide +kernel) rfl
theorem tw_272 : (Jvm.Cond.laysFinal "SumsThatDiffer$Climb" "SumsThatDiffer$Climb" "county" "LSumsThatDiffer$County;") ∈ TB := tb_in 272 (by decide +kernel) rfl
theorem tw_274 : (Jvm.Cond.laysFinal "SumsThatDiffer$Climb" "SumsThatDiffer$Climb" "row" "[I") ∈ TB := tb_in 274 (by decide +kernel) rfl
theorem tw_276 : (Jvm.Cond.lays "SumsThatDiffer$Climb" "SumsThatDiffer$Climb" "best" "[I") ∈ TB := tb_in 276 (by decide +kernel) rfl
theorem tw_278 : (Jvm.Cond.lays "SumsThatDiffer$Climb" "SumsThatDiffer$Climb" "next" "[I") ∈ TB := tb_in 278 (by decide +kernel) rfl
theorem tw_280 : (Jvm.Cond.lays "SumsThatDiffer$Climb" "SumsThatDiffer$Climb" "highest" "I") ∈ TB := tb_in 280 (by decide +kernel) rfl
theorem tw_282 : (Jvm.Cond.lays "SumsThatDiffer$Climb" "SumsThatDiffer$Climb" "crossings" "I") ∈ TB := tb_in 282 (by decide +kernel) rfl
theorem tw_290 : (Jvm.Cond.methodLink "SumsThatDiffer$Heights" (3 : Nat) ({ cls := "java/lang/Object", name := "<init>", desc := "()V" } : Jvm.MethodName)) ∈ TB := tb_in 290 (by decide +kernel) rfl
theorem tw_291 : (Jvm.Cond.fieldLink "SumsThatDiffer$Heights" (18 : Nat) "SumsThatDiffer$Heights" "county" "LSumsThatDiffer$County;") ∈ TB := tb_in 291 (by decide +kernel) rfl
theorem tw_292 : (Jvm.Cond.fieldLink "SumsThatDiffer$Heights" (9 : Nat) "SumsThatDiffer$Heights" "lowest" "[I") ∈ TB := tb_in 292 (by decide +kernel) rfl
theorem tw_293 : (Jvm.Cond.fieldLink "SumsThatDiffer$Heights" (15 : Nat) "SumsThatDiffer$Heights" "height" "[I") ∈ TB := tb_in 293 (by decide +kernel) rfl
theorem tw_294 : (Jvm.Cond.laysFinal "SumsThatDiffer$Heights" "SumsThatDiffer$Heights" "county" "LSumsThatDiffer$County;") ∈ TB := tb_in 294 (by decide +kernel) rfl
theorem tw_296 : (Jvm.Cond.laysFinal "SumsThatDiffer$Heights" "SumsThatDiffer$Heights" "lowest" "[I") ∈ TB := tb_in 296 (by decide +kernel) rfl
theorem tw_298 : (Jvm.Cond.laysFinal "SumsThatDiffer$Heights" "SumsThatDiffer$Heights" "height" "[I") ∈ TB := tb_in 298 (by decide +kernel) rfl
theorem tw_306 : (Jvm.Cond.methodLink "SumsThatDiffer$Rings" (3 : Nat) ({ cls := "java/lang/Object", name := "<init>", desc := "()V" } : Jvm.MethodName)) ∈ TB := tb_in 306 (by decide +kernel) rfl
theorem tw_307 : (Jvm.Cond.fieldLink "SumsThatDiffer$Rings" (24 : Nat) "SumsThatDiffer$Rings" "county" "LSumsThatDiffer$County;") ∈ TB := tb_in 307 (by decide +kernel) rfl
theorem tw_308 : (Jvm.Cond.fieldLink "SumsThatDiffer$Rings" (9 : Nat) "SumsThatDiffer$Rings" "most" "[I") ∈ TB := tb_in 308 (by decide +kernel) rfl
theorem tw_309 : (Jvm.Cond.fieldLink "SumsThatDiffer$Rings" (15 : Nat) "SumsThatDiffer$Rings" "least" "[I") ∈ TB := tb_in 309 (by decide +kernel) rfl
theorem tw_310 : (Jvm.Cond.fieldLink "SumsThatDiffer$Rings" (18 : Nat) "SumsThatDiffer$Rings" "nextMost" "[I") ∈ TB := tb_in 310 (by decide +kernel) rfl
theorem tw_311 : (Jvm.Cond.fieldLink "SumsThatDiffer$Rings" (21 : Nat) "SumsThatDiffer$Rings" "nextLeast" "[I") ∈ TB := tb_in 311 (by decide +kernel) rfl
theorem tw_312 : (Jvm.Cond.fieldLink "SumsThatDiffer$Rings" (42 : Nat) "SumsThatDiffer$Rings" "reached" "I") ∈ TB := tb_in 312 (by decide +kernel) rfl
theorem tw_313 : (Jvm.Cond.fieldLink "SumsThatDiffer$Rings" (51 : Nat) "SumsThatDiffer$Rings" "nextReached" "I") ∈ TB := tb_in 313 (by decide +kernel) rfl
theorem tw_314 : (Jvm.Cond.fieldLink "SumsThatDiffer$Rings" (28 : Nat) "SumsThatDiffer$Rings" "length" "I") ∈ TB := tb_in 314 (by decide +kernel) rfl
theorem tw_315 : (Jvm.Cond.fieldLinkNest "SumsThatDiffer" (230 : Nat) "SumsThatDiffer$Rings" "length" "I" "SumsThatDiffer") ∈ NB := nb_in 315 (by decide +kernel) rfl
theorem tw_316 : (Jvm.Cond.fieldLink "SumsThatDiffer$Rings" (48 : Nat) "SumsThatDiffer$Rings" "start" "I") ∈ TB := tb_in 316 (by decide +kernel) rfl
theorem tw_317 : (Jvm.Cond.fieldLinkNest "SumsThatDiffer" (232 : Nat) "SumsThatDiffer$Rings" "start" "I" "SumsThatDiffer") ∈ NB := nb_in 317 (by decide +kernel) rfl
theorem tw_318 : (Jvm.Cond.laysFinal "SumsThatDiffer$Rings" "SumsThatDiffer$Rings" "county" "LSumsThatDiffer$County;") ∈ TB := tb_in 318 (by decide +kernel) rfl
theorem tw_320 : (Jvm.Cond.lays "SumsThatDiffer$Rings" "SumsThatDiffer$Rings" "most" "[I") ∈ TB := tb_in 320 (by decide +kernel) rfl
theorem tw_322 : (Jvm.Cond.lays "SumsThatDiffer$Rings" "SumsThatDiffer$Rings" "least" "[I") ∈ TB := tb_in 322 (by decide +kernel) rfl
theorem tw_324 : (Jvm.Cond.lays "SumsThatDiffer$Rings" "SumsThatDiffer$Rings" "nextMost" "[I") ∈ TB := tb_in 324 (by decide +kernel) rfl
theorem tw_326 : (Jvm.Cond.lays "SumsThatDiffer$Rings" "SumsThatDiffer$Rings" "nextLeast" "[I") ∈ TB := tb_in 326 (by decide +kernel) rfl
theorem tw_328 : (Jvm.Cond.lays "SumsThatDiffer$Rings" "SumsThatDiffer$Rings" "reached" "I") ∈ TB := tb_in 328 (by decide +kernel) rfl
theorem tw_330 : (Jvm.Cond.lays "SumsThatDiffer$Rings" "SumsThatDiffer$Rings" "nextReached" "I") ∈ TB := tb_in 330 (by decide +kernel) rfl
theorem tw_332 : (Jvm.Cond.lays "SumsThatDiffer$Rings" "SumsThatDiffer$Rings" "length" "I") ∈ TB := tb_in 332 (by decide +kernel) rfl
theorem tw_334 : (Jvm.Cond.lays "SumsThatDiffer$Rings" "SumsThatDiffer$Rings" "start" "I") ∈ TB := tb_in 334 (by decide +kernel) rfl
theorem tw_342 : (Jvm.Cond.methodLink "SumsThatDiffer$Told" (3 : Nat) ({ cls := "java/lang/Object", name := "<init>", desc := "()V" } : Jvm.MethodName)) ∈ TB := tb_in 342 (by decide +kernel) rfl
theorem tw_343 : (Jvm.Cond.fieldLink "SumsThatDiffer$Told" (43 : Nat) "SumsThatDiffer$Told" "county" "LSumsThatDiffer$County;") ∈ TB := tb_in 343 (by decide +kernel) rfl
theorem tw_344 : (Jvm.Cond.fieldLink "SumsThatDiffer$Told" (9 : Nat) "SumsThatDiffer$Told" "places" "[I") ∈ TB := tb_in 344 (by decide +kernel) rfl
theorem tw_345 : (Jvm.Cond.fieldLink "SumsThatDiffer$Told" (15 : Nat) "SumsThatDiffer$Told" "sums" "[I") ∈ TB := tb_in 345 (by decide +kernel) rfl
theorem tw_346 : (Jvm.Cond.fieldLink "SumsThatDiffer$Told" (18 : Nat) "SumsThatDiffer$Told" "firsts" "[I") ∈ TB := tb_in 346 (by decide +kernel) rfl
theorem tw_347 : (Jvm.Cond.fieldLink "SumsThatDiffer$Told" (21 : Nat) "SumsThatDiffer$Told" "seconds" "[I") ∈ TB := tb_in 347 (by decide +kernel) rfl
theorem tw_348 : (Jvm.Cond.fieldLink "SumsThatDiffer$Told" (24 : Nat) "SumsThatDiffer$Told" "comes" "[I") ∈ TB := tb_in 348 (by decide +kernel) rfl
theorem tw_349 : (Jvm.Cond.fieldLink "SumsThatDiffer$Told" (47 : Nat) "SumsThatDiffer$Told" "size" "I") ∈ TB := tb_in 349 (by decide +kernel) rfl
theorem tw_350 : (Jvm.Cond.fieldLink "SumsThatDiffer$Told" (27 : Nat) "SumsThatDiffer$Told" "ways" "[I") ∈ TB := tb_in 350 (by decide +kernel) rfl
theorem tw_351 : (Jvm.Cond.fieldLink "SumsThatDiffer$Told" (30 : Nat) "SumsThatDiffer$Told" "fSuits" "[Z") ∈ TB := tb_in 351 (by decide +kernel) rfl
theorem tw_352 : (Jvm.Cond.fieldLink "SumsThatDiffer$Told" (34 : Nat) "SumsThatDiffer$Told" "gSuits" "[Z") ∈ TB := tb_in 352 (by decide +kernel) rfl
theorem tw_353 : (Jvm.Cond.fieldLink "SumsThatDiffer$Told" (37 : Nat) "SumsThatDiffer$Told" "fCanBe" "[Z") ∈ TB := tb_in 353 (by decide +kernel) rfl
theorem tw_354 : (Jvm.Cond.fieldLink "SumsThatDiffer$Told" (40 : Nat) "SumsThatDiffer$Told" "gCanBe" "[Z") ∈ TB := tb_in 354 (by decide +kernel) rfl
theorem tw_355 : (Jvm.Cond.fieldLink "SumsThatDiffer$Told" (101 : Nat) "SumsThatDiffer$Told" "supposedRoad" "I") ∈ TB := tb_in 355 (by decide +kernel) rfl
theorem tw_356 : (Jvm.Cond.fieldLink "SumsThatDiffer$Told" (111 : Nat) "SumsThatDiffer$Told" "supposedF" "I") ∈ TB := tb_in 356 (by decide +kernel) rfl
theorem tw_357 : (Jvm.Cond.fieldLink "SumsThatDiffer$Told" (114 : Nat) "SumsThatDiffer$Told" "supposedG" "I") ∈ TB := tb_in 357 (by decide +kernel) rfl
theorem tw_358 : (Jvm.Cond.fieldLink "SumsThatDiffer$Told" (84 : Nat) "SumsThatDiffer$Told" "walkRoad" "I") ∈ TB := tb_in 358 (by decide +kernel) rfl
theorem tw_359 : (Jvm.Cond.fieldLinkNest "SumsThatDiffer" (264 : Nat) "SumsThatDiffer$Told" "walkRoad" "I" "SumsThatDiffer") ∈ NB := nb_in 359 (by decide +kernel) rfl
theorem tw_360 : (Jvm.Cond.fieldLink "SumsThatDiffer$Told" (64 : Nat) "SumsThatDiffer$Told" "walkSums" "I") ∈ TB := tb_in 360 (by decide +kernel) rfl
theorem tw_361 : (Jvm.Cond.fieldLinkNest "SumsThatDiffer" (267 : Nat) "SumsThatDiffer$Told" "walkSums" "I" "SumsThatDiffer") ∈ NB := nb_in 361 (by decide +kernel) rfl
theorem tw_362 : (Jvm.Cond.laysFinal "SumsThatDiffer$Told" "SumsThatDiffer$Told" "county" "LSumsThatDiffer$County;") ∈ TB := tb_in 362 (by decide +kernel) rfl
theorem tw_364 : (Jvm.Cond.laysFinal "SumsThatDiffer$Told" "SumsThatDiffer$Told" "places" "[I") ∈ TB := tb_in 364 (by decide +kernel) rfl
theorem tw_366 : (Jvm.Cond.laysFinal "SumsThatDiffer$Told" "SumsThatDiffer$Told" "sums" "[I") ∈ TB := tb_in 366 (by decide +kernel) rfl
theorem tw_368 : (Jvm.Cond.laysFinal "SumsThatDiffer$Told" "SumsThatDiffer$Told" "firsts" "[I") ∈ TB := tb_in 368 (by decide +kernel) rfl
theorem tw_370 : (Jvm.Cond.laysFinal "SumsThatDiffer$Told" "SumsThatDiffer$Told" "seconds" "[I") ∈ TB := tb_in 370 (by decide +kernel) rfl
theorem tw_372 : (Jvm.Cond.laysFinal "SumsThatDiffer$Told" "SumsThatDiffer$Told" "comes" "[I") ∈ TB := tb_in 372 (by decide +kernel) rfl
theorem tw_374 : (Jvm.Cond.lays "SumsThatDiffer$Told" "SumsThatDiffer$Told" "size" "I") ∈ TB := tb_in 374 (by decide +kernel) rfl
theorem tw_376 : (Jvm.Cond.laysFinal "SumsThatDiffer$Told" "SumsThatDiffer$Told" "ways" "[I") ∈ TB := tb_in 376 (by decide +kernel) rfl
theorem tw_378 : (Jvm.Cond.laysFinal "SumsThatDiffer$Told" "SumsThatDiffer$Told" "fSuits" "[Z") ∈ TB := tb_in 378 (by decide +kernel) rfl
theorem tw_380 : (Jvm.Cond.laysFinal "SumsThatDiffer$Told" "SumsThatDiffer$Told" "gSuits" "[Z") ∈ TB := tb_in 380 (by decide +kernel) rfl
theorem tw_382 : (Jvm.Cond.laysFinal "SumsThatDiffer$Told" "SumsThatDiffer$Told" "fCanBe" "[Z") ∈ TB := tb_in 382 (by decide +kernel) rfl
theorem tw_384 : (Jvm.Cond.laysFinal "SumsThatDiffer$Told" "SumsThatDiffer$Told" "gCanBe" "[Z") ∈ TB := tb_in 384 (by decide +kernel) rfl
theorem tw_386 : (Jvm.Cond.lays "SumsThatDiffer$Told" "SumsThatDiffer$Told" "supposedRoad" "I") ∈ TB := tb_in 386 (by decide +kernel) rfl
theorem tw_388 : (Jvm.Cond.lays "SumsThatDiffer$Told" "SumsThatDiffer$Told" "supposedF" "I") ∈ TB := tb_in 388 (by decide +kernel) rfl
theorem tw_390 : (Jvm.Cond.lays "SumsThatDiffer$Told" "SumsThatDiffer$Told" "supposedG" "I") ∈ TB := tb_in 390 (by decide +kernel) rfl
theorem tw_392 : (Jvm.Cond.lays "SumsThatDiffer$Told" "SumsThatDiffer$Told" "walkRoad" "I") ∈ TB := tb_in 392 (by decide +kernel) rfl
theorem tw_394 : (Jvm.Cond.lays "SumsThatDiffer$Told" "SumsThatDiffer$Told" "walkSums" "I") ∈ TB := tb_in 394 (by decide +kernel) rfl
theorem tw_397 : (Jvm.Cond.arrayClass Jvm.ClassFile.FieldType.boolean) ∈ TB := tb_in 397 (by decide +kernel) rfl
theorem tw_403 : (Jvm.Cond.methodLink "SumsThatDiffer$Weather" (3 : Nat) ({ cls := "java/lang/Object", name := "<init>", desc := "()V" } : Jvm.MethodName)) ∈ TB := tb_in 403 (by decide +kernel) rfl
theorem tw_404 : (Jvm.Cond.fieldLink "SumsThatDiffer$Weather" (15 : Nat) "SumsThatDiffer$Weather" "county" "LSumsThatDiffer$County;") ∈ TB := tb_in 404 (by decide +kernel) rfl
theorem tw_405 : (Jvm.Cond.fieldLink "SumsThatDiffer$Weather" (9 : Nat) "SumsThatDiffer$Weather" "setsBySize" "[I") ∈ TB := tb_in 405 (by decide +kernel) rfl
theorem tw_406 : (Jvm.Cond.fieldLink "SumsThatDiffer$Weather" (35 : Nat) "SumsThatDiffer$Weather" "above" "J") ∈ TB := tb_in 406 (by decide +kernel) rfl
theorem tw_407 : (Jvm.Cond.fieldLinkNest "SumsThatDiffer" (277 : Nat) "SumsThatDiffer$Weather" "above" "J" "SumsThatDiffer") ∈ NB := nb_in 407 (by decide +kernel) rfl
theorem tw_408 : (Jvm.Cond.fieldLink "SumsThatDiffer$Weather" (43 : Nat) "SumsThatDiffer$Weather" "below" "J") ∈ TB := tb_in 408 (by decide +kernel) rfl
theorem tw_409 : (Jvm.Cond.fieldLinkNest "SumsThatDiffer" (281 : Nat) "SumsThatDiffer$Weather" "below" "J" "SumsThatDiffer") ∈ NB := nb_in 409 (by decide +kernel) rfl
theorem tw_410 : (Jvm.Cond.laysFinal "SumsThatDiffer$Weather" "SumsThatDiffer$Weather" "county" "LSumsThatDiffer$County;") ∈ TB := tb_in 410 (by decide +kernel) rfl
theorem tw_412 : (Jvm.Cond.laysFinal "SumsThatDiffer$Weather" "SumsThatDiffer$Weather" "setsBySize" "[I") ∈ TB := tb_in 412 (by decide +kernel) rfl
theorem tw_414 : (Jvm.Cond.lays "SumsThatDiffer$Weather" "SumsThatDiffer$Weather" "above" "J") ∈ TB := tb_in 414 (by decide +kernel) rfl
theorem tw_416 : (Jvm.Cond.lays "SumsThatDiffer$Weather" "SumsThatDiffer$Weather" "below" "J") ∈ TB := tb_in 416 (by decide +kernel) rfl
theorem tw_468 : (Jvm.Cond.methodLink "SumsThatDiffer" (98 : Nat) ({ cls := "SumsThatDiffer$Letters", name := "append", desc := "(C)Z" } : Jvm.MethodName)) ∈ TB := tb_in 468 (by decide +kernel) rfl
theorem tw_469 : (Jvm.Cond.instanceMethod ({ cls := "SumsThatDiffer$Letters", name := "append", desc := "(C)Z" } : Jvm.MethodName)) ∈ TB := tb_in 469 (by decide +kernel) rfl
theorem tw_470 : (Jvm.Cond.selects "SumsThatDiffer$Letters" ({ cls := "SumsThatDiffer$Letters", name := "append", desc := "(C)Z" } : Jvm.MethodName) ({ cls := "SumsThatDiffer$Letters", name := "append", desc := "(C)Z" } : Jvm.MethodName)) ∈ TB := tb_in 470 (by decide +kernel) rfl
theorem tw_471 : (Jvm.Cond.code ({ cls := "SumsThatDiffer$Letters", name := "append", desc := "(C)Z" } : Jvm.MethodName) prog_5_method_2_code (2 : Nat) (Option.some Jvm.ClassFile.FieldType.boolean)) ∈ TB := tb_in 471 (by decide +kernel) rfl
theorem tw_472 : (Jvm.Cond.methodLink "SumsThatDiffer" (102 : Nat) ({ cls := "SumsThatDiffer", name := "layLetters", desc := "()Z" } : Jvm.MethodName)) ∈ TB := tb_in 472 (by decide +kernel) rfl
theorem tw_474 : (Jvm.Cond.instanceMethod ({ cls := "SumsThatDiffer", name := "layLetters", desc := "()Z" } : Jvm.MethodName)) ∈ TB := tb_in 474 (by decide +kernel) rfl
theorem tw_475 : (Jvm.Cond.code ({ cls := "SumsThatDiffer", name := "layLetters", desc := "()Z" } : Jvm.MethodName) prog_1_method_30_code (1 : Nat) (Option.some Jvm.ClassFile.FieldType.boolean)) ∈ TB := tb_in 475 (by decide +kernel) rfl
theorem tw_476 : (Jvm.Cond.methodLink "SumsThatDiffer" (109 : Nat) ({ cls := "SumsThatDiffer$Letters", name := "length", desc := "()I" } : Jvm.MethodName)) ∈ TB := tb_in 476 (by decide +kernel) rfl
theorem tw_477 : (Jvm.Cond.instanceMethod ({ cls := "SumsThatDiffer$Letters", name := "length", desc := "()I" } : Jvm.MethodName)) ∈ TB := tb_in 477 (by decide +kernel) rfl
theorem tw_478 : (Jvm.Cond.selects "SumsThatDiffer$Letters" ({ cls := "SumsThatDiffer$Letters", name := "length", desc := "()I" } : Jvm.MethodName) ({ cls := "SumsThatDiffer$Letters", name := "length", desc := "()I" } : Jvm.MethodName)) ∈ TB := tb_in 478 (by decide +kernel) rfl
theorem tw_479 : (Jvm.Cond.code ({ cls := "SumsThatDiffer$Letters", name := "length", desc := "()I" } : Jvm.MethodName) prog_5_method_4_code (1 : Nat) (Option.some Jvm.ClassFile.FieldType.int)) ∈ TB := tb_in 479 (by decide +kernel) rfl
theorem tw_480 : (Jvm.Cond.methodLink "SumsThatDiffer" (110 : Nat) ({ cls := "SumsThatDiffer$Reading", name := "firstFault", desc := "(LSumsThatDiffer$Letters;)I" } : Jvm.MethodName)) ∈ TB := tb_in 480 (by decide +kernel) rfl
theorem tw_481 : (Jvm.Cond.instanceMethod ({ cls := "SumsThatDiffer$Reading", name := "firstFault", desc := "(LSumsThatDiffer$Letters;)I" } : Jvm.MethodName)) ∈ TB := tb_in 481 (by decide +kernel) rfl
theorem tw_482 : (Jvm.Cond.selects "SumsThatDiffer$Reading" ({ cls := "SumsThatDiffer$Reading", name := "firstFault", desc := "(LSumsThatDiffer$Letters;)I" } : Jvm.MethodName) ({ cls := "SumsThatDiffer$Reading", name := "firstFault", desc := "(LSumsThatDiffer$Letters;)I" } : Jvm.MethodName)) ∈ TB := tb_in 482 (by decide +kernel) rfl
theorem tw_483 : (Jvm.Cond.code ({ cls := "SumsThatDiffer$Reading", name := "firstFault", desc := "(LSumsThatDiffer$Letters;)I" } : Jvm.MethodName) prog_7_method_2_code (4 : Nat) (Option.some Jvm.ClassFile.FieldType.int)) ∈ TB := tb_in 483 (by decide +kernel) rfl
theorem tw_484 : (Jvm.Cond.methodLink "SumsThatDiffer$Reading" (22 : Nat) ({ cls := "SumsThatDiffer$County", name := "clear", desc := "()V" } : Jvm.MethodName)) ∈ TB := tb_in 484 (by decide +kernel) rfl
theorem tw_485 : (Jvm.Cond.instanceMethod ({ cls := "SumsThatDiffer$County", name := "clear", desc := "()V" } : Jvm.MethodName)) ∈ TB := tb_in 485 (by decide +kernel) rfl
theorem tw_486 : (Jvm.Cond.selects "SumsThatDiffer$County" ({ cls := "SumsThatDiffer$County", name := "clear", desc := "()V" } : Jvm.MethodName) ({ cls := "SumsThatDiffer$County", name := "clear", desc := "()V" } : Jvm.MethodName)) ∈ TB := tb_in 486 (by decide +kernel) rfl
theorem tw_487 : (Jvm.Cond.code ({ cls := "SumsThatDiffer$County", name := "clear", desc := "()V" } : Jvm.MethodName) prog_3_method_2_code (1 : Nat) (Option.none : Option Jvm.ClassFile.FieldType)) ∈ TB := tb_in 487 (by decide +kernel) rfl
theorem tw_488 : (Jvm.Cond.methodLink "SumsThatDiffer$Reading" (33 : Nat) ({ cls := "SumsThatDiffer$Letters", name := "length", desc := "()I" } : Jvm.MethodName)) ∈ TB := tb_in 488 (by decide +kernel) rfl
theorem tw_489 : (Jvm.Cond.methodLink "SumsThatDiffer$Reading" (39 : Nat) ({ cls := "SumsThatDiffer$Reading", name := "readItem", desc := "(LSumsThatDiffer$Letters;)Z" } : Jvm.MethodName)) ∈ TB := tb_in 489 (by decide +kernel) rfl
theorem tw_491 : (Jvm.Cond.instanceMethod ({ cls := "SumsThatDiffer$Reading", name := "readItem", desc := "(LSumsThatDiffer$Letters;)Z" } : Jvm.MethodName)) ∈ TB := tb_in 491 (by decide +kernel) rfl
theorem tw_492 : (Jvm.Cond.code ({ cls := "SumsThatDiffer$Reading", name := "readItem", desc := "(LSumsThatDiffer$Letters;)Z" } : Jvm.MethodName) prog_7_method_3_code (3 : Nat) (Option.some Jvm.ClassFile.FieldType.boolean)) ∈ TB := tb_in 492 (by decide +kernel) rfl
theorem tw_493 : (Jvm.Cond.methodLink "SumsThatDiffer$Reading" (43 : Nat) ({ cls := "SumsThatDiffer$Letters", name := "has", desc := "(IC)Z" } : Jvm.MethodName)) ∈ TB := tb_in 493 (by decide +kernel) rfl
theorem tw_494 : (Jvm.Cond.instanceMethod ({ cls := "SumsThatDiffer$Letters", name := "has", desc := "(IC)Z" } : Jvm.MethodName)) ∈ TB := tb_in 494 (by decide +kernel) rfl
theorem tw_495 : (Jvm.Cond.selects "SumsThatDiffer$Letters" ({ cls := "SumsThatDiffer$Letters", name := "has", desc := "(IC)Z" } : Jvm.MethodName) ({ cls := "SumsThatDiffer$Letters", name := "has", desc := "(IC)Z" } : Jvm.MethodName)) ∈ TB := tb_in 495 (by decide +kernel) rfl
theorem tw_496 : (Jvm.Cond.code ({ cls := "SumsThatDiffer$Letters", name := "has", desc := "(IC)Z" } : Jvm.MethodName) prog_5_method_5_code (3 : Nat) (Option.some Jvm.ClassFile.FieldType.boolean)) ∈ TB := tb_in 496 (by decide +kernel) rfl
theorem tw_497 : (Jvm.Cond.methodLink "SumsThatDiffer$Reading" (47 : Nat) ({ cls := "SumsThatDiffer$Reading", name := "readNumbers", desc := "(LSumsThatDiffer$Letters;I)Z" } : Jvm.MethodName)) ∈ TB := tb_in 497 (by decide +kernel) rfl
theorem tw_499 : (Jvm.Cond.instanceMethod ({ cls := "SumsThatDiffer$Reading", name := "readNumbers", desc := "(LSumsThatDiffer$Letters;I)Z" } : Jvm.MethodName)) ∈ TB := tb_in 499 (by decide +kernel) rfl
theorem tw_500 : (Jvm.Cond.code ({ cls := "SumsThatDiffer$Reading", name := "readNumbers", desc := "(LSumsThatDiffer$Letters;I)Z" } : Jvm.MethodName) prog_7_method_4_code (5 : Nat) (Option.some Jvm.ClassFile.FieldType.boolean)) ∈ TB := tb_in 500 (by decide +kernel) rfl
theorem tw_501 : (Jvm.Cond.methodLink "SumsThatDiffer$Reading" (66 : Nat) ({ cls := "SumsThatDiffer$Reading", name := "readNumber", desc := "(LSumsThatDiffer$Letters;)I" } : Jvm.MethodName)) ∈ TB := tb_in 501 (by decide +kernel) rfl
theorem tw_503 : (Jvm.Cond.instanceMethod ({ cls := "SumsThatDiffer$Reading", name := "readNumber", desc := "(LSumsThatDiffer$Letters;)I" } : Jvm.MethodName)) ∈ TB := tb_in 503 (by decide +kernel) rfl
theorem tw_504 : (Jvm.Cond.code ({ cls := "SumsThatDiffer$Reading", name := "readNumber", desc := "(LSumsThatDiffer$Letters;)I" } : Jvm.MethodName) prog_7_method_5_code (4 : Nat) (Option.some Jvm.ClassFile.FieldType.int)) ∈ TB := tb_in 504 (by decide +kernel) rfl
theorem tw_505 : (Jvm.Cond.methodLink "SumsThatDiffer$Reading" (70 : Nat) ({ cls := "SumsThatDiffer$Letters", name := "figureAt", desc := "(I)I" } : Jvm.MethodName)) ∈ TB := tb_in 505 (by decide +kernel) rfl
theorem tw_506 : (Jvm.Cond.instanceMethod ({ cls := "SumsThatDiffer$Letters", name := "figureAt", desc := "(I)I" } : Jvm.MethodName)) ∈ TB := tb_in 506 (by decide +kernel) rfl
theorem tw_507 : (Jvm.Cond.selects "SumsThatDiffer$Letters" ({ cls := "SumsThatDiffer$Letters", name := "figureAt", desc := "(I)I" } : Jvm.MethodName) ({ cls := "SumsThatDiffer$Letters", name := "figureAt", desc := "(I)I" } : Jvm.MethodName)) ∈ TB := tb_in 507 (by decide +kernel) rfl
theorem tw_508 : (Jvm.Cond.code ({ cls := "SumsThatDiffer$Letters", name := "figureAt", desc := "(I)I" } : Jvm.MethodName) prog_5_method_6_code (2 : Nat) (Option.some Jvm.ClassFile.FieldType.int)) ∈ TB := tb_in 508 (by decide +kernel) rfl
theorem tw_509 : (Jvm.Cond.methodLink "SumsThatDiffer$Reading" (51 : Nat) ({ cls := "SumsThatDiffer$Reading", name := "tellPlaces", desc := "(I)Z" } : Jvm.MethodName)) ∈ TB := tb_in 509 (by decide +kernel) rfl
theorem tw_511 : (Jvm.Cond.instanceMethod ({ cls := "SumsThatDiffer$Reading", name := "tellPlaces", desc := "(I)Z" } : Jvm.MethodName)) ∈ TB := tb_in 511 (by decide +kernel) rfl
theorem tw_512 : (Jvm.Cond.code ({ cls := "SumsThatDiffer$Reading", name := "tellPlaces", desc := "(I)Z" } : Jvm.MethodName) prog_7_method_6_code (2 : Nat) (Option.some Jvm.ClassFile.FieldType.boolean)) ∈ TB := tb_in 512 (by decide +kernel) rfl
theorem tw_513 : (Jvm.Cond.methodLink "SumsThatDiffer$Reading" (74 : Nat) ({ cls := "SumsThatDiffer$County", name := "setPlaces", desc := "(I)Z" } : Jvm.MethodName)) ∈ TB := tb_in 513 (by decide +kernel) rfl
theorem tw_514 : (Jvm.Cond.instanceMethod ({ cls := "SumsThatDiffer$County", name := "setPlaces", desc := "(I)Z" } : Jvm.MethodName)) ∈ TB := tb_in 514 (by decide +kernel) rfl
theorem tw_515 : (Jvm.Cond.selects "SumsThatDiffer$County" ({ cls := "SumsThatDiffer$County", name := "setPlaces", desc := "(I)Z" } : Jvm.MethodName) ({ cls := "SumsThatDiffer$County", name := "setPlaces", desc := "(I)Z" } : Jvm.MethodName)) ∈ TB := tb_in 515 (by decide +kernel) rfl
theorem tw_516 : (Jvm.Cond.code ({ cls := "SumsThatDiffer$County", name := "setPlaces", desc := "(I)Z" } : Jvm.MethodName) prog_3_method_4_code (2 : Nat) (Option.some Jvm.ClassFile.FieldType.boolean)) ∈ TB := tb_in 516 (by decide +kernel) rfl
theorem tw_517 : (Jvm.Cond.methodLink "SumsThatDiffer$Reading" (55 : Nat) ({ cls := "SumsThatDiffer$Reading", name := "tellRoad", desc := "()Z" } : Jvm.MethodName)) ∈ TB := tb_in 517 (by decide +kernel) rfl
theorem tw_519 : (Jvm.Cond.instanceMethod ({ cls := "SumsThatDiffer$Reading", name := "tellRoad", desc := "()Z" } : Jvm.MethodName)) ∈ TB := tb_in 519 (by decide +kernel) rfl
theorem tw_520 : (Jvm.Cond.code ({ cls := "SumsThatDiffer$Reading", name := "tellRoad", desc := "()Z" } : Jvm.MethodName) prog_7_method_7_code (1 : Nat) (Option.some Jvm.ClassFile.FieldType.boolean)) ∈ TB := tb_in 520 (by decide +kernel) rfl
theorem tw_521 : (Jvm.Cond.methodLink "SumsThatDiffer$Reading" (77 : Nat) ({ cls := "SumsThatDiffer$County", name := "hasPlace", desc := "(I)Z" } : Jvm.MethodName)) ∈ TB := tb_in 521 (by decide +kernel) rfl
theorem tw_522 : (Jvm.Cond.instanceMethod ({ cls := "SumsThatDiffer$County", name := "hasPlace", desc := "(I)Z" } : Jvm.MethodName)) ∈ TB := tb_in 522 (by decide +kernel) rfl
theorem tw_523 : (Jvm.Cond.selects "SumsThatDiffer$County" ({ cls := "SumsThatDiffer$County", name := "hasPlace", desc := "(I)Z" } : Jvm.MethodName) ({ cls := "SumsThatDiffer$County", name := "hasPlace", desc := "(I)Z" } : Jvm.MethodName)) ∈ TB := tb_in 523 (by decide +kernel) rfl
theorem tw_524 : (Jvm.Cond.code ({ cls := "SumsThatDiffer$County", name := "hasPlace", desc := "(I)Z" } : Jvm.MethodName) prog_3_method_14_code (2 : Nat) (Option.some Jvm.ClassFile.FieldType.boolean)) ∈ TB := tb_in 524 (by decide +kernel) rfl
theorem tw_525 : (Jvm.Cond.methodLink "SumsThatDiffer$Reading" (80 : Nat) ({ cls := "SumsThatDiffer$County", name := "addRoad", desc := "(IIIII)Z" } : Jvm.MethodName)) ∈ TB := tb_in 525 (by decide +kernel) rfl
theorem tw_526 : (Jvm.Cond.instanceMethod ({ cls := "SumsThatDiffer$County", name := "addRoad", desc := "(IIIII)Z" } : Jvm.MethodName)) ∈ TB := tb_in 526 (by decide +kernel) rfl
theorem tw_527 : (Jvm.Cond.selects "SumsThatDiffer$County" ({ cls := "SumsThatDiffer$County", name := "addRoad", desc := "(IIIII)Z" } : Jvm.MethodName) ({ cls := "SumsThatDiffer$County", name := "addRoad", desc := "(IIIII)Z" } : Jvm.MethodName)) ∈ TB := tb_in 527 (by decide +kernel) rfl
theorem tw_528 : (Jvm.Cond.code ({ cls := "SumsThatDiffer$County", name := "addRoad", desc := "(IIIII)Z" } : Jvm.MethodName) prog_3_method_5_code (6 : Nat) (Option.some Jvm.ClassFile.FieldType.boolean)) ∈ TB := tb_in 528 (by decide +kernel) rfl
theorem tw_529 : (Jvm.Cond.methodLink "SumsThatDiffer$Reading" (59 : Nat) ({ cls := "SumsThatDiffer$Reading", name := "tellStart", desc := "(II)Z" } : Jvm.MethodName)) ∈ TB := tb_in 529 (by decide +kernel) rfl
theorem tw_531 : (Jvm.Cond.instanceMethod ({ cls := "SumsThatDiffer$Reading", name := "tellStart", desc := "(II)Z" } : Jvm.MethodName)) ∈ TB := tb_in 531 (by decide +kernel) rfl
theorem tw_532 : (Jvm.Cond.code ({ cls := "SumsThatDiffer$Reading", name := "tellStart", desc := "(II)Z" } : Jvm.MethodName) prog_7_method_8_code (3 : Nat) (Option.some Jvm.ClassFile.FieldType.boolean)) ∈ TB := tb_in 532 (by decide +kernel) rfl
theorem tw_533 : (Jvm.Cond.methodLink "SumsThatDiffer$Reading" (63 : Nat) ({ cls := "SumsThatDiffer$County", name := "addStep", desc := "(I)Z" } : Jvm.MethodName)) ∈ TB := tb_in 533 (by decide +kernel) rfl
theorem tw_534 : (Jvm.Cond.instanceMethod ({ cls := "SumsThatDiffer$County", name := "addStep", desc := "(I)Z" } : Jvm.MethodName)) ∈ TB := tb_in 534 (by decide +kernel) rfl
theorem tw_535 : (Jvm.Cond.selects "SumsThatDiffer$County" ({ cls := "SumsThatDiffer$County", name := "addStep", desc := "(I)Z" } : Jvm.MethodName) ({ cls := "SumsThatDiffer$County", name := "addStep", desc := "(I)Z" } : Jvm.MethodName)) ∈ TB := tb_in 535 (by decide +kernel) rfl
theorem tw_536 : (Jvm.Cond.code ({ cls := "SumsThatDiffer$County", name := "addStep", desc := "(I)Z" } : Jvm.MethodName) prog_3_method_6_code (2 : Nat) (Option.some Jvm.ClassFile.FieldType.boolean)) ∈ TB := tb_in 536 (by decide +kernel) rfl
theorem tw_537 : (Jvm.Cond.methodLink "SumsThatDiffer$County" (69 : Nat) ({ cls := "SumsThatDiffer$County", name := "hasRoad", desc := "(I)Z" } : Jvm.MethodName)) ∈ TB := tb_in 537 (by decide +kernel) rfl
theorem tw_538 : (Jvm.Cond.instanceMethod ({ cls := "SumsThatDiffer$County", name := "hasRoad", desc := "(I)Z" } : Jvm.MethodName)) ∈ TB := tb_in 538 (by decide +kernel) rfl
theorem tw_539 : (Jvm.Cond.selects "SumsThatDiffer$County" ({ cls := "SumsThatDiffer$County", name := "hasRoad", desc := "(I)Z" } : Jvm.MethodName) ({ cls := "SumsThatDiffer$County", name := "hasRoad", desc := "(I)Z" } : Jvm.MethodName)) ∈ TB := tb_in 539 (by decide +kernel) rfl
theorem tw_540 : (Jvm.Cond.code ({ cls := "SumsThatDiffer$County", name := "hasRoad", desc := "(I)Z" } : Jvm.MethodName) prog_3_method_15_code (2 : Nat) (Option.some Jvm.ClassFile.FieldType.boolean)) ∈ TB := tb_in 540 (by decide +kernel) rfl
theorem tw_541 : (Jvm.Cond.methodLink "SumsThatDiffer" (299 : Nat) ({ cls := "SumsThatDiffer$County", name := "copyFrom", desc := "(LSumsThatDiffer$County;)V" } : Jvm.MethodName)) ∈ TB := tb_in 541 (by decide +kernel) rfl
theorem tw_542 : (Jvm.Cond.instanceMethod ({ cls := "SumsThatDiffer$County", name := "copyFrom", desc := "(LSumsThatDiffer$County;)V" } : Jvm.MethodName)) ∈ TB := tb_in 542 (by decide +kernel) rfl
theorem tw_543 : (Jvm.Cond.selects "SumsThatDiffer$County" ({ cls := "SumsThatDiffer$County", name := "copyFrom", desc := "(LSumsThatDiffer$County;)V" } : Jvm.MethodName) ({ cls := "SumsThatDiffer$County", name := "copyFrom", desc := "(LSumsThatDiffer$County;)V" } : Jvm.MethodName)) ∈ TB := tb_in 543 (by decide +kernel) rfl
theorem tw_544 : (Jvm.Cond.code ({ cls := "SumsThatDiffer$County", name := "copyFrom", desc := "(LSumsThatDiffer$County;)V" } : Jvm.MethodName) prog_3_method_3_code (2 : Nat) (Option.none : Option Jvm.ClassFile.FieldType)) ∈ TB := tb_in 544 (by decide +kernel) rfl
theorem tw_545 : (Jvm.Cond.methodLink "SumsThatDiffer$County" (53 : Nat) ({ cls := "java/lang/System", name := "arraycopy", desc := "(Ljava/lang/Object;ILjava/lang/Object;II)V" } : Jvm.MethodName)) ∈ TB := tb_in 545 (by decide +kernel) rfl
theorem tw_546 : (Jvm.Cond.static ({ cls := "java/lang/System", name := "arraycopy", desc := "(Ljava/lang/Object;ILjava/lang/Object;II)V" } : Jvm.MethodName)) ∈ TB := tb_in 546 (by decide +kernel) rfl
theorem tw_547 : (Jvm.Cond.native ({ cls := "java/lang/System", name := "arraycopy", desc := "(Ljava/lang/Object;ILjava/lang/Object;II)V" } : Jvm.MethodName)) ∈ TB := tb_in 547 (by decide +kernel) rfl
theorem tw_548 : (Jvm.Cond.methodLink "SumsThatDiffer$County" (59 : Nat) ({ cls := "SumsThatDiffer$Standing", name := "copyFrom", desc := "(LSumsThatDiffer$Standing;)V" } : Jvm.MethodName)) ∈ TB := tb_in 548 (by decide +kernel) rfl
theorem tw_549 : (Jvm.Cond.instanceMethod ({ cls := "SumsThatDiffer$Standing", name := "copyFrom", desc := "(LSumsThatDiffer$Standing;)V" } : Jvm.MethodName)) ∈ TB := tb_in 549 (by decide +kernel) rfl
theorem tw_550 : (Jvm.Cond.selects "SumsThatDiffer$Standing" ({ cls := "SumsThatDiffer$Standing", name := "copyFrom", desc := "(LSumsThatDiffer$Standing;)V" } : Jvm.MethodName) ({ cls := "SumsThatDiffer$Standing", name := "copyFrom", desc := "(LSumsThatDiffer$Standing;)V" } : Jvm.MethodName)) ∈ TB := tb_in 550 (by decide +kernel) rfl
theorem tw_551 : (Jvm.Cond.code ({ cls := "SumsThatDiffer$Standing", name := "copyFrom", desc := "(LSumsThatDiffer$Standing;)V" } : Jvm.MethodName) prog_9_method_4_code (2 : Nat) (Option.none : Option Jvm.ClassFile.FieldType)) ∈ TB := tb_in 551 (by decide +kernel) rfl
theorem tw_552 : (Jvm.Cond.methodLink "SumsThatDiffer$Standing" (31 : Nat) ({ cls := "java/lang/System", name := "arraycopy", desc := "(Ljava/lang/Object;ILjava/lang/Object;II)V" } : Jvm.MethodName)) ∈ TB := tb_in 552 (by decide +kernel) rfl
theorem tw_553 : (Jvm.Cond.methodLink "SumsThatDiffer" (257 : Nat) ({ cls := "SumsThatDiffer$Told", name := "clear", desc := "()V" } : Jvm.MethodName)) ∈ TB := tb_in 553 (by decide +kernel) rfl
theorem tw_554 : (Jvm.Cond.instanceMethod ({ cls := "SumsThatDiffer$Told", name := "clear", desc := "()V" } : Jvm.MethodName)) ∈ TB := tb_in 554 (by decide +kernel) rfl
theorem tw_555 : (Jvm.Cond.selects "SumsThatDiffer$Told" ({ cls := "SumsThatDiffer$Told", name := "clear", desc := "()V" } : Jvm.MethodName) ({ cls := "SumsThatDiffer$Told", name := "clear", desc := "()V" } : Jvm.MethodName)) ∈ TB := tb_in 555 (by decide +kernel) rfl
theorem tw_556 : (Jvm.Cond.code ({ cls := "SumsThatDiffer$Told", name := "clear", desc := "()V" } : Jvm.MethodName) prog_10_method_3_code (1 : Nat) (Option.none : Option Jvm.ClassFile.FieldType)) ∈ TB := tb_in 556 (by decide +kernel) rfl
theorem tw_557 : (Jvm.Cond.methodLink "SumsThatDiffer" (294 : Nat) ({ cls := "SumsThatDiffer$Pile", name := "clear", desc := "()V" } : Jvm.MethodName)) ∈ TB := tb_in 557 (by decide +kernel) rfl
theorem tw_558 : (Jvm.Cond.instanceMethod ({ cls := "SumsThatDiffer$Pile", name := "clear", desc := "()V" } : Jvm.MethodName)) ∈ TB := tb_in 558 (by decide +kernel) rfl
theorem tw_559 : (Jvm.Cond.selects "SumsThatDiffer$Pile" ({ cls := "SumsThatDiffer$Pile", name := "clear", desc := "()V" } : Jvm.MethodName) ({ cls := "SumsThatDiffer$Pile", name := "clear", desc := "()V" } : Jvm.MethodName)) ∈ TB := tb_in 559 (by decide +kernel) rfl
theorem tw_560 : (Jvm.Cond.code ({ cls := "SumsThatDiffer$Pile", name := "clear", desc := "()V" } : Jvm.MethodName) prog_6_method_4_code (1 : Nat) (Option.none : Option Jvm.ClassFile.FieldType)) ∈ TB := tb_in 560 (by decide +kernel) rfl
theorem tw_561 : (Jvm.Cond.methodLink "SumsThatDiffer" (106 : Nat) ({ cls := "SumsThatDiffer$Letters", name := "clear", desc := "()V" } : Jvm.MethodName)) ∈ TB := tb_in 561 (by decide +kernel) rfl
theorem tw_562 : (Jvm.Cond.instanceMethod ({ cls := "SumsThatDiffer$Letters", name := "clear", desc := "()V" } : Jvm.MethodName)) ∈ TB := tb_in 562 (by decide +kernel) rfl
theorem tw_563 : (Jvm.Cond.selects "SumsThatDiffer$Letters" ({ cls := "SumsThatDiffer$Letters", name := "clear", desc := "()V" } : Jvm.MethodName) ({ cls := "SumsThatDiffer$Letters", name := "clear", desc := "()V" } : Jvm.MethodName)) ∈ TB := tb_in 563 (by decide +kernel) rfl
theorem tw_564 : (Jvm.Cond.code ({ cls := "SumsThatDiffer$Letters", name := "clear", desc := "()V" } : Jvm.MethodName) prog_5_method_3_code (1 : Nat) (Option.none : Option Jvm.ClassFile.FieldType)) ∈ TB := tb_in 564 (by decide +kernel) rfl
theorem tw_565 : (Jvm.Cond.fieldLink "SumsThatDiffer" (10 : Nat) "SumsThatDiffer" "letters" "LSumsThatDiffer$Letters;") ∈ TB := tb_in 565 (by decide +kernel) rfl
theorem tw_566 : (Jvm.Cond.fieldLink "SumsThatDiffer" (19 : Nat) "SumsThatDiffer" "reading" "LSumsThatDiffer$Reading;") ∈ TB := tb_in 566 (by decide +kernel) rfl
theorem tw_567 : (Jvm.Cond.fieldLink "SumsThatDiffer" (26 : Nat) "SumsThatDiffer" "county" "LSumsThatDiffer$County;") ∈ TB := tb_in 567 (by decide +kernel) rfl
theorem tw_568 : (Jvm.Cond.fieldLink "SumsThatDiffer" (35 : Nat) "SumsThatDiffer" "undoable" "LSumsThatDiffer$Pile;") ∈ TB := tb_in 568 (by decide +kernel) rfl
theorem tw_569 : (Jvm.Cond.fieldLink "SumsThatDiffer" (39 : Nat) "SumsThatDiffer" "kept" "LSumsThatDiffer$Pile;") ∈ TB := tb_in 569 (by decide +kernel) rfl
theorem tw_570 : (Jvm.Cond.fieldLink "SumsThatDiffer" (47 : Nat) "SumsThatDiffer" "walker" "LSumsThatDiffer$Walker;") ∈ TB := tb_in 570 (by decide +kernel) rfl
theorem tw_571 : (Jvm.Cond.fieldLink "SumsThatDiffer" (54 : Nat) "SumsThatDiffer" "climb" "LSumsThatDiffer$Climb;") ∈ TB := tb_in 571 (by decide +kernel) rfl
theorem tw_572 : (Jvm.Cond.fieldLink "SumsThatDiffer" (61 : Nat) "SumsThatDiffer" "heights" "LSumsThatDiffer$Heights;") ∈ TB := tb_in 572 (by decide +kernel) rfl
theorem tw_573 : (Jvm.Cond.fieldLink "SumsThatDiffer" (68 : Nat) "SumsThatDiffer" "rings" "LSumsThatDiffer$Rings;") ∈ TB := tb_in 573 (by decide +kernel) rfl
theorem tw_574 : (Jvm.Cond.fieldLink "SumsThatDiffer" (75 : Nat) "SumsThatDiffer" "told" "LSumsThatDiffer$Told;") ∈ TB := tb_in 574 (by decide +kernel) rfl
theorem tw_575 : (Jvm.Cond.fieldLink "SumsThatDiffer" (82 : Nat) "SumsThatDiffer" "sky" "LSumsThatDiffer$Weather;") ∈ TB := tb_in 575 (by decide +kernel) rfl
theorem tw_576 : (Jvm.Cond.laysFinal "SumsThatDiffer" "SumsThatDiffer" "letters" "LSumsThatDiffer$Letters;") ∈ TB := tb_in 576 (by decide +kernel) rfl
theorem tw_578 : (Jvm.Cond.laysFinal "SumsThatDiffer" "SumsThatDiffer" "reading" "LSumsThatDiffer$Reading;") ∈ TB := tb_in 578 (by decide +kernel) rfl
theorem tw_580 : (Jvm.Cond.laysFinal "SumsThatDiffer" "SumsThatDiffer" "county" "LSumsThatDiffer$County;") ∈ TB := tb_in 580 (by decide +kernel) rfl
theorem tw_582 : (Jvm.Cond.laysFinal "SumsThatDiffer" "SumsThatDiffer" "undoable" "LSumsThatDiffer$Pile;") ∈ TB := tb_in 582 (by decide +kernel) rfl
theorem tw_584 : (Jvm.Cond.laysFinal "SumsThatDiffer" "SumsThatDiffer" "kept" "LSumsThatDiffer$Pile;") ∈ TB := tb_in 584 (by decide +kernel) rfl
theorem tw_586 : (Jvm.Cond.laysFinal "SumsThatDiffer" "SumsThatDiffer" "walker" "LSumsThatDiffer$Walker;") ∈ TB := tb_in 586 (by decide +kernel) rfl
theorem tw_588 : (Jvm.Cond.laysFinal "SumsThatDiffer" "SumsThatDiffer" "climb" "LSumsThatDiffer$Climb;") ∈ TB := tb_in 588 (by decide +kernel) rfl
theorem tw_590 : (Jvm.Cond.laysFinal "SumsThatDiffer" "SumsThatDiffer" "heights" "LSumsThatDiffer$Heights;") ∈ TB := tb_in 590 (by decide +kernel) rfl
theorem tw_592 : (Jvm.Cond.laysFinal "SumsThatDiffer" "SumsThatDiffer" "rings" "LSumsThatDiffer$Rings;") ∈ TB := tb_in 592 (by decide +kernel) rfl
theorem tw_594 : (Jvm.Cond.laysFinal "SumsThatDiffer" "SumsThatDiffer" "told" "LSumsThatDiffer$Told;") ∈ TB := tb_in 594 (by decide +kernel) rfl
theorem tw_596 : (Jvm.Cond.laysFinal "SumsThatDiffer" "SumsThatDiffer" "sky" "LSumsThatDiffer$Weather;") ∈ TB := tb_in 596 (by decide +kernel) rfl
theorem tw_616 : (Jvm.Cond.methodLink "SumsThatDiffer" (114 : Nat) ({ cls := "SumsThatDiffer$County", name := "roads", desc := "()I" } : Jvm.MethodName)) ∈ TB := tb_in 616 (by decide +kernel) rfl
theorem tw_617 : (Jvm.Cond.instanceMethod ({ cls := "SumsThatDiffer$County", name := "roads", desc := "()I" } : Jvm.MethodName)) ∈ TB := tb_in 617 (by decide +kernel) rfl
theorem tw_618 : (Jvm.Cond.selects "SumsThatDiffer$County" ({ cls := "SumsThatDiffer$County", name := "roads", desc := "()I" } : Jvm.MethodName) ({ cls := "SumsThatDiffer$County", name := "roads", desc := "()I" } : Jvm.MethodName)) ∈ TB := tb_in 618 (by decide +kernel) rfl
theorem tw_619 : (Jvm.Cond.code ({ cls := "SumsThatDiffer$County", name := "roads", desc := "()I" } : Jvm.MethodName) prog_3_method_8_code (1 : Nat) (Option.some Jvm.ClassFile.FieldType.int)) ∈ TB := tb_in 619 (by decide +kernel) rfl
theorem tw_624 : (Jvm.Cond.methodLink "SumsThatDiffer" (117 : Nat) ({ cls := "SumsThatDiffer$County", name := "hasRoad", desc := "(I)Z" } : Jvm.MethodName)) ∈ TB := tb_in 624 (by decide +kernel) rfl
theorem tw_625 : (Jvm.Cond.methodLink "SumsThatDiffer" (121 : Nat) ({ cls := "SumsThatDiffer$County", name := "kindOf", desc := "(I)I" } : Jvm.MethodName)) ∈ TB := tb_in 625 (by decide +kernel) rfl
theorem tw_626 : (Jvm.Cond.instanceMethod ({ cls := "SumsThatDiffer$County", name := "kindOf", desc := "(I)I" } : Jvm.MethodName)) ∈ TB := tb_in 626 (by decide +kernel) rfl
theorem tw_627 : (Jvm.Cond.selects "SumsThatDiffer$County" ({ cls := "SumsThatDiffer$County", name := "kindOf", desc := "(I)I" } : Jvm.MethodName) ({ cls := "SumsThatDiffer$County", name := "kindOf", desc := "(I)I" } : Jvm.MethodName)) ∈ TB := tb_in 627 (by decide +kernel) rfl
theorem tw_628 : (Jvm.Cond.code ({ cls := "SumsThatDiffer$County", name := "kindOf", desc := "(I)I" } : Jvm.MethodName) prog_3_method_11_code (2 : Nat) (Option.some Jvm.ClassFile.FieldType.int)) ∈ TB := tb_in 628 (by decide +kernel) rfl
theorem tw_629 : (Jvm.Cond.methodLink "SumsThatDiffer" (125 : Nat) ({ cls := "SumsThatDiffer$County", name := "startOf", desc := "(I)I" } : Jvm.MethodName)) ∈ TB := tb_in 629 (by decide +kernel) rfl
theorem tw_630 : (Jvm.Cond.instanceMethod ({ cls := "SumsThatDiffer$County", name := "startOf", desc := "(I)I" } : Jvm.MethodName)) ∈ TB := tb_in 630 (by decide +kernel) rfl
theorem tw_631 : (Jvm.Cond.selects "SumsThatDiffer$County" ({ cls := "SumsThatDiffer$County", name := "startOf", desc := "(I)I" } : Jvm.MethodName) ({ cls := "SumsThatDiffer$County", name := "startOf", desc := "(I)I" } : Jvm.MethodName)) ∈ TB := tb_in 631 (by decide +kernel) rfl
theorem tw_632 : (Jvm.Cond.code ({ cls := "SumsThatDiffer$County", name := "startOf", desc := "(I)I" } : Jvm.MethodName) prog_3_method_12_code (2 : Nat) (Option.some Jvm.ClassFile.FieldType.int)) ∈ TB := tb_in 632 (by decide +kernel) rfl
theorem tw_633 : (Jvm.Cond.methodLink "SumsThatDiffer" (128 : Nat) ({ cls := "SumsThatDiffer$County", name := "endOf", desc := "(I)I" } : Jvm.MethodName)) ∈ TB := tb_in 633 (by decide +kernel) rfl
theorem tw_634 : (Jvm.Cond.instanceMethod ({ cls := "SumsThatDiffer$County", name := "endOf", desc := "(I)I" } : Jvm.MethodName)) ∈ TB := tb_in 634 (by decide +kernel) rfl
theorem tw_635 : (Jvm.Cond.selects "SumsThatDiffer$County" ({ cls := "SumsThatDiffer$County", name := "endOf", desc := "(I)I" } : Jvm.MethodName) ({ cls := "SumsThatDiffer$County", name := "endOf", desc := "(I)I" } : Jvm.MethodName)) ∈ TB := tb_in 635 (by decide +kernel) rfl
theorem tw_636 : (Jvm.Cond.code ({ cls := "SumsThatDiffer$County", name := "endOf", desc := "(I)I" } : Jvm.MethodName) prog_3_method_13_code (2 : Nat) (Option.some Jvm.ClassFile.FieldType.int)) ∈ TB := tb_in 636 (by decide +kernel) rfl
theorem tw_637 : (Jvm.Cond.methodLink "SumsThatDiffer" (144 : Nat) ({ cls := "SumsThatDiffer$Standing", name := "isShut", desc := "(I)Z" } : Jvm.MethodName)) ∈ TB := tb_in 637 (by decide +kernel) rfl
theorem tw_638 : (Jvm.Cond.instanceMethod ({ cls := "SumsThatDiffer$Standing", name := "isShut", desc := "(I)Z" } : Jvm.MethodName)) ∈ TB := tb_in 638 (by decide +kernel) rfl
theorem tw_639 : (Jvm.Cond.selects "SumsThatDiffer$Standing" ({ cls := "SumsThatDiffer$Standing", name := "isShut", desc := "(I)Z" } : Jvm.MethodName) ({ cls := "SumsThatDiffer$Standing", name := "isShut", desc := "(I)Z" } : Jvm.MethodName)) ∈ TB := tb_in 639 (by decide +kernel) rfl
theorem tw_640 : (Jvm.Cond.code ({ cls := "SumsThatDiffer$Standing", name := "isShut", desc := "(I)Z" } : Jvm.MethodName) prog_9_method_2_code (2 : Nat) (Option.some Jvm.ClassFile.FieldType.boolean)) ∈ TB := tb_in 640 (by decide +kernel) rfl
theorem tw_649 : (Jvm.Cond.methodLink "SumsThatDiffer" (154 : Nat) ({ cls := "SumsThatDiffer$Walker", name := "startNow", desc := "()V" } : Jvm.MethodName)) ∈ TB := tb_in 649 (by decide +kernel) rfl
theorem tw_650 : (Jvm.Cond.instanceMethod ({ cls := "SumsThatDiffer$Walker", name := "startNow", desc := "()V" } : Jvm.MethodName)) ∈ TB := tb_in 650 (by decide +kernel) rfl
theorem tw_651 : (Jvm.Cond.selects "SumsThatDiffer$Walker" ({ cls := "SumsThatDiffer$Walker", name := "startNow", desc := "()V" } : Jvm.MethodName) ({ cls := "SumsThatDiffer$Walker", name := "startNow", desc := "()V" } : Jvm.MethodName)) ∈ TB := tb_in 651 (by decide +kernel) rfl
theorem tw_652 : (Jvm.Cond.code ({ cls := "SumsThatDiffer$Walker", name := "startNow", desc := "()V" } : Jvm.MethodName) prog_11_method_2_code (1 : Nat) (Option.none : Option Jvm.ClassFile.FieldType)) ∈ TB := tb_in 652 (by decide +kernel) rfl
theorem tw_653 : (Jvm.Cond.methodLink "SumsThatDiffer" (157 : Nat) ({ cls := "SumsThatDiffer$Walker", name := "goBy", desc := "(I)Z" } : Jvm.MethodName)) ∈ TB := tb_in 653 (by decide +kernel) rfl
theorem tw_654 : (Jvm.Cond.instanceMethod ({ cls := "SumsThatDiffer$Walker", name := "goBy", desc := "(I)Z" } : Jvm.MethodName)) ∈ TB := tb_in 654 (by decide +kernel) rfl
theorem tw_655 : (Jvm.Cond.selects "SumsThatDiffer$Walker" ({ cls := "SumsThatDiffer$Walker", name := "goBy", desc := "(I)Z" } : Jvm.MethodName) ({ cls := "SumsThatDiffer$Walker", name := "goBy", desc := "(I)Z" } : Jvm.MethodName)) ∈ TB := tb_in 655 (by decide +kernel) rfl
theorem tw_656 : (Jvm.Cond.code ({ cls := "SumsThatDiffer$Walker", name := "goBy", desc := "(I)Z" } : Jvm.MethodName) prog_11_method_3_code (2 : Nat) (Option.some Jvm.ClassFile.FieldType.boolean)) ∈ TB := tb_in 656 (by decide +kernel) rfl
theorem tw_657 : (Jvm.Cond.methodLink "SumsThatDiffer$Walker" (36 : Nat) ({ cls := "SumsThatDiffer$County", name := "canBeCrossed", desc := "(II)Z" } : Jvm.MethodName)) ∈ TB := tb_in 657 (by decide +kernel) rfl
theorem tw_658 : (Jvm.Cond.instanceMethod ({ cls := "SumsThatDiffer$County", name := "canBeCrossed", desc := "(II)Z" } : Jvm.MethodName)) ∈ TB := tb_in 658 (by decide +kernel) rfl
theorem tw_659 : (Jvm.Cond.selects "SumsThatDiffer$County" ({ cls := "SumsThatDiffer$County", name := "canBeCrossed", desc := "(II)Z" } : Jvm.MethodName) ({ cls := "SumsThatDiffer$County", name := "canBeCrossed", desc := "(II)Z" } : Jvm.MethodName)) ∈ TB := tb_in 659 (by decide +kernel) rfl
theorem tw_660 : (Jvm.Cond.code ({ cls := "SumsThatDiffer$County", name := "canBeCrossed", desc := "(II)Z" } : Jvm.MethodName) prog_3_method_17_code (3 : Nat) (Option.some Jvm.ClassFile.FieldType.boolean)) ∈ TB := tb_in 660 (by decide +kernel) rfl
theorem tw_661 : (Jvm.Cond.methodLink "SumsThatDiffer$County" (73 : Nat) ({ cls := "SumsThatDiffer$County", name := "leadsOn", desc := "(II)Z" } : Jvm.MethodName)) ∈ TB := tb_in 661 (by decide +kernel) rfl
theorem tw_662 : (Jvm.Cond.instanceMethod ({ cls := "SumsThatDiffer$County", name := "leadsOn", desc := "(II)Z" } : Jvm.MethodName)) ∈ TB := tb_in 662 (by decide +kernel) rfl
theorem tw_663 : (Jvm.Cond.selects "SumsThatDiffer$County" ({ cls := "SumsThatDiffer$County", name := "leadsOn", desc := "(II)Z" } : Jvm.MethodName) ({ cls := "SumsThatDiffer$County", name := "leadsOn", desc := "(II)Z" } : Jvm.MethodName)) ∈ TB := tb_in 663 (by decide +kernel) rfl
theorem tw_664 : (Jvm.Cond.code ({ cls := "SumsThatDiffer$County", name := "leadsOn", desc := "(II)Z" } : Jvm.MethodName) prog_3_method_16_code (3 : Nat) (Option.some Jvm.ClassFile.FieldType.boolean)) ∈ TB := tb_in 664 (by decide +kernel) rfl
theorem tw_665 : (Jvm.Cond.methodLink "SumsThatDiffer$County" (77 : Nat) ({ cls := "SumsThatDiffer$Standing", name := "isShut", desc := "(I)Z" } : Jvm.MethodName)) ∈ TB := tb_in 665 (by decide +kernel) rfl
theorem tw_666 : (Jvm.Cond.methodLink "SumsThatDiffer$Walker" (40 : Nat) ({ cls := "SumsThatDiffer$County", name := "changeFrom", desc := "(II)I" } : Jvm.MethodName)) ∈ TB := tb_in 666 (by decide +kernel) rfl
theorem tw_667 : (Jvm.Cond.instanceMethod ({ cls := "SumsThatDiffer$County", name := "changeFrom", desc := "(II)I" } : Jvm.MethodName)) ∈ TB := tb_in 667 (by decide +kernel) rfl
theorem tw_668 : (Jvm.Cond.selects "SumsThatDiffer$County" ({ cls := "SumsThatDiffer$County", name := "changeFrom", desc := "(II)I" } : Jvm.MethodName) ({ cls := "SumsThatDiffer$County", name := "changeFrom", desc := "(II)I" } : Jvm.MethodName)) ∈ TB := tb_in 668 (by decide +kernel) rfl
theorem tw_669 : (Jvm.Cond.code ({ cls := "SumsThatDiffer$County", name := "changeFrom", desc := "(II)I" } : Jvm.MethodName) prog_3_method_20_code (4 : Nat) (Option.some Jvm.ClassFile.FieldType.int)) ∈ TB := tb_in 669 (by decide +kernel) rfl
theorem tw_670 : (Jvm.Cond.methodLink "SumsThatDiffer$County" (80 : Nat) ({ cls := "SumsThatDiffer$County", name := "figureFrom", desc := "(II)I" } : Jvm.MethodName)) ∈ TB := tb_in 670 (by decide +kernel) rfl
theorem tw_671 : (Jvm.Cond.instanceMethod ({ cls := "SumsThatDiffer$County", name := "figureFrom", desc := "(II)I" } : Jvm.MethodName)) ∈ TB := tb_in 671 (by decide +kernel) rfl
theorem tw_672 : (Jvm.Cond.selects "SumsThatDiffer$County" ({ cls := "SumsThatDiffer$County", name := "figureFrom", desc := "(II)I" } : Jvm.MethodName) ({ cls := "SumsThatDiffer$County", name := "figureFrom", desc := "(II)I" } : Jvm.MethodName)) ∈ TB := tb_in 672 (by decide +kernel) rfl
theorem tw_673 : (Jvm.Cond.code ({ cls := "SumsThatDiffer$County", name := "figureFrom", desc := "(II)I" } : Jvm.MethodName) prog_3_method_19_code (3 : Nat) (Option.some Jvm.ClassFile.FieldType.int)) ∈ TB := tb_in 673 (by decide +kernel) rfl
theorem tw_674 : (Jvm.Cond.methodLink "SumsThatDiffer$Walker" (44 : Nat) ({ cls := "SumsThatDiffer$County", name := "sumBehind", desc := "(III)I" } : Jvm.MethodName)) ∈ TB := tb_in 674 (by decide +kernel) rfl
theorem tw_675 : (Jvm.Cond.instanceMethod ({ cls := "SumsThatDiffer$County", name := "sumBehind", desc := "(III)I" } : Jvm.MethodName)) ∈ TB := tb_in 675 (by decide +kernel) rfl
theorem tw_676 : (Jvm.Cond.selects "SumsThatDiffer$County" ({ cls := "SumsThatDiffer$County", name := "sumBehind", desc := "(III)I" } : Jvm.MethodName) ({ cls := "SumsThatDiffer$County", name := "sumBehind", desc := "(III)I" } : Jvm.MethodName)) ∈ TB := tb_in 676 (by decide +kernel) rfl
theorem tw_677 : (Jvm.Cond.code ({ cls := "SumsThatDiffer$County", name := "sumBehind", desc := "(III)I" } : Jvm.MethodName) prog_3_method_21_code (4 : Nat) (Option.some Jvm.ClassFile.FieldType.int)) ∈ TB := tb_in 677 (by decide +kernel) rfl
theorem tw_678 : (Jvm.Cond.methodLink "SumsThatDiffer$County" (84 : Nat) ({ cls := "SumsThatDiffer$County", name := "sumBy", desc := "(III)I" } : Jvm.MethodName)) ∈ TB := tb_in 678 (by decide +kernel) rfl
theorem tw_679 : (Jvm.Cond.instanceMethod ({ cls := "SumsThatDiffer$County", name := "sumBy", desc := "(III)I" } : Jvm.MethodName)) ∈ TB := tb_in 679 (by decide +kernel) rfl
theorem tw_680 : (Jvm.Cond.selects "SumsThatDiffer$County" ({ cls := "SumsThatDiffer$County", name := "sumBy", desc := "(III)I" } : Jvm.MethodName) ({ cls := "SumsThatDiffer$County", name := "sumBy", desc := "(III)I" } : Jvm.MethodName)) ∈ TB := tb_in 680 (by decide +kernel) rfl
theorem tw_681 : (Jvm.Cond.code ({ cls := "SumsThatDiffer$County", name := "sumBy", desc := "(III)I" } : Jvm.MethodName) prog_3_method_22_code (6 : Nat) (Option.some Jvm.ClassFile.FieldType.int)) ∈ TB := tb_in 681 (by decide +kernel) rfl
theorem tw_682 : (Jvm.Cond.methodLink "SumsThatDiffer$Walker" (48 : Nat) ({ cls := "SumsThatDiffer$County", name := "otherEnd", desc := "(II)I" } : Jvm.MethodName)) ∈ TB := tb_in 682 (by decide +kernel) rfl
theorem tw_683 : (Jvm.Cond.instanceMethod ({ cls := "SumsThatDiffer$County", name := "otherEnd", desc := "(II)I" } : Jvm.MethodName)) ∈ TB := tb_in 683 (by decide +kernel) rfl
theorem tw_684 : (Jvm.Cond.selects "SumsThatDiffer$County" ({ cls := "SumsThatDiffer$County", name := "otherEnd", desc := "(II)I" } : Jvm.MethodName) ({ cls := "SumsThatDiffer$County", name := "otherEnd", desc := "(II)I" } : Jvm.MethodName)) ∈ TB := tb_in 684 (by decide +kernel) rfl
theorem tw_685 : (Jvm.Cond.code ({ cls := "SumsThatDiffer$County", name := "otherEnd", desc := "(II)I" } : Jvm.MethodName) prog_3_method_18_code (3 : Nat) (Option.some Jvm.ClassFile.FieldType.int)) ∈ TB := tb_in 685 (by decide +kernel) rfl
theorem tw_686 : (Jvm.Cond.methodLink "SumsThatDiffer" (160 : Nat) ({ cls := "SumsThatDiffer$Pile", name := "push", desc := "(LSumsThatDiffer$Standing;)V" } : Jvm.MethodName)) ∈ TB := tb_in 686 (by decide +kernel) rfl
theorem tw_687 : (Jvm.Cond.instanceMethod ({ cls := "SumsThatDiffer$Pile", name := "push", desc := "(LSumsThatDiffer$Standing;)V" } : Jvm.MethodName)) ∈ TB := tb_in 687 (by decide +kernel) rfl
theorem tw_688 : (Jvm.Cond.selects "SumsThatDiffer$Pile" ({ cls := "SumsThatDiffer$Pile", name := "push", desc := "(LSumsThatDiffer$Standing;)V" } : Jvm.MethodName) ({ cls := "SumsThatDiffer$Pile", name := "push", desc := "(LSumsThatDiffer$Standing;)V" } : Jvm.MethodName)) ∈ TB := tb_in 688 (by decide +kernel) rfl
theorem tw_689 : (Jvm.Cond.code ({ cls := "SumsThatDiffer$Pile", name := "push", desc := "(LSumsThatDiffer$Standing;)V" } : Jvm.MethodName) prog_6_method_5_code (2 : Nat) (Option.none : Option Jvm.ClassFile.FieldType)) ∈ TB := tb_in 689 (by decide +kernel) rfl
theorem tw_690 : (Jvm.Cond.methodLink "SumsThatDiffer$Pile" (20 : Nat) ({ cls := "SumsThatDiffer$Pile", name := "isFull", desc := "()Z" } : Jvm.MethodName)) ∈ TB := tb_in 690 (by decide +kernel) rfl
theorem tw_691 : (Jvm.Cond.instanceMethod ({ cls := "SumsThatDiffer$Pile", name := "isFull", desc := "()Z" } : Jvm.MethodName)) ∈ TB := tb_in 691 (by decide +kernel) rfl
theorem tw_692 : (Jvm.Cond.selects "SumsThatDiffer$Pile" ({ cls := "SumsThatDiffer$Pile", name := "isFull", desc := "()Z" } : Jvm.MethodName) ({ cls := "SumsThatDiffer$Pile", name := "isFull", desc := "()Z" } : Jvm.MethodName)) ∈ TB := tb_in 692 (by decide +kernel) rfl
theorem tw_693 : (Jvm.Cond.code ({ cls := "SumsThatDiffer$Pile", name := "isFull", desc := "()Z" } : Jvm.MethodName) prog_6_method_3_code (1 : Nat) (Option.some Jvm.ClassFile.FieldType.boolean)) ∈ TB := tb_in 693 (by decide +kernel) rfl
theorem tw_694 : (Jvm.Cond.methodLink "SumsThatDiffer$Pile" (24 : Nat) ({ cls := "SumsThatDiffer$Pile", name := "dropOldest", desc := "()V" } : Jvm.MethodName)) ∈ TB := tb_in 694 (by decide +kernel) rfl
theorem tw_696 : (Jvm.Cond.instanceMethod ({ cls := "SumsThatDiffer$Pile", name := "dropOldest", desc := "()V" } : Jvm.MethodName)) ∈ TB := tb_in 696 (by decide +kernel) rfl
theorem tw_697 : (Jvm.Cond.code ({ cls := "SumsThatDiffer$Pile", name := "dropOldest", desc := "()V" } : Jvm.MethodName) prog_6_method_7_code (3 : Nat) (Option.none : Option Jvm.ClassFile.FieldType)) ∈ TB := tb_in 697 (by decide +kernel) rfl
theorem tw_698 : (Jvm.Cond.methodLink "SumsThatDiffer$Pile" (27 : Nat) ({ cls := "SumsThatDiffer$Standing", name := "copyFrom", desc := "(LSumsThatDiffer$Standing;)V" } : Jvm.MethodName)) ∈ TB := tb_in 698 (by decide +kernel) rfl
theorem tw_703 : (Jvm.Cond.methodLink "SumsThatDiffer" (169 : Nat) ({ cls := "SumsThatDiffer", name := "isFigure", desc := "(I)Z" } : Jvm.MethodName)) ∈ TB := tb_in 703 (by decide +kernel) rfl
theorem tw_704 : (Jvm.Cond.static ({ cls := "SumsThatDiffer", name := "isFigure", desc := "(I)Z" } : Jvm.MethodName)) ∈ TB := tb_in 704 (by decide +kernel) rfl
theorem tw_705 : (Jvm.Cond.code ({ cls := "SumsThatDiffer", name := "isFigure", desc := "(I)Z" } : Jvm.MethodName) prog_1_method_32_code (1 : Nat) (Option.some Jvm.ClassFile.FieldType.boolean)) ∈ TB := tb_in 705 (by decide +kernel) rfl
theorem tw_710 : (Jvm.Cond.methodLink "SumsThatDiffer" (172 : Nat) ({ cls := "SumsThatDiffer$Standing", name := "turn", desc := "(I)V" } : Jvm.MethodName)) ∈ TB := tb_in 710 (by decide +kernel) rfl
theorem tw_711 : (Jvm.Cond.instanceMethod ({ cls := "SumsThatDiffer$Standing", name := "turn", desc := "(I)V" } : Jvm.MethodName)) ∈ TB := tb_in 711 (by decide +kernel) rfl
theorem tw_712 : (Jvm.Cond.selects "SumsThatDiffer$Standing" ({ cls := "SumsThatDiffer$Standing", name := "turn", desc := "(I)V" } : Jvm.MethodName) ({ cls := "SumsThatDiffer$Standing", name := "turn", desc := "(I)V" } : Jvm.MethodName)) ∈ TB := tb_in 712 (by decide +kernel) rfl
theorem tw_713 : (Jvm.Cond.code ({ cls := "SumsThatDiffer$Standing", name := "turn", desc := "(I)V" } : Jvm.MethodName) prog_9_method_3_code (2 : Nat) (Option.none : Option Jvm.ClassFile.FieldType)) ∈ TB := tb_in 713 (by decide +kernel) rfl
theorem tw_714 : (Jvm.Cond.methodLink "SumsThatDiffer" (178 : Nat) ({ cls := "java/lang/Integer", name := "bitCount", desc := "(I)I" } : Jvm.MethodName)) ∈ TB := tb_in 714 (by decide +kernel) rfl
theorem tw_715 : (Jvm.Cond.static ({ cls := "java/lang/Integer", name := "bitCount", desc := "(I)I" } : Jvm.MethodName)) ∈ TB := tb_in 715 (by decide +kernel) rfl
theorem tw_716 : (Jvm.Cond.code ({ cls := "java/lang/Integer", name := "bitCount", desc := "(I)I" } : Jvm.MethodName) prog_15_method_49_code (1 : Nat) (Option.some Jvm.ClassFile.FieldType.int)) ∈ TB := tb_in 716 (by decide +kernel) rfl
theorem tw_717 : (Jvm.Cond.constant "java/lang/Integer" (265 : Nat) (1431655765 : Int32)) ∈ TB := tb_in 717 (by decide +kernel) rfl
theorem tw_718 : (Jvm.Cond.constant "java/lang/Integer" (266 : Nat) (858993459 : Int32)) ∈ TB := tb_in 718 (by decide +kernel) rfl
theorem tw_719 : (Jvm.Cond.constant "java/lang/Integer" (267 : Nat) (252645135 : Int32)) ∈ TB := tb_in 719 (by decide +kernel) rfl
theorem tw_724 : (Jvm.Cond.methodLink "SumsThatDiffer" (183 : Nat) ({ cls := "SumsThatDiffer$Pile", name := "popInto", desc := "(LSumsThatDiffer$Standing;)Z" } : Jvm.MethodName)) ∈ TB := tb_in 724 (by decide +kernel) rfl
theorem tw_725 : (Jvm.Cond.instanceMethod ({ cls := "SumsThatDiffer$Pile", name := "popInto", desc := "(LSumsThatDiffer$Standing;)Z" } : Jvm.MethodName)) ∈ TB := tb_in 725 (by decide +kernel) rfl
theorem tw_726 : (Jvm.Cond.selects "SumsThatDiffer$Pile" ({ cls := "SumsThatDiffer$Pile", name := "popInto", desc := "(LSumsThatDiffer$Standing;)Z" } : Jvm.MethodName) ({ cls := "SumsThatDiffer$Pile", name := "popInto", desc := "(LSumsThatDiffer$Standing;)Z" } : Jvm.MethodName)) ∈ TB := tb_in 726 (by decide +kernel) rfl
theorem tw_727 : (Jvm.Cond.code ({ cls := "SumsThatDiffer$Pile", name := "popInto", desc := "(LSumsThatDiffer$Standing;)Z" } : Jvm.MethodName) prog_6_method_6_code (2 : Nat) (Option.some Jvm.ClassFile.FieldType.boolean)) ∈ TB := tb_in 727 (by decide +kernel) rfl
theorem tw_728 : (Jvm.Cond.methodLink "SumsThatDiffer" (187 : Nat) ({ cls := "SumsThatDiffer$Pile", name := "size", desc := "()I" } : Jvm.MethodName)) ∈ TB := tb_in 728 (by decide +kernel) rfl
theorem tw_729 : (Jvm.Cond.instanceMethod ({ cls := "SumsThatDiffer$Pile", name := "size", desc := "()I" } : Jvm.MethodName)) ∈ TB := tb_in 729 (by decide +kernel) rfl
theorem tw_730 : (Jvm.Cond.selects "SumsThatDiffer$Pile" ({ cls := "SumsThatDiffer$Pile", name := "size", desc := "()I" } : Jvm.MethodName) ({ cls := "SumsThatDiffer$Pile", name := "size", desc := "()I" } : Jvm.MethodName)) ∈ TB := tb_in 730 (by decide +kernel) rfl
theorem tw_731 : (Jvm.Cond.code ({ cls := "SumsThatDiffer$Pile", name := "size", desc := "()I" } : Jvm.MethodName) prog_6_method_2_code (1 : Nat) (Option.some Jvm.ClassFile.FieldType.int)) ∈ TB := tb_in 731 (by decide +kernel) rfl
theorem tw_736 : (Jvm.Cond.methodLink "SumsThatDiffer" (190 : Nat) ({ cls := "SumsThatDiffer$County", name := "steps", desc := "()I" } : Jvm.MethodName)) ∈ TB := tb_in 736 (by decide +kernel) rfl
theorem tw_737 : (Jvm.Cond.instanceMethod ({ cls := "SumsThatDiffer$County", name := "steps", desc := "()I" } : Jvm.MethodName)) ∈ TB := tb_in 737 (by decide +kernel) rfl
theorem tw_738 : (Jvm.Cond.selects "SumsThatDiffer$County" ({ cls := "SumsThatDiffer$County", name := "steps", desc := "()I" } : Jvm.MethodName) ({ cls := "SumsThatDiffer$County", name := "steps", desc := "()I" } : Jvm.MethodName)) ∈ TB := tb_in 738 (by decide +kernel) rfl
theorem tw_739 : (Jvm.Cond.code ({ cls := "SumsThatDiffer$County", name := "steps", desc := "()I" } : Jvm.MethodName) prog_3_method_9_code (1 : Nat) (Option.some Jvm.ClassFile.FieldType.int)) ∈ TB := tb_in 739 (by decide +kernel) rfl
theorem tw_740 : (Jvm.Cond.methodLink "SumsThatDiffer" (193 : Nat) ({ cls := "SumsThatDiffer", name := "isEither", desc := "(I)Z" } : Jvm.MethodName)) ∈ TB := tb_in 740 (by decide +kernel) rfl
theorem tw_741 : (Jvm.Cond.static ({ cls := "SumsThatDiffer", name := "isEither", desc := "(I)Z" } : Jvm.MethodName)) ∈ TB := tb_in 741 (by decide +kernel) rfl
theorem tw_742 : (Jvm.Cond.code ({ cls := "SumsThatDiffer", name := "isEither", desc := "(I)Z" } : Jvm.MethodName) prog_1_method_31_code (1 : Nat) (Option.some Jvm.ClassFile.FieldType.boolean)) ∈ TB := tb_in 742 (by decide +kernel) rfl
theorem tw_743 : (Jvm.Cond.methodLink "SumsThatDiffer" (196 : Nat) ({ cls := "SumsThatDiffer$Walker", name := "followPlan", desc := "(I)Z" } : Jvm.MethodName)) ∈ TB := tb_in 743 (by decide +kernel) rfl
theorem tw_744 : (Jvm.Cond.instanceMethod ({ cls := "SumsThatDiffer$Walker", name := "followPlan", desc := "(I)Z" } : Jvm.MethodName)) ∈ TB := tb_in 744 (by decide +kernel) rfl
theorem tw_745 : (Jvm.Cond.selects "SumsThatDiffer$Walker" ({ cls := "SumsThatDiffer$Walker", name := "followPlan", desc := "(I)Z" } : Jvm.MethodName) ({ cls := "SumsThatDiffer$Walker", name := "followPlan", desc := "(I)Z" } : Jvm.MethodName)) ∈ TB := tb_in 745 (by decide +kernel) rfl
theorem tw_746 : (Jvm.Cond.code ({ cls := "SumsThatDiffer$Walker", name := "followPlan", desc := "(I)Z" } : Jvm.MethodName) prog_11_method_4_code (3 : Nat) (Option.some Jvm.ClassFile.FieldType.boolean)) ∈ TB := tb_in 746 (by decide +kernel) rfl
theorem tw_747 : (Jvm.Cond.methodLink "SumsThatDiffer$Walker" (51 : Nat) ({ cls := "SumsThatDiffer$Walker", name := "startNow", desc := "()V" } : Jvm.MethodName)) ∈ TB := tb_in 747 (by decide +kernel) rfl
theorem tw_748 : (Jvm.Cond.methodLink "SumsThatDiffer$Walker" (54 : Nat) ({ cls := "SumsThatDiffer$County", name := "steps", desc := "()I" } : Jvm.MethodName)) ∈ TB := tb_in 748 (by decide +kernel) rfl
theorem tw_749 : (Jvm.Cond.methodLink "SumsThatDiffer$Walker" (58 : Nat) ({ cls := "SumsThatDiffer$County", name := "planned", desc := "(I)I" } : Jvm.MethodName)) ∈ TB := tb_in 749 (by decide +kernel) rfl
theorem tw_750 : (Jvm.Cond.instanceMethod ({ cls := "SumsThatDiffer$County", name := "planned", desc := "(I)I" } : Jvm.MethodName)) ∈ TB := tb_in 750 (by decide +kernel) rfl
theorem tw_751 : (Jvm.Cond.selects "SumsThatDiffer$County" ({ cls := "SumsThatDiffer$County", name := "planned", desc := "(I)I" } : Jvm.MethodName) ({ cls := "SumsThatDiffer$County", name := "planned", desc := "(I)I" } : Jvm.MethodName)) ∈ TB := tb_in 751 (by decide +kernel) rfl
theorem tw_752 : (Jvm.Cond.code ({ cls := "SumsThatDiffer$County", name := "planned", desc := "(I)I" } : Jvm.MethodName) prog_3_method_10_code (2 : Nat) (Option.some Jvm.ClassFile.FieldType.int)) ∈ TB := tb_in 752 (by decide +kernel) rfl
theorem tw_753 : (Jvm.Cond.methodLink "SumsThatDiffer$Walker" (62 : Nat) ({ cls := "SumsThatDiffer$Walker", name := "goBy", desc := "(I)Z" } : Jvm.MethodName)) ∈ TB := tb_in 753 (by decide +kernel) rfl
theorem tw_758 : (Jvm.Cond.methodLink "SumsThatDiffer" (199 : Nat) ({ cls := "SumsThatDiffer$Climb", name := "findMost", desc := "(I)V" } : Jvm.MethodName)) ∈ TB := tb_in 758 (by decide +kernel) rfl
theorem tw_759 : (Jvm.Cond.instanceMethod ({ cls := "SumsThatDiffer$Climb", name := "findMost", desc := "(I)V" } : Jvm.MethodName)) ∈ TB := tb_in 759 (by decide +kernel) rfl
theorem tw_760 : (Jvm.Cond.selects "SumsThatDiffer$Climb" ({ cls := "SumsThatDiffer$Climb", name := "findMost", desc := "(I)V" } : Jvm.MethodName) ({ cls := "SumsThatDiffer$Climb", name := "findMost", desc := "(I)V" } : Jvm.MethodName)) ∈ TB := tb_in 760 (by decide +kernel) rfl
theorem tw_761 : (Jvm.Cond.code ({ cls := "SumsThatDiffer$Climb", name := "findMost", desc := "(I)V" } : Jvm.MethodName) prog_2_method_2_code (4 : Nat) (Option.none : Option Jvm.ClassFile.FieldType)) ∈ TB := tb_in 761 (by decide +kernel) rfl
theorem tw_762 : (Jvm.Cond.methodLink "SumsThatDiffer$Climb" (40 : Nat) ({ cls := "SumsThatDiffer$Climb", name := "begin", desc := "(II)V" } : Jvm.MethodName)) ∈ TB := tb_in 762 (by decide +kernel) rfl
theorem tw_764 : (Jvm.Cond.instanceMethod ({ cls := "SumsThatDiffer$Climb", name := "begin", desc := "(II)V" } : Jvm.MethodName)) ∈ TB := tb_in 764 (by decide +kernel) rfl
theorem tw_765 : (Jvm.Cond.code ({ cls := "SumsThatDiffer$Climb", name := "begin", desc := "(II)V" } : Jvm.MethodName) prog_2_method_10_code (3 : Nat) (Option.none : Option Jvm.ClassFile.FieldType)) ∈ TB := tb_in 765 (by decide +kernel) rfl
theorem tw_766 : (Jvm.Cond.methodLink "SumsThatDiffer$Climb" (88 : Nat) ({ cls := "java/util/Arrays", name := "fill", desc := "([II)V" } : Jvm.MethodName)) ∈ TB := tb_in 766 (by decide +kernel) rfl
theorem tw_767 : (Jvm.Cond.static ({ cls := "java/util/Arrays", name := "fill", desc := "([II)V" } : Jvm.MethodName)) ∈ TB := tb_in 767 (by decide +kernel) rfl
theorem tw_768 : (Jvm.Cond.code ({ cls := "java/util/Arrays", name := "fill", desc := "([II)V" } : Jvm.MethodName) prog_21_method_103_code (4 : Nat) (Option.none : Option Jvm.ClassFile.FieldType)) ∈ TB := tb_in 768 (by decide +kernel) rfl
theorem tw_769 : (Jvm.Cond.methodLink "SumsThatDiffer$Climb" (84 : Nat) ({ cls := "SumsThatDiffer$County", name := "hasPlace", desc := "(I)Z" } : Jvm.MethodName)) ∈ TB := tb_in 769 (by decide +kernel) rfl
theorem tw_770 : (Jvm.Cond.methodLink "SumsThatDiffer$Climb" (50 : Nat) ({ cls := "SumsThatDiffer$Climb", name := "advance", desc := "()V" } : Jvm.MethodName)) ∈ TB := tb_in 770 (by decide +kernel) rfl
theorem tw_772 : (Jvm.Cond.instanceMethod ({ cls := "SumsThatDiffer$Climb", name := "advance", desc := "()V" } : Jvm.MethodName)) ∈ TB := tb_in 772 (by decide +kernel) rfl
theorem tw_773 : (Jvm.Cond.code ({ cls := "SumsThatDiffer$Climb", name := "advance", desc := "()V" } : Jvm.MethodName) prog_2_method_11_code (2 : Nat) (Option.none : Option Jvm.ClassFile.FieldType)) ∈ TB := tb_in 773 (by decide +kernel) rfl
theorem tw_774 : (Jvm.Cond.methodLink "SumsThatDiffer$Climb" (74 : Nat) ({ cls := "SumsThatDiffer$County", name := "roads", desc := "()I" } : Jvm.MethodName)) ∈ TB := tb_in 774 (by decide +kernel) rfl
theorem tw_775 : (Jvm.Cond.methodLink "SumsThatDiffer$Climb" (94 : Nat) ({ cls := "SumsThatDiffer$Standing", name := "isShut", desc := "(I)Z" } : Jvm.MethodName)) ∈ TB := tb_in 775 (by decide +kernel) rfl
theorem tw_776 : (Jvm.Cond.methodLink "SumsThatDiffer$Climb" (97 : Nat) ({ cls := "SumsThatDiffer$County", name := "startOf", desc := "(I)I" } : Jvm.MethodName)) ∈ TB := tb_in 776 (by decide +kernel) rfl
theorem tw_777 : (Jvm.Cond.methodLink "SumsThatDiffer$Climb" (101 : Nat) ({ cls := "SumsThatDiffer$County", name := "endOf", desc := "(I)I" } : Jvm.MethodName)) ∈ TB := tb_in 777 (by decide +kernel) rfl
theorem tw_778 : (Jvm.Cond.methodLink "SumsThatDiffer$Climb" (104 : Nat) ({ cls := "SumsThatDiffer$Climb", name := "carry", desc := "(III)V" } : Jvm.MethodName)) ∈ TB := tb_in 778 (by decide +kernel) rfl
theorem tw_780 : (Jvm.Cond.instanceMethod ({ cls := "SumsThatDiffer$Climb", name := "carry", desc := "(III)V" } : Jvm.MethodName)) ∈ TB := tb_in 780 (by decide +kernel) rfl
theorem tw_781 : (Jvm.Cond.code ({ cls := "SumsThatDiffer$Climb", name := "carry", desc := "(III)V" } : Jvm.MethodName) prog_2_method_12_code (4 : Nat) (Option.none : Option Jvm.ClassFile.FieldType)) ∈ TB := tb_in 781 (by decide +kernel) rfl
theorem tw_782 : (Jvm.Cond.methodLink "SumsThatDiffer$Climb" (108 : Nat) ({ cls := "SumsThatDiffer$County", name := "figureFrom", desc := "(II)I" } : Jvm.MethodName)) ∈ TB := tb_in 782 (by decide +kernel) rfl
theorem tw_783 : (Jvm.Cond.methodLink "SumsThatDiffer$Climb" (111 : Nat) ({ cls := "SumsThatDiffer$County", name := "sumBy", desc := "(III)I" } : Jvm.MethodName)) ∈ TB := tb_in 783 (by decide +kernel) rfl
theorem tw_784 : (Jvm.Cond.methodLink "SumsThatDiffer$Climb" (114 : Nat) ({ cls := "java/lang/Math", name := "max", desc := "(II)I" } : Jvm.MethodName)) ∈ TB := tb_in 784 (by decide +kernel) rfl
theorem tw_785 : (Jvm.Cond.static ({ cls := "java/lang/Math", name := "max", desc := "(II)I" } : Jvm.MethodName)) ∈ TB := tb_in 785 (by decide +kernel) rfl
theorem tw_786 : (Jvm.Cond.code ({ cls := "java/lang/Math", name := "max", desc := "(II)I" } : Jvm.MethodName) prog_16_method_65_code (2 : Nat) (Option.some Jvm.ClassFile.FieldType.int)) ∈ TB := tb_in 786 (by decide +kernel) rfl
theorem tw_787 : (Jvm.Cond.methodLink "SumsThatDiffer$Climb" (53 : Nat) ({ cls := "SumsThatDiffer$County", name := "places", desc := "()I" } : Jvm.MethodName)) ∈ TB := tb_in 787 (by decide +kernel) rfl
theorem tw_788 : (Jvm.Cond.instanceMethod ({ cls := "SumsThatDiffer$County", name := "places", desc := "()I" } : Jvm.MethodName)) ∈ TB := tb_in 788 (by decide +kernel) rfl
theorem tw_789 : (Jvm.Cond.selects "SumsThatDiffer$County" ({ cls := "SumsThatDiffer$County", name := "places", desc := "()I" } : Jvm.MethodName) ({ cls := "SumsThatDiffer$County", name := "places", desc := "()I" } : Jvm.MethodName)) ∈ TB := tb_in 789 (by decide +kernel) rfl
theorem tw_790 : (Jvm.Cond.code ({ cls := "SumsThatDiffer$County", name := "places", desc := "()I" } : Jvm.MethodName) prog_3_method_7_code (1 : Nat) (Option.some Jvm.ClassFile.FieldType.int)) ∈ TB := tb_in 790 (by decide +kernel) rfl
theorem tw_791 : (Jvm.Cond.methodLink "SumsThatDiffer$Climb" (57 : Nat) ({ cls := "SumsThatDiffer$Climb", name := "raise", desc := "(II)V" } : Jvm.MethodName)) ∈ TB := tb_in 791 (by decide +kernel) rfl
theorem tw_793 : (Jvm.Cond.instanceMethod ({ cls := "SumsThatDiffer$Climb", name := "raise", desc := "(II)V" } : Jvm.MethodName)) ∈ TB := tb_in 793 (by decide +kernel) rfl
theorem tw_794 : (Jvm.Cond.code ({ cls := "SumsThatDiffer$Climb", name := "raise", desc := "(II)V" } : Jvm.MethodName) prog_2_method_5_code (3 : Nat) (Option.none : Option Jvm.ClassFile.FieldType)) ∈ TB := tb_in 794 (by decide +kernel) rfl
theorem tw_799 : (Jvm.Cond.methodLink "SumsThatDiffer" (206 : Nat) ({ cls := "SumsThatDiffer$Climb", name := "findRound", desc := "()V" } : Jvm.MethodName)) ∈ TB := tb_in 799 (by decide +kernel) rfl
theorem tw_800 : (Jvm.Cond.instanceMethod ({ cls := "SumsThatDiffer$Climb", name := "findRound", desc := "()V" } : Jvm.MethodName)) ∈ TB := tb_in 800 (by decide +kernel) rfl
theorem tw_801 : (Jvm.Cond.selects "SumsThatDiffer$Climb" ({ cls := "SumsThatDiffer$Climb", name := "findRound", desc := "()V" } : Jvm.MethodName) ({ cls := "SumsThatDiffer$Climb", name := "findRound", desc := "()V" } : Jvm.MethodName)) ∈ TB := tb_in 801 (by decide +kernel) rfl
theorem tw_802 : (Jvm.Cond.code ({ cls := "SumsThatDiffer$Climb", name := "findRound", desc := "()V" } : Jvm.MethodName) prog_2_method_3_code (2 : Nat) (Option.none : Option Jvm.ClassFile.FieldType)) ∈ TB := tb_in 802 (by decide +kernel) rfl
theorem tw_803 : (Jvm.Cond.methodLink "SumsThatDiffer$Climb" (60 : Nat) ({ cls := "SumsThatDiffer$Climb", name := "bestAtHome", desc := "()I" } : Jvm.MethodName)) ∈ TB := tb_in 803 (by decide +kernel) rfl
theorem tw_805 : (Jvm.Cond.instanceMethod ({ cls := "SumsThatDiffer$Climb", name := "bestAtHome", desc := "()I" } : Jvm.MethodName)) ∈ TB := tb_in 805 (by decide +kernel) rfl
theorem tw_806 : (Jvm.Cond.code ({ cls := "SumsThatDiffer$Climb", name := "bestAtHome", desc := "()I" } : Jvm.MethodName) prog_2_method_9_code (2 : Nat) (Option.some Jvm.ClassFile.FieldType.int)) ∈ TB := tb_in 806 (by decide +kernel) rfl
theorem tw_807 : (Jvm.Cond.methodLink "SumsThatDiffer" (209 : Nat) ({ cls := "SumsThatDiffer$Climb", name := "gain", desc := "()I" } : Jvm.MethodName)) ∈ TB := tb_in 807 (by decide +kernel) rfl
theorem tw_808 : (Jvm.Cond.instanceMethod ({ cls := "SumsThatDiffer$Climb", name := "gain", desc := "()I" } : Jvm.MethodName)) ∈ TB := tb_in 808 (by decide +kernel) rfl
theorem tw_809 : (Jvm.Cond.selects "SumsThatDiffer$Climb" ({ cls := "SumsThatDiffer$Climb", name := "gain", desc := "()I" } : Jvm.MethodName) ({ cls := "SumsThatDiffer$Climb", name := "gain", desc := "()I" } : Jvm.MethodName)) ∈ TB := tb_in 809 (by decide +kernel) rfl
theorem tw_810 : (Jvm.Cond.code ({ cls := "SumsThatDiffer$Climb", name := "gain", desc := "()I" } : Jvm.MethodName) prog_2_method_4_code (1 : Nat) (Option.some Jvm.ClassFile.FieldType.int)) ∈ TB := tb_in 810 (by decide +kernel) rfl
theorem tw_811 : (Jvm.Cond.methodLink "SumsThatDiffer" (212 : Nat) ({ cls := "SumsThatDiffer$Climb", name := "fillRow", desc := "()V" } : Jvm.MethodName)) ∈ TB := tb_in 811 (by decide +kernel) rfl
theorem tw_812 : (Jvm.Cond.instanceMethod ({ cls := "SumsThatDiffer$Climb", name := "fillRow", desc := "()V" } : Jvm.MethodName)) ∈ TB := tb_in 812 (by decide +kernel) rfl
theorem tw_813 : (Jvm.Cond.selects "SumsThatDiffer$Climb" ({ cls := "SumsThatDiffer$Climb", name := "fillRow", desc := "()V" } : Jvm.MethodName) ({ cls := "SumsThatDiffer$Climb", name := "fillRow", desc := "()V" } : Jvm.MethodName)) ∈ TB := tb_in 813 (by decide +kernel) rfl
theorem tw_814 : (Jvm.Cond.code ({ cls := "SumsThatDiffer$Climb", name := "fillRow", desc := "()V" } : Jvm.MethodName) prog_2_method_6_code (5 : Nat) (Option.none : Option Jvm.ClassFile.FieldType)) ∈ TB := tb_in 814 (by decide +kernel) rfl
theorem tw_815 : (Jvm.Cond.methodLink "SumsThatDiffer$Climb" (63 : Nat) ({ cls := "SumsThatDiffer$Climb", name := "firstToHighest", desc := "(III)I" } : Jvm.MethodName)) ∈ TB := tb_in 815 (by decide +kernel) rfl
theorem tw_817 : (Jvm.Cond.instanceMethod ({ cls := "SumsThatDiffer$Climb", name := "firstToHighest", desc := "(III)I" } : Jvm.MethodName)) ∈ TB := tb_in 817 (by decide +kernel) rfl
theorem tw_818 : (Jvm.Cond.code ({ cls := "SumsThatDiffer$Climb", name := "firstToHighest", desc := "(III)I" } : Jvm.MethodName) prog_2_method_7_code (5 : Nat) (Option.some Jvm.ClassFile.FieldType.int)) ∈ TB := tb_in 818 (by decide +kernel) rfl
theorem tw_819 : (Jvm.Cond.methodLink "SumsThatDiffer$Climb" (77 : Nat) ({ cls := "SumsThatDiffer$County", name := "canBeCrossed", desc := "(II)Z" } : Jvm.MethodName)) ∈ TB := tb_in 819 (by decide +kernel) rfl
theorem tw_820 : (Jvm.Cond.methodLink "SumsThatDiffer$Climb" (70 : Nat) ({ cls := "SumsThatDiffer$County", name := "otherEnd", desc := "(II)I" } : Jvm.MethodName)) ∈ TB := tb_in 820 (by decide +kernel) rfl
theorem tw_821 : (Jvm.Cond.methodLink "SumsThatDiffer$Climb" (67 : Nat) ({ cls := "SumsThatDiffer$County", name := "sumBehind", desc := "(III)I" } : Jvm.MethodName)) ∈ TB := tb_in 821 (by decide +kernel) rfl
theorem tw_822 : (Jvm.Cond.methodLink "SumsThatDiffer$Climb" (81 : Nat) ({ cls := "SumsThatDiffer$Climb", name := "highestHome", desc := "(III)I" } : Jvm.MethodName)) ∈ TB := tb_in 822 (by decide +kernel) rfl
theorem tw_824 : (Jvm.Cond.instanceMethod ({ cls := "SumsThatDiffer$Climb", name := "highestHome", desc := "(III)I" } : Jvm.MethodName)) ∈ TB := tb_in 824 (by decide +kernel) rfl
theorem tw_825 : (Jvm.Cond.code ({ cls := "SumsThatDiffer$Climb", name := "highestHome", desc := "(III)I" } : Jvm.MethodName) prog_2_method_8_code (5 : Nat) (Option.some Jvm.ClassFile.FieldType.int)) ∈ TB := tb_in 825 (by decide +kernel) rfl
theorem tw_830 : (Jvm.Cond.methodLink "SumsThatDiffer" (218 : Nat) ({ cls := "SumsThatDiffer$Heights", name := "agreeNow", desc := "()Z" } : Jvm.MethodName)) ∈ TB := tb_in 830 (by decide +kernel) rfl
theorem tw_831 : (Jvm.Cond.instanceMethod ({ cls := "SumsThatDiffer$Heights", name := "agreeNow", desc := "()Z" } : Jvm.MethodName)) ∈ TB := tb_in 831 (by decide +kernel) rfl
theorem tw_832 : (Jvm.Cond.selects "SumsThatDiffer$Heights" ({ cls := "SumsThatDiffer$Heights", name := "agreeNow", desc := "()Z" } : Jvm.MethodName) ({ cls := "SumsThatDiffer$Heights", name := "agreeNow", desc := "()Z" } : Jvm.MethodName)) ∈ TB := tb_in 832 (by decide +kernel) rfl
theorem tw_833 : (Jvm.Cond.code ({ cls := "SumsThatDiffer$Heights", name := "agreeNow", desc := "()Z" } : Jvm.MethodName) prog_4_method_2_code (1 : Nat) (Option.some Jvm.ClassFile.FieldType.boolean)) ∈ TB := tb_in 833 (by decide +kernel) rfl
theorem tw_834 : (Jvm.Cond.methodLink "SumsThatDiffer$Heights" (22 : Nat) ({ cls := "SumsThatDiffer$County", name := "bitsNotShut", desc := "()I" } : Jvm.MethodName)) ∈ TB := tb_in 834 (by decide +kernel) rfl
theorem tw_835 : (Jvm.Cond.instanceMethod ({ cls := "SumsThatDiffer$County", name := "bitsNotShut", desc := "()I" } : Jvm.MethodName)) ∈ TB := tb_in 835 (by decide +kernel) rfl
theorem tw_836 : (Jvm.Cond.selects "SumsThatDiffer$County" ({ cls := "SumsThatDiffer$County", name := "bitsNotShut", desc := "()I" } : Jvm.MethodName) ({ cls := "SumsThatDiffer$County", name := "bitsNotShut", desc := "()I" } : Jvm.MethodName)) ∈ TB := tb_in 836 (by decide +kernel) rfl
theorem tw_837 : (Jvm.Cond.code ({ cls := "SumsThatDiffer$County", name := "bitsNotShut", desc := "()I" } : Jvm.MethodName) prog_3_method_24_code (1 : Nat) (Option.some Jvm.ClassFile.FieldType.int)) ∈ TB := tb_in 837 (by decide +kernel) rfl
theorem tw_838 : (Jvm.Cond.methodLink "SumsThatDiffer$County" (88 : Nat) ({ cls := "SumsThatDiffer$County", name := "bitsOfAll", desc := "()I" } : Jvm.MethodName)) ∈ TB := tb_in 838 (by decide +kernel) rfl
theorem tw_839 : (Jvm.Cond.instanceMethod ({ cls := "SumsThatDiffer$County", name := "bitsOfAll", desc := "()I" } : Jvm.MethodName)) ∈ TB := tb_in 839 (by decide +kernel) rfl
theorem tw_840 : (Jvm.Cond.selects "SumsThatDiffer$County" ({ cls := "SumsThatDiffer$County", name := "bitsOfAll", desc := "()I" } : Jvm.MethodName) ({ cls := "SumsThatDiffer$County", name := "bitsOfAll", desc := "()I" } : Jvm.MethodName)) ∈ TB := tb_in 840 (by decide +kernel) rfl
theorem tw_841 : (Jvm.Cond.code ({ cls := "SumsThatDiffer$County", name := "bitsOfAll", desc := "()I" } : Jvm.MethodName) prog_3_method_23_code (1 : Nat) (Option.some Jvm.ClassFile.FieldType.int)) ∈ TB := tb_in 841 (by decide +kernel) rfl
theorem tw_842 : (Jvm.Cond.methodLink "SumsThatDiffer$Heights" (28 : Nat) ({ cls := "SumsThatDiffer$Heights", name := "agreeBy", desc := "(I)Z" } : Jvm.MethodName)) ∈ TB := tb_in 842 (by decide +kernel) rfl
theorem tw_844 : (Jvm.Cond.instanceMethod ({ cls := "SumsThatDiffer$Heights", name := "agreeBy", desc := "(I)Z" } : Jvm.MethodName)) ∈ TB := tb_in 844 (by decide +kernel) rfl
theorem tw_845 : (Jvm.Cond.code ({ cls := "SumsThatDiffer$Heights", name := "agreeBy", desc := "(I)Z" } : Jvm.MethodName) prog_4_method_7_code (3 : Nat) (Option.some Jvm.ClassFile.FieldType.boolean)) ∈ TB := tb_in 845 (by decide +kernel) rfl
theorem tw_846 : (Jvm.Cond.methodLink "SumsThatDiffer$Heights" (59 : Nat) ({ cls := "java/util/Arrays", name := "fill", desc := "([II)V" } : Jvm.MethodName)) ∈ TB := tb_in 846 (by decide +kernel) rfl
theorem tw_847 : (Jvm.Cond.methodLink "SumsThatDiffer$Heights" (65 : Nat) ({ cls := "SumsThatDiffer$County", name := "places", desc := "()I" } : Jvm.MethodName)) ∈ TB := tb_in 847 (by decide +kernel) rfl
theorem tw_848 : (Jvm.Cond.methodLink "SumsThatDiffer$Heights" (68 : Nat) ({ cls := "SumsThatDiffer$Heights", name := "spread", desc := "(I)V" } : Jvm.MethodName)) ∈ TB := tb_in 848 (by decide +kernel) rfl
theorem tw_850 : (Jvm.Cond.instanceMethod ({ cls := "SumsThatDiffer$Heights", name := "spread", desc := "(I)V" } : Jvm.MethodName)) ∈ TB := tb_in 850 (by decide +kernel) rfl
theorem tw_851 : (Jvm.Cond.code ({ cls := "SumsThatDiffer$Heights", name := "spread", desc := "(I)V" } : Jvm.MethodName) prog_4_method_8_code (5 : Nat) (Option.none : Option Jvm.ClassFile.FieldType)) ∈ TB := tb_in 851 (by decide +kernel) rfl
theorem tw_852 : (Jvm.Cond.methodLink "SumsThatDiffer$Heights" (44 : Nat) ({ cls := "SumsThatDiffer$County", name := "roads", desc := "()I" } : Jvm.MethodName)) ∈ TB := tb_in 852 (by decide +kernel) rfl
theorem tw_853 : (Jvm.Cond.methodLink "SumsThatDiffer$Heights" (75 : Nat) ({ cls := "SumsThatDiffer$County", name := "startOf", desc := "(I)I" } : Jvm.MethodName)) ∈ TB := tb_in 853 (by decide +kernel) rfl
theorem tw_854 : (Jvm.Cond.methodLink "SumsThatDiffer$Heights" (78 : Nat) ({ cls := "SumsThatDiffer$Heights", name := "carry", desc := "(II)Z" } : Jvm.MethodName)) ∈ TB := tb_in 854 (by decide +kernel) rfl
theorem tw_856 : (Jvm.Cond.instanceMethod ({ cls := "SumsThatDiffer$Heights", name := "carry", desc := "(II)Z" } : Jvm.MethodName)) ∈ TB := tb_in 856 (by decide +kernel) rfl
theorem tw_857 : (Jvm.Cond.code ({ cls := "SumsThatDiffer$Heights", name := "carry", desc := "(II)Z" } : Jvm.MethodName) prog_4_method_9_code (4 : Nat) (Option.some Jvm.ClassFile.FieldType.boolean)) ∈ TB := tb_in 857 (by decide +kernel) rfl
theorem tw_858 : (Jvm.Cond.methodLink "SumsThatDiffer$Heights" (85 : Nat) ({ cls := "SumsThatDiffer$County", name := "otherEnd", desc := "(II)I" } : Jvm.MethodName)) ∈ TB := tb_in 858 (by decide +kernel) rfl
theorem tw_859 : (Jvm.Cond.methodLink "SumsThatDiffer$Heights" (32 : Nat) ({ cls := "SumsThatDiffer$County", name := "hasPlace", desc := "(I)Z" } : Jvm.MethodName)) ∈ TB := tb_in 859 (by decide +kernel) rfl
theorem tw_860 : (Jvm.Cond.methodLink "SumsThatDiffer$Heights" (89 : Nat) ({ cls := "SumsThatDiffer$County", name := "changeFrom", desc := "(II)I" } : Jvm.MethodName)) ∈ TB := tb_in 860 (by decide +kernel) rfl
theorem tw_861 : (Jvm.Cond.methodLink "SumsThatDiffer$Heights" (82 : Nat) ({ cls := "SumsThatDiffer$County", name := "endOf", desc := "(I)I" } : Jvm.MethodName)) ∈ TB := tb_in 861 (by decide +kernel) rfl
theorem tw_862 : (Jvm.Cond.methodLink "SumsThatDiffer$Heights" (72 : Nat) ({ cls := "SumsThatDiffer$Heights", name := "suits", desc := "(I)Z" } : Jvm.MethodName)) ∈ TB := tb_in 862 (by decide +kernel) rfl
theorem tw_864 : (Jvm.Cond.instanceMethod ({ cls := "SumsThatDiffer$Heights", name := "suits", desc := "(I)Z" } : Jvm.MethodName)) ∈ TB := tb_in 864 (by decide +kernel) rfl
theorem tw_865 : (Jvm.Cond.code ({ cls := "SumsThatDiffer$Heights", name := "suits", desc := "(I)Z" } : Jvm.MethodName) prog_4_method_10_code (5 : Nat) (Option.some Jvm.ClassFile.FieldType.boolean)) ∈ TB := tb_in 865 (by decide +kernel) rfl
theorem tw_866 : (Jvm.Cond.methodLink "SumsThatDiffer$Heights" (92 : Nat) ({ cls := "SumsThatDiffer$Heights", name := "of", desc := "(I)I" } : Jvm.MethodName)) ∈ TB := tb_in 866 (by decide +kernel) rfl
theorem tw_867 : (Jvm.Cond.instanceMethod ({ cls := "SumsThatDiffer$Heights", name := "of", desc := "(I)I" } : Jvm.MethodName)) ∈ TB := tb_in 867 (by decide +kernel) rfl
theorem tw_868 : (Jvm.Cond.selects "SumsThatDiffer$Heights" ({ cls := "SumsThatDiffer$Heights", name := "of", desc := "(I)I" } : Jvm.MethodName) ({ cls := "SumsThatDiffer$Heights", name := "of", desc := "(I)I" } : Jvm.MethodName)) ∈ TB := tb_in 868 (by decide +kernel) rfl
theorem tw_869 : (Jvm.Cond.code ({ cls := "SumsThatDiffer$Heights", name := "of", desc := "(I)I" } : Jvm.MethodName) prog_4_method_3_code (2 : Nat) (Option.some Jvm.ClassFile.FieldType.int)) ∈ TB := tb_in 869 (by decide +kernel) rfl
theorem tw_874 : (Jvm.Cond.methodLink "SumsThatDiffer" (221 : Nat) ({ cls := "SumsThatDiffer$County", name := "hasPlace", desc := "(I)Z" } : Jvm.MethodName)) ∈ TB := tb_in 874 (by decide +kernel) rfl
theorem tw_875 : (Jvm.Cond.methodLink "SumsThatDiffer" (224 : Nat) ({ cls := "SumsThatDiffer$Heights", name := "of", desc := "(I)I" } : Jvm.MethodName)) ∈ TB := tb_in 875 (by decide +kernel) rfl
theorem tw_880 : (Jvm.Cond.methodLink "SumsThatDiffer" (227 : Nat) ({ cls := "SumsThatDiffer$Rings", name := "find", desc := "()Z" } : Jvm.MethodName)) ∈ TB := tb_in 880 (by decide +kernel) rfl
theorem tw_881 : (Jvm.Cond.instanceMethod ({ cls := "SumsThatDiffer$Rings", name := "find", desc := "()Z" } : Jvm.MethodName)) ∈ TB := tb_in 881 (by decide +kernel) rfl
theorem tw_882 : (Jvm.Cond.selects "SumsThatDiffer$Rings" ({ cls := "SumsThatDiffer$Rings", name := "find", desc := "()Z" } : Jvm.MethodName) ({ cls := "SumsThatDiffer$Rings", name := "find", desc := "()Z" } : Jvm.MethodName)) ∈ TB := tb_in 882 (by decide +kernel) rfl
theorem tw_883 : (Jvm.Cond.code ({ cls := "SumsThatDiffer$Rings", name := "find", desc := "()Z" } : Jvm.MethodName) prog_8_method_2_code (2 : Nat) (Option.some Jvm.ClassFile.FieldType.boolean)) ∈ TB := tb_in 883 (by decide +kernel) rfl
theorem tw_884 : (Jvm.Cond.methodLink "SumsThatDiffer$Rings" (32 : Nat) ({ cls := "SumsThatDiffer$County", name := "places", desc := "()I" } : Jvm.MethodName)) ∈ TB := tb_in 884 (by decide +kernel) rfl
theorem tw_885 : (Jvm.Cond.methodLink "SumsThatDiffer$Rings" (38 : Nat) ({ cls := "SumsThatDiffer$Rings", name := "findFrom", desc := "(I)V" } : Jvm.MethodName)) ∈ TB := tb_in 885 (by decide +kernel) rfl
theorem tw_887 : (Jvm.Cond.instanceMethod ({ cls := "SumsThatDiffer$Rings", name := "findFrom", desc := "(I)V" } : Jvm.MethodName)) ∈ TB := tb_in 887 (by decide +kernel) rfl
theorem tw_888 : (Jvm.Cond.code ({ cls := "SumsThatDiffer$Rings", name := "findFrom", desc := "(I)V" } : Jvm.MethodName) prog_8_method_3_code (3 : Nat) (Option.none : Option Jvm.ClassFile.FieldType)) ∈ TB := tb_in 888 (by decide +kernel) rfl
theorem tw_889 : (Jvm.Cond.methodLink "SumsThatDiffer$Rings" (45 : Nat) ({ cls := "SumsThatDiffer$Rings", name := "advance", desc := "()V" } : Jvm.MethodName)) ∈ TB := tb_in 889 (by decide +kernel) rfl
theorem tw_891 : (Jvm.Cond.instanceMethod ({ cls := "SumsThatDiffer$Rings", name := "advance", desc := "()V" } : Jvm.MethodName)) ∈ TB := tb_in 891 (by decide +kernel) rfl
theorem tw_892 : (Jvm.Cond.code ({ cls := "SumsThatDiffer$Rings", name := "advance", desc := "()V" } : Jvm.MethodName) prog_8_method_4_code (2 : Nat) (Option.none : Option Jvm.ClassFile.FieldType)) ∈ TB := tb_in 892 (by decide +kernel) rfl
theorem tw_893 : (Jvm.Cond.methodLink "SumsThatDiffer$Rings" (54 : Nat) ({ cls := "SumsThatDiffer$County", name := "roads", desc := "()I" } : Jvm.MethodName)) ∈ TB := tb_in 893 (by decide +kernel) rfl
theorem tw_894 : (Jvm.Cond.methodLink "SumsThatDiffer$Rings" (61 : Nat) ({ cls := "SumsThatDiffer$Standing", name := "isShut", desc := "(I)Z" } : Jvm.MethodName)) ∈ TB := tb_in 894 (by decide +kernel) rfl
theorem tw_895 : (Jvm.Cond.methodLink "SumsThatDiffer$Rings" (67 : Nat) ({ cls := "SumsThatDiffer$County", name := "startOf", desc := "(I)I" } : Jvm.MethodName)) ∈ TB := tb_in 895 (by decide +kernel) rfl
theorem tw_896 : (Jvm.Cond.methodLink "SumsThatDiffer$Rings" (71 : Nat) ({ cls := "SumsThatDiffer$County", name := "endOf", desc := "(I)I" } : Jvm.MethodName)) ∈ TB := tb_in 896 (by decide +kernel) rfl
theorem tw_897 : (Jvm.Cond.methodLink "SumsThatDiffer$Rings" (74 : Nat) ({ cls := "SumsThatDiffer$Rings", name := "carry", desc := "(III)V" } : Jvm.MethodName)) ∈ TB := tb_in 897 (by decide +kernel) rfl
theorem tw_899 : (Jvm.Cond.instanceMethod ({ cls := "SumsThatDiffer$Rings", name := "carry", desc := "(III)V" } : Jvm.MethodName)) ∈ TB := tb_in 899 (by decide +kernel) rfl
theorem tw_900 : (Jvm.Cond.code ({ cls := "SumsThatDiffer$Rings", name := "carry", desc := "(III)V" } : Jvm.MethodName) prog_8_method_5_code (6 : Nat) (Option.none : Option Jvm.ClassFile.FieldType)) ∈ TB := tb_in 900 (by decide +kernel) rfl
theorem tw_901 : (Jvm.Cond.methodLink "SumsThatDiffer$Rings" (81 : Nat) ({ cls := "SumsThatDiffer$County", name := "hasPlace", desc := "(I)Z" } : Jvm.MethodName)) ∈ TB := tb_in 901 (by decide +kernel) rfl
theorem tw_902 : (Jvm.Cond.methodLink "SumsThatDiffer$Rings" (84 : Nat) ({ cls := "SumsThatDiffer$County", name := "changeFrom", desc := "(II)I" } : Jvm.MethodName)) ∈ TB := tb_in 902 (by decide +kernel) rfl
theorem tw_903 : (Jvm.Cond.methodLink "SumsThatDiffer$Rings" (88 : Nat) ({ cls := "java/lang/Math", name := "max", desc := "(II)I" } : Jvm.MethodName)) ∈ TB := tb_in 903 (by decide +kernel) rfl
theorem tw_904 : (Jvm.Cond.methodLink "SumsThatDiffer$Rings" (93 : Nat) ({ cls := "java/lang/Math", name := "min", desc := "(II)I" } : Jvm.MethodName)) ∈ TB := tb_in 904 (by decide +kernel) rfl
theorem tw_905 : (Jvm.Cond.static ({ cls := "java/lang/Math", name := "min", desc := "(II)I" } : Jvm.MethodName)) ∈ TB := tb_in 905 (by decide +kernel) rfl
theorem tw_906 : (Jvm.Cond.code ({ cls := "java/lang/Math", name := "min", desc := "(II)I" } : Jvm.MethodName) prog_16_method_69_code (2 : Nat) (Option.some Jvm.ClassFile.FieldType.int)) ∈ TB := tb_in 906 (by decide +kernel) rfl
theorem tw_907 : (Jvm.Cond.methodLink "SumsThatDiffer$Rings" (78 : Nat) ({ cls := "SumsThatDiffer$Rings", name := "swapRows", desc := "()V" } : Jvm.MethodName)) ∈ TB := tb_in 907 (by decide +kernel) rfl
theorem tw_909 : (Jvm.Cond.instanceMethod ({ cls := "SumsThatDiffer$Rings", name := "swapRows", desc := "()V" } : Jvm.MethodName)) ∈ TB := tb_in 909 (by decide +kernel) rfl
theorem tw_910 : (Jvm.Cond.code ({ cls := "SumsThatDiffer$Rings", name := "swapRows", desc := "()V" } : Jvm.MethodName) prog_8_method_6_code (3 : Nat) (Option.none : Option Jvm.ClassFile.FieldType)) ∈ TB := tb_in 910 (by decide +kernel) rfl
theorem tw_915 : (Jvm.Cond.methodLink "SumsThatDiffer" (235 : Nat) ({ cls := "SumsThatDiffer$Heights", name := "fewestToShut", desc := "()I" } : Jvm.MethodName)) ∈ TB := tb_in 915 (by decide +kernel) rfl
theorem tw_916 : (Jvm.Cond.instanceMethod ({ cls := "SumsThatDiffer$Heights", name := "fewestToShut", desc := "()I" } : Jvm.MethodName)) ∈ TB := tb_in 916 (by decide +kernel) rfl
theorem tw_917 : (Jvm.Cond.selects "SumsThatDiffer$Heights" ({ cls := "SumsThatDiffer$Heights", name := "fewestToShut", desc := "()I" } : Jvm.MethodName) ({ cls := "SumsThatDiffer$Heights", name := "fewestToShut", desc := "()I" } : Jvm.MethodName)) ∈ TB := tb_in 917 (by decide +kernel) rfl
theorem tw_918 : (Jvm.Cond.code ({ cls := "SumsThatDiffer$Heights", name := "fewestToShut", desc := "()I" } : Jvm.MethodName) prog_4_method_5_code (6 : Nat) (Option.some Jvm.ClassFile.FieldType.int)) ∈ TB := tb_in 918 (by decide +kernel) rfl
theorem tw_919 : (Jvm.Cond.methodLink "SumsThatDiffer$Heights" (35 : Nat) ({ cls := "SumsThatDiffer$Heights", name := "unlikeWays", desc := "(I)I" } : Jvm.MethodName)) ∈ TB := tb_in 919 (by decide +kernel) rfl
theorem tw_921 : (Jvm.Cond.instanceMethod ({ cls := "SumsThatDiffer$Heights", name := "unlikeWays", desc := "(I)I" } : Jvm.MethodName)) ∈ TB := tb_in 921 (by decide +kernel) rfl
theorem tw_922 : (Jvm.Cond.code ({ cls := "SumsThatDiffer$Heights", name := "unlikeWays", desc := "(I)I" } : Jvm.MethodName) prog_4_method_6_code (4 : Nat) (Option.some Jvm.ClassFile.FieldType.int)) ∈ TB := tb_in 922 (by decide +kernel) rfl
theorem tw_923 : (Jvm.Cond.methodLink "SumsThatDiffer$Heights" (39 : Nat) ({ cls := "java/lang/Integer", name := "bitCount", desc := "(I)I" } : Jvm.MethodName)) ∈ TB := tb_in 923 (by decide +kernel) rfl
theorem tw_928 : (Jvm.Cond.methodLink "SumsThatDiffer" (238 : Nat) ({ cls := "SumsThatDiffer$Heights", name := "hangTogether", desc := "(II)Z" } : Jvm.MethodName)) ∈ TB := tb_in 928 (by decide +kernel) rfl
theorem tw_929 : (Jvm.Cond.instanceMethod ({ cls := "SumsThatDiffer$Heights", name := "hangTogether", desc := "(II)Z" } : Jvm.MethodName)) ∈ TB := tb_in 929 (by decide +kernel) rfl
theorem tw_930 : (Jvm.Cond.selects "SumsThatDiffer$Heights" ({ cls := "SumsThatDiffer$Heights", name := "hangTogether", desc := "(II)Z" } : Jvm.MethodName) ({ cls := "SumsThatDiffer$Heights", name := "hangTogether", desc := "(II)Z" } : Jvm.MethodName)) ∈ TB := tb_in 930 (by decide +kernel) rfl
theorem tw_931 : (Jvm.Cond.code ({ cls := "SumsThatDiffer$Heights", name := "hangTogether", desc := "(II)Z" } : Jvm.MethodName) prog_4_method_4_code (3 : Nat) (Option.some Jvm.ClassFile.FieldType.boolean)) ∈ TB := tb_in 931 (by decide +kernel) rfl
theorem tw_936 : (Jvm.Cond.methodLink "SumsThatDiffer" (242 : Nat) ({ cls := "SumsThatDiffer", name := "isSum", desc := "(I)Z" } : Jvm.MethodName)) ∈ TB := tb_in 936 (by decide +kernel) rfl
theorem tw_937 : (Jvm.Cond.static ({ cls := "SumsThatDiffer", name := "isSum", desc := "(I)Z" } : Jvm.MethodName)) ∈ TB := tb_in 937 (by decide +kernel) rfl
theorem tw_938 : (Jvm.Cond.code ({ cls := "SumsThatDiffer", name := "isSum", desc := "(I)Z" } : Jvm.MethodName) prog_1_method_33_code (1 : Nat) (Option.some Jvm.ClassFile.FieldType.boolean)) ∈ TB := tb_in 938 (by decide +kernel) rfl
theorem tw_939 : (Jvm.Cond.methodLink "SumsThatDiffer" (245 : Nat) ({ cls := "SumsThatDiffer$County", name := "leadsOn", desc := "(II)Z" } : Jvm.MethodName)) ∈ TB := tb_in 939 (by decide +kernel) rfl
theorem tw_940 : (Jvm.Cond.methodLink "SumsThatDiffer" (248 : Nat) ({ cls := "SumsThatDiffer$County", name := "otherEnd", desc := "(II)I" } : Jvm.MethodName)) ∈ TB := tb_in 940 (by decide +kernel) rfl
theorem tw_941 : (Jvm.Cond.methodLink "SumsThatDiffer" (252 : Nat) ({ cls := "SumsThatDiffer$Told", name := "add", desc := "(IIIII)Z" } : Jvm.MethodName)) ∈ TB := tb_in 941 (by decide +kernel) rfl
theorem tw_942 : (Jvm.Cond.instanceMethod ({ cls := "SumsThatDiffer$Told", name := "add", desc := "(IIIII)Z" } : Jvm.MethodName)) ∈ TB := tb_in 942 (by decide +kernel) rfl
theorem tw_943 : (Jvm.Cond.selects "SumsThatDiffer$Told" ({ cls := "SumsThatDiffer$Told", name := "add", desc := "(IIIII)Z" } : Jvm.MethodName) ({ cls := "SumsThatDiffer$Told", name := "add", desc := "(IIIII)Z" } : Jvm.MethodName)) ∈ TB := tb_in 943 (by decide +kernel) rfl
theorem tw_944 : (Jvm.Cond.code ({ cls := "SumsThatDiffer$Told", name := "add", desc := "(IIIII)Z" } : Jvm.MethodName) prog_10_method_4_code (6 : Nat) (Option.some Jvm.ClassFile.FieldType.boolean)) ∈ TB := tb_in 944 (by decide +kernel) rfl
theorem tw_945 : (Jvm.Cond.methodLink "SumsThatDiffer" (256 : Nat) ({ cls := "SumsThatDiffer$Told", name := "size", desc := "()I" } : Jvm.MethodName)) ∈ TB := tb_in 945 (by decide +kernel) rfl
theorem tw_946 : (Jvm.Cond.instanceMethod ({ cls := "SumsThatDiffer$Told", name := "size", desc := "()I" } : Jvm.MethodName)) ∈ TB := tb_in 946 (by decide +kernel) rfl
theorem tw_947 : (Jvm.Cond.selects "SumsThatDiffer$Told" ({ cls := "SumsThatDiffer$Told", name := "size", desc := "()I" } : Jvm.MethodName) ({ cls := "SumsThatDiffer$Told", name := "size", desc := "()I" } : Jvm.MethodName)) ∈ TB := tb_in 947 (by decide +kernel) rfl
theorem tw_948 : (Jvm.Cond.code ({ cls := "SumsThatDiffer$Told", name := "size", desc := "()I" } : Jvm.MethodName) prog_10_method_2_code (1 : Nat) (Option.some Jvm.ClassFile.FieldType.int)) ∈ TB := tb_in 948 (by decide +kernel) rfl
theorem tw_957 : (Jvm.Cond.methodLink "SumsThatDiffer" (258 : Nat) ({ cls := "SumsThatDiffer$Told", name := "wrongRoads", desc := "()I" } : Jvm.MethodName)) ∈ TB := tb_in 957 (by decide +kernel) rfl
theorem tw_958 : (Jvm.Cond.instanceMethod ({ cls := "SumsThatDiffer$Told", name := "wrongRoads", desc := "()I" } : Jvm.MethodName)) ∈ TB := tb_in 958 (by decide +kernel) rfl
theorem tw_959 : (Jvm.Cond.selects "SumsThatDiffer$Told" ({ cls := "SumsThatDiffer$Told", name := "wrongRoads", desc := "()I" } : Jvm.MethodName) ({ cls := "SumsThatDiffer$Told", name := "wrongRoads", desc := "()I" } : Jvm.MethodName)) ∈ TB := tb_in 959 (by decide +kernel) rfl
theorem tw_960 : (Jvm.Cond.code ({ cls := "SumsThatDiffer$Told", name := "wrongRoads", desc := "()I" } : Jvm.MethodName) prog_10_method_5_code (3 : Nat) (Option.some Jvm.ClassFile.FieldType.int)) ∈ TB := tb_in 960 (by decide +kernel) rfl
theorem tw_961 : (Jvm.Cond.methodLink "SumsThatDiffer$Told" (51 : Nat) ({ cls := "SumsThatDiffer$County", name := "roads", desc := "()I" } : Jvm.MethodName)) ∈ TB := tb_in 961 (by decide +kernel) rfl
theorem tw_962 : (Jvm.Cond.methodLink "SumsThatDiffer$Told" (57 : Nat) ({ cls := "SumsThatDiffer$Told", name := "suppose", desc := "(I)Z" } : Jvm.MethodName)) ∈ TB := tb_in 962 (by decide +kernel) rfl
theorem tw_964 : (Jvm.Cond.instanceMethod ({ cls := "SumsThatDiffer$Told", name := "suppose", desc := "(I)Z" } : Jvm.MethodName)) ∈ TB := tb_in 964 (by decide +kernel) rfl
theorem tw_965 : (Jvm.Cond.code ({ cls := "SumsThatDiffer$Told", name := "suppose", desc := "(I)Z" } : Jvm.MethodName) prog_10_method_8_code (6 : Nat) (Option.some Jvm.ClassFile.FieldType.boolean)) ∈ TB := tb_in 965 (by decide +kernel) rfl
theorem tw_966 : (Jvm.Cond.methodLink "SumsThatDiffer$Told" (104 : Nat) ({ cls := "SumsThatDiffer$Told", name := "sortByWays", desc := "(I)V" } : Jvm.MethodName)) ∈ TB := tb_in 966 (by decide +kernel) rfl
theorem tw_968 : (Jvm.Cond.instanceMethod ({ cls := "SumsThatDiffer$Told", name := "sortByWays", desc := "(I)V" } : Jvm.MethodName)) ∈ TB := tb_in 968 (by decide +kernel) rfl
theorem tw_969 : (Jvm.Cond.code ({ cls := "SumsThatDiffer$Told", name := "sortByWays", desc := "(I)V" } : Jvm.MethodName) prog_10_method_9_code (4 : Nat) (Option.none : Option Jvm.ClassFile.FieldType)) ∈ TB := tb_in 969 (by decide +kernel) rfl
theorem tw_970 : (Jvm.Cond.methodLink "SumsThatDiffer$Told" (117 : Nat) ({ cls := "SumsThatDiffer$County", name := "otherEnd", desc := "(II)I" } : Jvm.MethodName)) ∈ TB := tb_in 970 (by decide +kernel) rfl
theorem tw_971 : (Jvm.Cond.methodLink "SumsThatDiffer$Told" (120 : Nat) ({ cls := "SumsThatDiffer$Told", name := "wayOver", desc := "(III)I" } : Jvm.MethodName)) ∈ TB := tb_in 971 (by decide +kernel) rfl
theorem tw_973 : (Jvm.Cond.instanceMethod ({ cls := "SumsThatDiffer$Told", name := "wayOver", desc := "(III)I" } : Jvm.MethodName)) ∈ TB := tb_in 973 (by decide +kernel) rfl
theorem tw_974 : (Jvm.Cond.code ({ cls := "SumsThatDiffer$Told", name := "wayOver", desc := "(III)I" } : Jvm.MethodName) prog_10_method_10_code (4 : Nat) (Option.some Jvm.ClassFile.FieldType.int)) ∈ TB := tb_in 974 (by decide +kernel) rfl
theorem tw_975 : (Jvm.Cond.methodLink "SumsThatDiffer$Told" (87 : Nat) ({ cls := "SumsThatDiffer$County", name := "startOf", desc := "(I)I" } : Jvm.MethodName)) ∈ TB := tb_in 975 (by decide +kernel) rfl
theorem tw_976 : (Jvm.Cond.methodLink "SumsThatDiffer$Told" (108 : Nat) ({ cls := "SumsThatDiffer$Told", name := "hold", desc := "(I)Z" } : Jvm.MethodName)) ∈ TB := tb_in 976 (by decide +kernel) rfl
theorem tw_978 : (Jvm.Cond.instanceMethod ({ cls := "SumsThatDiffer$Told", name := "hold", desc := "(I)Z" } : Jvm.MethodName)) ∈ TB := tb_in 978 (by decide +kernel) rfl
theorem tw_979 : (Jvm.Cond.code ({ cls := "SumsThatDiffer$Told", name := "hold", desc := "(I)Z" } : Jvm.MethodName) prog_10_method_11_code (4 : Nat) (Option.some Jvm.ClassFile.FieldType.boolean)) ∈ TB := tb_in 979 (by decide +kernel) rfl
theorem tw_980 : (Jvm.Cond.methodLink "SumsThatDiffer$Told" (123 : Nat) ({ cls := "SumsThatDiffer$Told", name := "supposedSum", desc := "(III)I" } : Jvm.MethodName)) ∈ TB := tb_in 980 (by decide +kernel) rfl
theorem tw_982 : (Jvm.Cond.instanceMethod ({ cls := "SumsThatDiffer$Told", name := "supposedSum", desc := "(III)I" } : Jvm.MethodName)) ∈ TB := tb_in 982 (by decide +kernel) rfl
theorem tw_983 : (Jvm.Cond.code ({ cls := "SumsThatDiffer$Told", name := "supposedSum", desc := "(III)I" } : Jvm.MethodName) prog_10_method_12_code (5 : Nat) (Option.some Jvm.ClassFile.FieldType.int)) ∈ TB := tb_in 983 (by decide +kernel) rfl
theorem tw_984 : (Jvm.Cond.methodLink "SumsThatDiffer$Told" (91 : Nat) ({ cls := "SumsThatDiffer$County", name := "figureFrom", desc := "(II)I" } : Jvm.MethodName)) ∈ TB := tb_in 984 (by decide +kernel) rfl
theorem tw_985 : (Jvm.Cond.methodLink "SumsThatDiffer$Told" (97 : Nat) ({ cls := "SumsThatDiffer$County", name := "sumBy", desc := "(III)I" } : Jvm.MethodName)) ∈ TB := tb_in 985 (by decide +kernel) rfl
theorem tw_990 : (Jvm.Cond.methodLink "SumsThatDiffer" (261 : Nat) ({ cls := "SumsThatDiffer$Told", name := "findWalk", desc := "()Z" } : Jvm.MethodName)) ∈ TB := tb_in 990 (by decide +kernel) rfl
theorem tw_991 : (Jvm.Cond.instanceMethod ({ cls := "SumsThatDiffer$Told", name := "findWalk", desc := "()Z" } : Jvm.MethodName)) ∈ TB := tb_in 991 (by decide +kernel) rfl
theorem tw_992 : (Jvm.Cond.selects "SumsThatDiffer$Told" ({ cls := "SumsThatDiffer$Told", name := "findWalk", desc := "()Z" } : Jvm.MethodName) ({ cls := "SumsThatDiffer$Told", name := "findWalk", desc := "()Z" } : Jvm.MethodName)) ∈ TB := tb_in 992 (by decide +kernel) rfl
theorem tw_993 : (Jvm.Cond.code ({ cls := "SumsThatDiffer$Told", name := "findWalk", desc := "()Z" } : Jvm.MethodName) prog_10_method_6_code (4 : Nat) (Option.some Jvm.ClassFile.FieldType.boolean)) ∈ TB := tb_in 993 (by decide +kernel) rfl
theorem tw_994 : (Jvm.Cond.methodLink "SumsThatDiffer$Told" (61 : Nat) ({ cls := "SumsThatDiffer$Told", name := "wrongRoads", desc := "()I" } : Jvm.MethodName)) ∈ TB := tb_in 994 (by decide +kernel) rfl
theorem tw_995 : (Jvm.Cond.methodLink "SumsThatDiffer$Told" (76 : Nat) ({ cls := "SumsThatDiffer$County", name := "canBeCrossed", desc := "(II)Z" } : Jvm.MethodName)) ∈ TB := tb_in 995 (by decide +kernel) rfl
theorem tw_996 : (Jvm.Cond.methodLink "SumsThatDiffer$Told" (80 : Nat) ({ cls := "SumsThatDiffer$Told", name := "unlikeSums", desc := "(II)I" } : Jvm.MethodName)) ∈ TB := tb_in 996 (by decide +kernel) rfl
theorem tw_998 : (Jvm.Cond.instanceMethod ({ cls := "SumsThatDiffer$Told", name := "unlikeSums", desc := "(II)I" } : Jvm.MethodName)) ∈ TB := tb_in 998 (by decide +kernel) rfl
theorem tw_999 : (Jvm.Cond.code ({ cls := "SumsThatDiffer$Told", name := "unlikeSums", desc := "(II)I" } : Jvm.MethodName) prog_10_method_7_code (12 : Nat) (Option.some Jvm.ClassFile.FieldType.int)) ∈ TB := tb_in 999 (by decide +kernel) rfl
theorem tw_1008 : (Jvm.Cond.methodLink "SumsThatDiffer" (273 : Nat) ({ cls := "SumsThatDiffer$Weather", name := "findChance", desc := "(III)V" } : Jvm.MethodName)) ∈ TB := tb_in 1008 (by decide +kernel) rfl
theorem tw_1009 : (Jvm.Cond.instanceMethod ({ cls := "SumsThatDiffer$Weather", name := "findChance", desc := "(III)V" } : Jvm.MethodName)) ∈ TB := tb_in 1009 (by decide +kernel) rfl
theorem tw_1010 : (Jvm.Cond.selects "SumsThatDiffer$Weather" ({ cls := "SumsThatDiffer$Weather", name := "findChance", desc := "(III)V" } : Jvm.MethodName) ({ cls := "SumsThatDiffer$Weather", name := "findChance", desc := "(III)V" } : Jvm.MethodName)) ∈ TB := tb_in 1010 (by decide +kernel) rfl
theorem tw_1011 : (Jvm.Cond.code ({ cls := "SumsThatDiffer$Weather", name := "findChance", desc := "(III)V" } : Jvm.MethodName) prog_12_method_2_code (7 : Nat) (Option.none : Option Jvm.ClassFile.FieldType)) ∈ TB := tb_in 1011 (by decide +kernel) rfl
theorem tw_1012 : (Jvm.Cond.methodLink "SumsThatDiffer$Weather" (19 : Nat) ({ cls := "SumsThatDiffer$County", name := "bitsNotShut", desc := "()I" } : Jvm.MethodName)) ∈ TB := tb_in 1012 (by decide +kernel) rfl
theorem tw_1013 : (Jvm.Cond.methodLink "SumsThatDiffer$Weather" (25 : Nat) ({ cls := "java/lang/Integer", name := "bitCount", desc := "(I)I" } : Jvm.MethodName)) ∈ TB := tb_in 1013 (by decide +kernel) rfl
theorem tw_1014 : (Jvm.Cond.methodLink "SumsThatDiffer$Weather" (31 : Nat) ({ cls := "SumsThatDiffer$Weather", name := "countSets", desc := "(III)V" } : Jvm.MethodName)) ∈ TB := tb_in 1014 (by decide +kernel) rfl
theorem tw_1016 : (Jvm.Cond.instanceMethod ({ cls := "SumsThatDiffer$Weather", name := "countSets", desc := "(III)V" } : Jvm.MethodName)) ∈ TB := tb_in 1016 (by decide +kernel) rfl
theorem tw_1017 : (Jvm.Cond.code ({ cls := "SumsThatDiffer$Weather", name := "countSets", desc := "(III)V" } : Jvm.MethodName) prog_12_method_3_code (6 : Nat) (Option.none : Option Jvm.ClassFile.FieldType)) ∈ TB := tb_in 1017 (by decide +kernel) rfl
theorem tw_1018 : (Jvm.Cond.methodLink "SumsThatDiffer$Weather" (49 : Nat) ({ cls := "java/util/Arrays", name := "fill", desc := "([II)V" } : Jvm.MethodName)) ∈ TB := tb_in 1018 (by decide +kernel) rfl
theorem tw_1019 : (Jvm.Cond.methodLink "SumsThatDiffer$Weather" (55 : Nat) ({ cls := "SumsThatDiffer$Weather", name := "leads", desc := "(III)Z" } : Jvm.MethodName)) ∈ TB := tb_in 1019 (by decide +kernel) rfl
theorem tw_1021 : (Jvm.Cond.instanceMethod ({ cls := "SumsThatDiffer$Weather", name := "leads", desc := "(III)Z" } : Jvm.MethodName)) ∈ TB := tb_in 1021 (by decide +kernel) rfl
theorem tw_1022 : (Jvm.Cond.code ({ cls := "SumsThatDiffer$Weather", name := "leads", desc := "(III)Z" } : Jvm.MethodName) prog_12_method_4_code (9 : Nat) (Option.some Jvm.ClassFile.FieldType.boolean)) ∈ TB := tb_in 1022 (by decide +kernel) rfl
theorem tw_1023 : (Jvm.Cond.methodLink "SumsThatDiffer$Weather" (59 : Nat) ({ cls := "SumsThatDiffer$County", name := "roads", desc := "()I" } : Jvm.MethodName)) ∈ TB := tb_in 1023 (by decide +kernel) rfl
theorem tw_1024 : (Jvm.Cond.methodLink "SumsThatDiffer$Weather" (62 : Nat) ({ cls := "SumsThatDiffer$County", name := "startOf", desc := "(I)I" } : Jvm.MethodName)) ∈ TB := tb_in 1024 (by decide +kernel) rfl
theorem tw_1025 : (Jvm.Cond.methodLink "SumsThatDiffer$Weather" (65 : Nat) ({ cls := "SumsThatDiffer$County", name := "endOf", desc := "(I)I" } : Jvm.MethodName)) ∈ TB := tb_in 1025 (by decide +kernel) rfl
theorem tw_1026 : (Jvm.Cond.methodLink "SumsThatDiffer$Weather" (39 : Nat) ({ cls := "SumsThatDiffer$Weather", name := "power", desc := "(II)J" } : Jvm.MethodName)) ∈ TB := tb_in 1026 (by decide +kernel) rfl
theorem tw_1027 : (Jvm.Cond.static ({ cls := "SumsThatDiffer$Weather", name := "power", desc := "(II)J" } : Jvm.MethodName)) ∈ TB := tb_in 1027 (by decide +kernel) rfl
theorem tw_1028 : (Jvm.Cond.code ({ cls := "SumsThatDiffer$Weather", name := "power", desc := "(II)J" } : Jvm.MethodName) prog_12_method_5_code (5 : Nat) (Option.some Jvm.ClassFile.FieldType.long)) ∈ TB := tb_in 1028 (by decide +kernel) rfl
theorem tw_1029 : (Jvm.Cond.methodLink "SumsThatDiffer$Weather" (46 : Nat) ({ cls := "SumsThatDiffer$Weather", name := "lowestTerms", desc := "()V" } : Jvm.MethodName)) ∈ TB := tb_in 1029 (by decide +kernel) rfl
theorem tw_1031 : (Jvm.Cond.instanceMethod ({ cls := "SumsThatDiffer$Weather", name := "lowestTerms", desc := "()V" } : Jvm.MethodName)) ∈ TB := tb_in 1031 (by decide +kernel) rfl
theorem tw_1032 : (Jvm.Cond.code ({ cls := "SumsThatDiffer$Weather", name := "lowestTerms", desc := "()V" } : Jvm.MethodName) prog_12_method_6_code (8 : Nat) (Option.none : Option Jvm.ClassFile.FieldType)) ∈ TB := tb_in 1032 (by decide +kernel) rfl
theorem tw_1037 : (Jvm.Cond.methodLink "SumsThatDiffer" (284 : Nat) ({ cls := "SumsThatDiffer$Walker", name := "followDraws", desc := "(II)V" } : Jvm.MethodName)) ∈ TB := tb_in 1037 (by decide +kernel) rfl
theorem tw_1038 : (Jvm.Cond.instanceMethod ({ cls := "SumsThatDiffer$Walker", name := "followDraws", desc := "(II)V" } : Jvm.MethodName)) ∈ TB := tb_in 1038 (by decide +kernel) rfl
theorem tw_1039 : (Jvm.Cond.selects "SumsThatDiffer$Walker" ({ cls := "SumsThatDiffer$Walker", name := "followDraws", desc := "(II)V" } : Jvm.MethodName) ({ cls := "SumsThatDiffer$Walker", name := "followDraws", desc := "(II)V" } : Jvm.MethodName)) ∈ TB := tb_in 1039 (by decide +kernel) rfl
theorem tw_1040 : (Jvm.Cond.code ({ cls := "SumsThatDiffer$Walker", name := "followDraws", desc := "(II)V" } : Jvm.MethodName) prog_11_method_5_code (5 : Nat) (Option.none : Option Jvm.ClassFile.FieldType)) ∈ TB := tb_in 1040 (by decide +kernel) rfl
theorem tw_1041 : (Jvm.Cond.methodLink "SumsThatDiffer$Walker" (66 : Nat) ({ cls := "SumsThatDiffer$County", name := "roads", desc := "()I" } : Jvm.MethodName)) ∈ TB := tb_in 1041 (by decide +kernel) rfl
theorem tw_1042 : (Jvm.Cond.methodLink "SumsThatDiffer$Walker" (69 : Nat) ({ cls := "SumsThatDiffer$Walker", name := "draw", desc := "(II)I" } : Jvm.MethodName)) ∈ TB := tb_in 1042 (by decide +kernel) rfl
theorem tw_1043 : (Jvm.Cond.static ({ cls := "SumsThatDiffer$Walker", name := "draw", desc := "(II)I" } : Jvm.MethodName)) ∈ TB := tb_in 1043 (by decide +kernel) rfl
theorem tw_1044 : (Jvm.Cond.code ({ cls := "SumsThatDiffer$Walker", name := "draw", desc := "(II)I" } : Jvm.MethodName) prog_11_method_6_code (4 : Nat) (Option.some Jvm.ClassFile.FieldType.int)) ∈ TB := tb_in 1044 (by decide +kernel) rfl
theorem tw_1045 : (Jvm.Cond.constantLong "SumsThatDiffer$Walker" (72 : Nat) (7919 : Int64)) ∈ TB := tb_in 1045 (by decide +kernel) rfl
theorem tw_1046 : (Jvm.Cond.constantLong "SumsThatDiffer$Walker" (74 : Nat) (6151 : Int64)) ∈ TB := tb_in 1046 (by decide +kernel) rfl
theorem tw_1047 : (Jvm.Cond.constantLong "SumsThatDiffer$Walker" (76 : Nat) (65521 : Int64)) ∈ TB := tb_in 1047 (by decide +kernel) rfl
theorem tw_1048 : (Jvm.Cond.constantLong "SumsThatDiffer$Walker" (78 : Nat) (8 : Int64)) ∈ TB := tb_in 1048 (by decide +kernel) rfl
theorem tw_1053 : (Jvm.Cond.methodLink "SumsThatDiffer" (291 : Nat) ({ cls := "SumsThatDiffer$Pile", name := "isFull", desc := "()Z" } : Jvm.MethodName)) ∈ TB := tb_in 1053 (by decide +kernel) rfl
theorem tw_1062 : (Jvm.Cond.methodLink "SumsThatDiffer" (295 : Nat) ({ cls := "SumsThatDiffer$County", name := "places", desc := "()I" } : Jvm.MethodName)) ∈ TB := tb_in 1062 (by decide +kernel) rfl
theorem tw_1068 : (Jvm.Cond.methodLink "SumsThatDifferModel" (1 : Nat) ({ cls := "java/lang/Object", name := "<init>", desc := "()V" } : Jvm.MethodName)) ∈ TB := tb_in 1068 (by decide +kernel) rfl
theorem tw_1069 : (Jvm.Cond.methodLink "SumsThatDifferModel" (68 : Nat) ({ cls := "SumsThatDifferModel", name := "clean", desc := "()V" } : Jvm.MethodName)) ∈ TB := tb_in 1069 (by decide +kernel) rfl
theorem tw_1071 : (Jvm.Cond.instanceMethod ({ cls := "SumsThatDifferModel", name := "clean", desc := "()V" } : Jvm.MethodName)) ∈ TB := tb_in 1071 (by decide +kernel) rfl
theorem tw_1072 : (Jvm.Cond.code ({ cls := "SumsThatDifferModel", name := "clean", desc := "()V" } : Jvm.MethodName) prog_14_method_9_code (2 : Nat) (Option.none : Option Jvm.ClassFile.FieldType)) ∈ TB := tb_in 1072 (by decide +kernel) rfl
theorem tw_1073 : (Jvm.Cond.methodLink "SumsThatDifferModel" (71 : Nat) ({ cls := "SumsThatDifferModel", name := "comes", desc := "(IIIII)V" } : Jvm.MethodName)) ∈ TB := tb_in 1073 (by decide +kernel) rfl
theorem tw_1075 : (Jvm.Cond.instanceMethod ({ cls := "SumsThatDifferModel", name := "comes", desc := "(IIIII)V" } : Jvm.MethodName)) ∈ TB := tb_in 1075 (by decide +kernel) rfl
theorem tw_1076 : (Jvm.Cond.code ({ cls := "SumsThatDifferModel", name := "comes", desc := "(IIIII)V" } : Jvm.MethodName) prog_14_method_10_code (7 : Nat) (Option.none : Option Jvm.ClassFile.FieldType)) ∈ TB := tb_in 1076 (by decide +kernel) rfl
theorem tw_1077 : (Jvm.Cond.methodLink "SumsThatDifferModel" (75 : Nat) ({ cls := "SumsThatDifferModel", name := "begins", desc := "()V" } : Jvm.MethodName)) ∈ TB := tb_in 1077 (by decide +kernel) rfl
theorem tw_1079 : (Jvm.Cond.instanceMethod ({ cls := "SumsThatDifferModel", name := "begins", desc := "()V" } : Jvm.MethodName)) ∈ TB := tb_in 1079 (by decide +kernel) rfl
theorem tw_1080 : (Jvm.Cond.code ({ cls := "SumsThatDifferModel", name := "begins", desc := "()V" } : Jvm.MethodName) prog_14_method_19_code (2 : Nat) (Option.none : Option Jvm.ClassFile.FieldType)) ∈ TB := tb_in 1080 (by decide +kernel) rfl
theorem tw_1081 : (Jvm.Cond.fieldLink "SumsThatDifferModel" (7 : Nat) "SumsThatDifferModel" "county" "[I") ∈ TB := tb_in 1081 (by decide +kernel) rfl
theorem tw_1082 : (Jvm.Cond.fieldLink "SumsThatDifferModel" (13 : Nat) "SumsThatDifferModel" "read" "[I") ∈ TB := tb_in 1082 (by decide +kernel) rfl
theorem tw_1083 : (Jvm.Cond.fieldLink "SumsThatDifferModel" (16 : Nat) "SumsThatDifferModel" "now" "[I") ∈ TB := tb_in 1083 (by decide +kernel) rfl
theorem tw_1084 : (Jvm.Cond.fieldLink "SumsThatDifferModel" (19 : Nat) "SumsThatDifferModel" "past" "[I") ∈ TB := tb_in 1084 (by decide +kernel) rfl
theorem tw_1085 : (Jvm.Cond.fieldLink "SumsThatDifferModel" (129 : Nat) "SumsThatDifferModel" "undos" "I") ∈ TB := tb_in 1085 (by decide +kernel) rfl
theorem tw_1086 : (Jvm.Cond.fieldLink "SumsThatDifferModel" (22 : Nat) "SumsThatDifferModel" "kept" "[I") ∈ TB := tb_in 1086 (by decide +kernel) rfl
theorem tw_1087 : (Jvm.Cond.fieldLink "SumsThatDifferModel" (132 : Nat) "SumsThatDifferModel" "keptMany" "I") ∈ TB := tb_in 1087 (by decide +kernel) rfl
theorem tw_1088 : (Jvm.Cond.fieldLink "SumsThatDifferModel" (25 : Nat) "SumsThatDifferModel" "text" "[I") ∈ TB := tb_in 1088 (by decide +kernel) rfl
theorem tw_1089 : (Jvm.Cond.fieldLink "SumsThatDifferModel" (86 : Nat) "SumsThatDifferModel" "size" "I") ∈ TB := tb_in 1089 (by decide +kernel) rfl
theorem tw_1090 : (Jvm.Cond.fieldLink "SumsThatDifferModel" (28 : Nat) "SumsThatDifferModel" "told" "[I") ∈ TB := tb_in 1090 (by decide +kernel) rfl
theorem tw_1091 : (Jvm.Cond.fieldLink "SumsThatDifferModel" (135 : Nat) "SumsThatDifferModel" "toldMany" "I") ∈ TB := tb_in 1091 (by decide +kernel) rfl
theorem tw_1092 : (Jvm.Cond.fieldLink "SumsThatDifferModel" (90 : Nat) "SumsThatDifferModel" "onlyN" "Z") ∈ TB := tb_in 1092 (by decide +kernel) rfl
theorem tw_1093 : (Jvm.Cond.fieldLink "SumsThatDifferModel" (94 : Nat) "SumsThatDifferModel" "at" "I") ∈ TB := tb_in 1093 (by decide +kernel) rfl
theorem tw_1094 : (Jvm.Cond.fieldLink "SumsThatDifferModel" (31 : Nat) "SumsThatDifferModel" "numbers" "[I") ∈ TB := tb_in 1094 (by decide +kernel) rfl
theorem tw_1095 : (Jvm.Cond.fieldLink "SumsThatDifferModel" (185 : Nat) "SumsThatDifferModel" "wherePlace" "I") ∈ TB := tb_in 1095 (by decide +kernel) rfl
theorem tw_1096 : (Jvm.Cond.fieldLink "SumsThatDifferModel" (188 : Nat) "SumsThatDifferModel" "whereSum" "I") ∈ TB := tb_in 1096 (by decide +kernel) rfl
theorem tw_1097 : (Jvm.Cond.fieldLink "SumsThatDifferModel" (34 : Nat) "SumsThatDifferModel" "greatest" "[I") ∈ TB := tb_in 1097 (by decide +kernel) rfl
theorem tw_1098 : (Jvm.Cond.fieldLink "SumsThatDifferModel" (37 : Nat) "SumsThatDifferModel" "next" "[I") ∈ TB := tb_in 1098 (by decide +kernel) rfl
theorem tw_1099 : (Jvm.Cond.fieldLink "SumsThatDifferModel" (40 : Nat) "SumsThatDifferModel" "row" "[I") ∈ TB := tb_in 1099 (by decide +kernel) rfl
theorem tw_1100 : (Jvm.Cond.fieldLink "SumsThatDifferModel" (43 : Nat) "SumsThatDifferModel" "places" "[I") ∈ TB := tb_in 1100 (by decide +kernel) rfl
theorem tw_1101 : (Jvm.Cond.fieldLink "SumsThatDifferModel" (46 : Nat) "SumsThatDifferModel" "sums" "[I") ∈ TB := tb_in 1101 (by decide +kernel) rfl
theorem tw_1102 : (Jvm.Cond.fieldLink "SumsThatDifferModel" (49 : Nat) "SumsThatDifferModel" "best" "[I") ∈ TB := tb_in 1102 (by decide +kernel) rfl
theorem tw_1103 : (Jvm.Cond.fieldLink "SumsThatDifferModel" (199 : Nat) "SumsThatDifferModel" "bestLong" "I") ∈ TB := tb_in 1103 (by decide +kernel) rfl
theorem tw_1104 : (Jvm.Cond.fieldLink "SumsThatDifferModel" (196 : Nat) "SumsThatDifferModel" "bestSum" "I") ∈ TB := tb_in 1104 (by decide +kernel) rfl
theorem tw_1105 : (Jvm.Cond.fieldLink "SumsThatDifferModel" (52 : Nat) "SumsThatDifferModel" "heights" "[I") ∈ TB := tb_in 1105 (by decide +kernel) rfl
theorem tw_1106 : (Jvm.Cond.fieldLink "SumsThatDifferModel" (55 : Nat) "SumsThatDifferModel" "group" "[I") ∈ TB := tb_in 1106 (by decide +kernel) rfl
theorem tw_1107 : (Jvm.Cond.fieldLink "SumsThatDifferModel" (58 : Nat) "SumsThatDifferModel" "marks" "[Z") ∈ TB := tb_in 1107 (by decide +kernel) rfl
theorem tw_1108 : (Jvm.Cond.fieldLink "SumsThatDifferModel" (62 : Nat) "SumsThatDifferModel" "marksNext" "[Z") ∈ TB := tb_in 1108 (by decide +kernel) rfl
theorem tw_1109 : (Jvm.Cond.fieldLink "SumsThatDifferModel" (65 : Nat) "SumsThatDifferModel" "seen" "[Z") ∈ TB := tb_in 1109 (by decide +kernel) rfl
theorem tw_1110 : (Jvm.Cond.laysFinal "SumsThatDifferModel" "SumsThatDifferModel" "county" "[I") ∈ TB := tb_in 1110 (by decide +kernel) rfl
theorem tw_1112 : (Jvm.Cond.laysFinal "SumsThatDifferModel" "SumsThatDifferModel" "read" "[I") ∈ TB := tb_in 1112 (by decide +kernel) rfl
theorem tw_1114 : (Jvm.Cond.laysFinal "SumsThatDifferModel" "SumsThatDifferModel" "now" "[I") ∈ TB := tb_in 1114 (by decide +kernel) rfl
theorem tw_1116 : (Jvm.Cond.laysFinal "SumsThatDifferModel" "SumsThatDifferModel" "past" "[I") ∈ TB := tb_in 1116 (by decide +kernel) rfl
theorem tw_1118 : (Jvm.Cond.lays "SumsThatDifferModel" "SumsThatDifferModel" "undos" "I") ∈ TB := tb_in 1118 (by decide +kernel) rfl
theorem tw_1120 : (Jvm.Cond.laysFinal "SumsThatDifferModel" "SumsThatDifferModel" "kept" "[I") ∈ TB := tb_in 1120 (by decide +kernel) rfl
theorem tw_1122 : (Jvm.Cond.lays "SumsThatDifferModel" "SumsThatDifferModel" "keptMany" "I") ∈ TB := tb_in 1122 (by decide +kernel) rfl
theorem tw_1124 : (Jvm.Cond.laysFinal "SumsThatDifferModel" "SumsThatDifferModel" "text" "[I") ∈ TB := tb_in 1124 (by decide +kernel) rfl
theorem tw_1126 : (Jvm.Cond.lays "SumsThatDifferModel" "SumsThatDifferModel" "size" "I") ∈ TB := tb_in 1126 (by decide +kernel) rfl
theorem tw_1128 : (Jvm.Cond.laysFinal "SumsThatDifferModel" "SumsThatDifferModel" "told" "[I") ∈ TB := tb_in 1128 (by decide +kernel) rfl
theorem tw_1130 : (Jvm.Cond.lays "SumsThatDifferModel" "SumsThatDifferModel" "toldMany" "I") ∈ TB := tb_in 1130 (by decide +kernel) rfl
theorem tw_1132 : (Jvm.Cond.lays "SumsThatDifferModel" "SumsThatDifferModel" "onlyN" "Z") ∈ TB := tb_in 1132 (by decide +kernel) rfl
theorem tw_1134 : (Jvm.Cond.lays "SumsThatDifferModel" "SumsThatDifferModel" "at" "I") ∈ TB := tb_in 1134 (by decide +kernel) rfl
theorem tw_1136 : (Jvm.Cond.laysFinal "SumsThatDifferModel" "SumsThatDifferModel" "numbers" "[I") ∈ TB := tb_in 1136 (by decide +kernel) rfl
theorem tw_1138 : (Jvm.Cond.lays "SumsThatDifferModel" "SumsThatDifferModel" "wherePlace" "I") ∈ TB := tb_in 1138 (by decide +kernel) rfl
theorem tw_1140 : (Jvm.Cond.lays "SumsThatDifferModel" "SumsThatDifferModel" "whereSum" "I") ∈ TB := tb_in 1140 (by decide +kernel) rfl
theorem tw_1142 : (Jvm.Cond.laysFinal "SumsThatDifferModel" "SumsThatDifferModel" "greatest" "[I") ∈ TB := tb_in 1142 (by decide +kernel) rfl
theorem tw_1144 : (Jvm.Cond.laysFinal "SumsThatDifferModel" "SumsThatDifferModel" "next" "[I") ∈ TB := tb_in 1144 (by decide +kernel) rfl
theorem tw_1146 : (Jvm.Cond.laysFinal "SumsThatDifferModel" "SumsThatDifferModel" "row" "[I") ∈ TB := tb_in 1146 (by decide +kernel) rfl
theorem tw_1148 : (Jvm.Cond.laysFinal "SumsThatDifferModel" "SumsThatDifferModel" "places" "[I") ∈ TB := tb_in 1148 (by decide +kernel) rfl
theorem tw_1150 : (Jvm.Cond.laysFinal "SumsThatDifferModel" "SumsThatDifferModel" "sums" "[I") ∈ TB := tb_in 1150 (by decide +kernel) rfl
theorem tw_1152 : (Jvm.Cond.laysFinal "SumsThatDifferModel" "SumsThatDifferModel" "best" "[I") ∈ TB := tb_in 1152 (by decide +kernel) rfl
theorem tw_1154 : (Jvm.Cond.lays "SumsThatDifferModel" "SumsThatDifferModel" "bestLong" "I") ∈ TB := tb_in 1154 (by decide +kernel) rfl
theorem tw_1156 : (Jvm.Cond.lays "SumsThatDifferModel" "SumsThatDifferModel" "bestSum" "I") ∈ TB := tb_in 1156 (by decide +kernel) rfl
theorem tw_1158 : (Jvm.Cond.laysFinal "SumsThatDifferModel" "SumsThatDifferModel" "heights" "[I") ∈ TB := tb_in 1158 (by decide +kernel) rfl
theorem tw_1160 : (Jvm.Cond.laysFinal "SumsThatDifferModel" "SumsThatDifferModel" "group" "[I") ∈ TB := tb_in 1160 (by decide +kernel) rfl
theorem tw_1162 : (Jvm.Cond.laysFinal "SumsThatDifferModel" "SumsThatDifferModel" "marks" "[Z") ∈ TB := tb_in 1162 (by decide +kernel) rfl
theorem tw_1164 : (Jvm.Cond.laysFinal "SumsThatDifferModel" "SumsThatDifferModel" "marksNext" "[Z") ∈ TB := tb_in 1164 (by decide +kernel) rfl
theorem tw_1166 : (Jvm.Cond.laysFinal "SumsThatDifferModel" "SumsThatDifferModel" "seen" "[Z") ∈ TB := tb_in 1166 (by decide +kernel) rfl
theorem tw_1173 : (Jvm.Cond.constantLong "SumsThatDifferModel" (82 : Nat) (32 : Int64)) ∈ TB := tb_in 1173 (by decide +kernel) rfl
theorem tw_1174 : (Jvm.Cond.constantLong "SumsThatDifferModel" (84 : Nat) (126 : Int64)) ∈ TB := tb_in 1174 (by decide +kernel) rfl
theorem tw_1175 : (Jvm.Cond.methodLink "SumsThatDifferModel" (78 : Nat) ({ cls := "SumsThatDifferModel", name := "in", desc := "(JJJ)Z" } : Jvm.MethodName)) ∈ TB := tb_in 1175 (by decide +kernel) rfl
theorem tw_1176 : (Jvm.Cond.static ({ cls := "SumsThatDifferModel", name := "in", desc := "(JJJ)Z" } : Jvm.MethodName)) ∈ TB := tb_in 1176 (by decide +kernel) rfl
theorem tw_1177 : (Jvm.Cond.code ({ cls := "SumsThatDifferModel", name := "in", desc := "(JJJ)Z" } : Jvm.MethodName) prog_14_method_3_code (6 : Nat) (Option.some Jvm.ClassFile.FieldType.boolean)) ∈ TB := tb_in 1177 (by decide +kernel) rfl
theorem tw_1183 : (Jvm.Cond.instanceMethod ({ cls := "SumsThatDifferModel", name := "fault", desc := "()I" } : Jvm.MethodName)) ∈ TB := tb_in 1183 (by decide +kernel) rfl
theorem tw_1184 : (Jvm.Cond.selects "SumsThatDifferModel" ({ cls := "SumsThatDifferModel", name := "fault", desc := "()I" } : Jvm.MethodName) ({ cls := "SumsThatDifferModel", name := "fault", desc := "()I" } : Jvm.MethodName)) ∈ TB := tb_in 1184 (by decide +kernel) rfl
theorem tw_1185 : (Jvm.Cond.code ({ cls := "SumsThatDifferModel", name := "fault", desc := "()I" } : Jvm.MethodName) prog_14_method_18_code (2 : Nat) (Option.some Jvm.ClassFile.FieldType.int)) ∈ TB := tb_in 1185 (by decide +kernel) rfl
theorem tw_1186 : (Jvm.Cond.methodLink "SumsThatDifferModel" (126 : Nat) ({ cls := "SumsThatDifferModel", name := "takesItem", desc := "()Z" } : Jvm.MethodName)) ∈ TB := tb_in 1186 (by decide +kernel) rfl
theorem tw_1188 : (Jvm.Cond.instanceMethod ({ cls := "SumsThatDifferModel", name := "takesItem", desc := "()Z" } : Jvm.MethodName)) ∈ TB := tb_in 1188 (by decide +kernel) rfl
theorem tw_1189 : (Jvm.Cond.code ({ cls := "SumsThatDifferModel", name := "takesItem", desc := "()Z" } : Jvm.MethodName) prog_14_method_17_code (2 : Nat) (Option.some Jvm.ClassFile.FieldType.boolean)) ∈ TB := tb_in 1189 (by decide +kernel) rfl
theorem tw_1190 : (Jvm.Cond.methodLink "SumsThatDifferModel" (97 : Nat) ({ cls := "SumsThatDifferModel", name := "here", desc := "()I" } : Jvm.MethodName)) ∈ TB := tb_in 1190 (by decide +kernel) rfl
theorem tw_1192 : (Jvm.Cond.instanceMethod ({ cls := "SumsThatDifferModel", name := "here", desc := "()I" } : Jvm.MethodName)) ∈ TB := tb_in 1192 (by decide +kernel) rfl
theorem tw_1193 : (Jvm.Cond.code ({ cls := "SumsThatDifferModel", name := "here", desc := "()I" } : Jvm.MethodName) prog_14_method_11_code (1 : Nat) (Option.some Jvm.ClassFile.FieldType.int)) ∈ TB := tb_in 1193 (by decide +kernel) rfl
theorem tw_1194 : (Jvm.Cond.methodLink "SumsThatDifferModel" (113 : Nat) ({ cls := "SumsThatDifferModel", name := "takesPlaces", desc := "()Z" } : Jvm.MethodName)) ∈ TB := tb_in 1194 (by decide +kernel) rfl
theorem tw_1196 : (Jvm.Cond.instanceMethod ({ cls := "SumsThatDifferModel", name := "takesPlaces", desc := "()Z" } : Jvm.MethodName)) ∈ TB := tb_in 1196 (by decide +kernel) rfl
theorem tw_1197 : (Jvm.Cond.code ({ cls := "SumsThatDifferModel", name := "takesPlaces", desc := "()Z" } : Jvm.MethodName) prog_14_method_13_code (1 : Nat) (Option.some Jvm.ClassFile.FieldType.boolean)) ∈ TB := tb_in 1197 (by decide +kernel) rfl
theorem tw_1198 : (Jvm.Cond.methodLink "SumsThatDifferModel" (107 : Nat) ({ cls := "SumsThatDifferModel", name := "takes", desc := "(I)Z" } : Jvm.MethodName)) ∈ TB := tb_in 1198 (by decide +kernel) rfl
theorem tw_1200 : (Jvm.Cond.instanceMethod ({ cls := "SumsThatDifferModel", name := "takes", desc := "(I)Z" } : Jvm.MethodName)) ∈ TB := tb_in 1200 (by decide +kernel) rfl
theorem tw_1201 : (Jvm.Cond.code ({ cls := "SumsThatDifferModel", name := "takes", desc := "(I)Z" } : Jvm.MethodName) prog_14_method_12_code (5 : Nat) (Option.some Jvm.ClassFile.FieldType.boolean)) ∈ TB := tb_in 1201 (by decide +kernel) rfl
theorem tw_1202 : (Jvm.Cond.constantLong "SumsThatDifferModel" (101 : Nat) (48 : Int64)) ∈ TB := tb_in 1202 (by decide +kernel) rfl
theorem tw_1203 : (Jvm.Cond.constantLong "SumsThatDifferModel" (103 : Nat) (57 : Int64)) ∈ TB := tb_in 1203 (by decide +kernel) rfl
theorem tw_1204 : (Jvm.Cond.constantLong "SumsThatDifferModel" (105 : Nat) (2 : Int64)) ∈ TB := tb_in 1204 (by decide +kernel) rfl
theorem tw_1205 : (Jvm.Cond.constantLong "SumsThatDifferModel" (111 : Nat) (6 : Int64)) ∈ TB := tb_in 1205 (by decide +kernel) rfl
theorem tw_1206 : (Jvm.Cond.methodLink "SumsThatDifferModel" (117 : Nat) ({ cls := "SumsThatDifferModel", name := "takesRoad", desc := "()Z" } : Jvm.MethodName)) ∈ TB := tb_in 1206 (by decide +kernel) rfl
theorem tw_1208 : (Jvm.Cond.instanceMethod ({ cls := "SumsThatDifferModel", name := "takesRoad", desc := "()Z" } : Jvm.MethodName)) ∈ TB := tb_in 1208 (by decide +kernel) rfl
theorem tw_1209 : (Jvm.Cond.code ({ cls := "SumsThatDifferModel", name := "takesRoad", desc := "()Z" } : Jvm.MethodName) prog_14_method_14_code (2 : Nat) (Option.some Jvm.ClassFile.FieldType.boolean)) ∈ TB := tb_in 1209 (by decide +kernel) rfl
theorem tw_1210 : (Jvm.Cond.methodLink "SumsThatDifferModel" (120 : Nat) ({ cls := "SumsThatDifferModel", name := "takesStart", desc := "()Z" } : Jvm.MethodName)) ∈ TB := tb_in 1210 (by decide +kernel) rfl
theorem tw_1212 : (Jvm.Cond.instanceMethod ({ cls := "SumsThatDifferModel", name := "takesStart", desc := "()Z" } : Jvm.MethodName)) ∈ TB := tb_in 1212 (by decide +kernel) rfl
theorem tw_1213 : (Jvm.Cond.code ({ cls := "SumsThatDifferModel", name := "takesStart", desc := "()Z" } : Jvm.MethodName) prog_14_method_15_code (1 : Nat) (Option.some Jvm.ClassFile.FieldType.boolean)) ∈ TB := tb_in 1213 (by decide +kernel) rfl
theorem tw_1214 : (Jvm.Cond.methodLink "SumsThatDifferModel" (123 : Nat) ({ cls := "SumsThatDifferModel", name := "takesJourney", desc := "()Z" } : Jvm.MethodName)) ∈ TB := tb_in 1214 (by decide +kernel) rfl
theorem tw_1216 : (Jvm.Cond.instanceMethod ({ cls := "SumsThatDifferModel", name := "takesJourney", desc := "()Z" } : Jvm.MethodName)) ∈ TB := tb_in 1216 (by decide +kernel) rfl
theorem tw_1217 : (Jvm.Cond.code ({ cls := "SumsThatDifferModel", name := "takesJourney", desc := "()Z" } : Jvm.MethodName) prog_14_method_16_code (1 : Nat) (Option.some Jvm.ClassFile.FieldType.boolean)) ∈ TB := tb_in 1217 (by decide +kernel) rfl
theorem tw_1222 : (Jvm.Cond.methodLink "SumsThatDifferModel" (138 : Nat) ({ cls := "SumsThatDifferModel", name := "fault", desc := "()I" } : Jvm.MethodName)) ∈ TB := tb_in 1222 (by decide +kernel) rfl
theorem tw_1227 : (Jvm.Cond.methodLink "SumsThatDifferModel" (160 : Nat) ({ cls := "SumsThatDifferModel", name := "isRoad", desc := "(I)Z" } : Jvm.MethodName)) ∈ TB := tb_in 1227 (by decide +kernel) rfl
theorem tw_1229 : (Jvm.Cond.instanceMethod ({ cls := "SumsThatDifferModel", name := "isRoad", desc := "(I)Z" } : Jvm.MethodName)) ∈ TB := tb_in 1229 (by decide +kernel) rfl
theorem tw_1230 : (Jvm.Cond.code ({ cls := "SumsThatDifferModel", name := "isRoad", desc := "(I)Z" } : Jvm.MethodName) prog_14_method_22_code (2 : Nat) (Option.some Jvm.ClassFile.FieldType.boolean)) ∈ TB := tb_in 1230 (by decide +kernel) rfl
theorem tw_1231 : (Jvm.Cond.methodLink "SumsThatDifferModel" (157 : Nat) ({ cls := "SumsThatDifferModel", name := "isShut", desc := "(I)Z" } : Jvm.MethodName)) ∈ TB := tb_in 1231 (by decide +kernel) rfl
theorem tw_1233 : (Jvm.Cond.instanceMethod ({ cls := "SumsThatDifferModel", name := "isShut", desc := "(I)Z" } : Jvm.MethodName)) ∈ TB := tb_in 1233 (by decide +kernel) rfl
theorem tw_1234 : (Jvm.Cond.code ({ cls := "SumsThatDifferModel", name := "isShut", desc := "(I)Z" } : Jvm.MethodName) prog_14_method_23_code (2 : Nat) (Option.some Jvm.ClassFile.FieldType.boolean)) ∈ TB := tb_in 1234 (by decide +kernel) rfl
theorem tw_1235 : (Jvm.Cond.methodLink "SumsThatDifferModel" (141 : Nat) ({ cls := "SumsThatDifferModel", name := "has", desc := "(II)Z" } : Jvm.MethodName)) ∈ TB := tb_in 1235 (by decide +kernel) rfl
theorem tw_1236 : (Jvm.Cond.static ({ cls := "SumsThatDifferModel", name := "has", desc := "(II)Z" } : Jvm.MethodName)) ∈ TB := tb_in 1236 (by decide +kernel) rfl
theorem tw_1237 : (Jvm.Cond.code ({ cls := "SumsThatDifferModel", name := "has", desc := "(II)Z" } : Jvm.MethodName) prog_14_method_5_code (2 : Nat) (Option.some Jvm.ClassFile.FieldType.boolean)) ∈ TB := tb_in 1237 (by decide +kernel) rfl
theorem tw_1242 : (Jvm.Cond.methodLink "SumsThatDifferModel" (163 : Nat) ({ cls := "SumsThatDifferModel", name := "isTwo", desc := "(I)Z" } : Jvm.MethodName)) ∈ TB := tb_in 1242 (by decide +kernel) rfl
theorem tw_1243 : (Jvm.Cond.static ({ cls := "SumsThatDifferModel", name := "isTwo", desc := "(I)Z" } : Jvm.MethodName)) ∈ TB := tb_in 1243 (by decide +kernel) rfl
theorem tw_1244 : (Jvm.Cond.code ({ cls := "SumsThatDifferModel", name := "isTwo", desc := "(I)Z" } : Jvm.MethodName) prog_14_method_4_code (1 : Nat) (Option.some Jvm.ClassFile.FieldType.boolean)) ∈ TB := tb_in 1244 (by decide +kernel) rfl
theorem tw_1249 : (Jvm.Cond.methodLink "SumsThatDifferModel" (170 : Nat) ({ cls := "SumsThatDifferModel", name := "mayCross", desc := "(II)Z" } : Jvm.MethodName)) ∈ TB := tb_in 1249 (by decide +kernel) rfl
theorem tw_1251 : (Jvm.Cond.instanceMethod ({ cls := "SumsThatDifferModel", name := "mayCross", desc := "(II)Z" } : Jvm.MethodName)) ∈ TB := tb_in 1251 (by decide +kernel) rfl
theorem tw_1252 : (Jvm.Cond.code ({ cls := "SumsThatDifferModel", name := "mayCross", desc := "(II)Z" } : Jvm.MethodName) prog_14_method_28_code (3 : Nat) (Option.some Jvm.ClassFile.FieldType.boolean)) ∈ TB := tb_in 1252 (by decide +kernel) rfl
theorem tw_1253 : (Jvm.Cond.methodLink "SumsThatDifferModel" (153 : Nat) ({ cls := "SumsThatDifferModel", name := "otherEnd", desc := "(II)I" } : Jvm.MethodName)) ∈ TB := tb_in 1253 (by decide +kernel) rfl
theorem tw_1255 : (Jvm.Cond.instanceMethod ({ cls := "SumsThatDifferModel", name := "otherEnd", desc := "(II)I" } : Jvm.MethodName)) ∈ TB := tb_in 1255 (by decide +kernel) rfl
theorem tw_1256 : (Jvm.Cond.code ({ cls := "SumsThatDifferModel", name := "otherEnd", desc := "(II)I" } : Jvm.MethodName) prog_14_method_24_code (3 : Nat) (Option.some Jvm.ClassFile.FieldType.int)) ∈ TB := tb_in 1256 (by decide +kernel) rfl
theorem tw_1257 : (Jvm.Cond.methodLink "SumsThatDifferModel" (173 : Nat) ({ cls := "SumsThatDifferModel", name := "remember", desc := "()V" } : Jvm.MethodName)) ∈ TB := tb_in 1257 (by decide +kernel) rfl
theorem tw_1259 : (Jvm.Cond.instanceMethod ({ cls := "SumsThatDifferModel", name := "remember", desc := "()V" } : Jvm.MethodName)) ∈ TB := tb_in 1259 (by decide +kernel) rfl
theorem tw_1260 : (Jvm.Cond.code ({ cls := "SumsThatDifferModel", name := "remember", desc := "()V" } : Jvm.MethodName) prog_14_method_32_code (2 : Nat) (Option.none : Option Jvm.ClassFile.FieldType)) ∈ TB := tb_in 1260 (by decide +kernel) rfl
theorem tw_1261 : (Jvm.Cond.methodLink "SumsThatDifferModel" (166 : Nat) ({ cls := "SumsThatDifferModel", name := "copies", desc := "([II[II)V" } : Jvm.MethodName)) ∈ TB := tb_in 1261 (by decide +kernel) rfl
theorem tw_1262 : (Jvm.Cond.static ({ cls := "SumsThatDifferModel", name := "copies", desc := "([II[II)V" } : Jvm.MethodName)) ∈ TB := tb_in 1262 (by decide +kernel) rfl
theorem tw_1263 : (Jvm.Cond.code ({ cls := "SumsThatDifferModel", name := "copies", desc := "([II[II)V" } : Jvm.MethodName) prog_14_method_31_code (5 : Nat) (Option.none : Option Jvm.ClassFile.FieldType)) ∈ TB := tb_in 1263 (by decide +kernel) rfl
theorem tw_1264 : (Jvm.Cond.methodLink "SumsThatDifferModel" (176 : Nat) ({ cls := "SumsThatDifferModel", name := "byNow", desc := "(III)I" } : Jvm.MethodName)) ∈ TB := tb_in 1264 (by decide +kernel) rfl
theorem tw_1266 : (Jvm.Cond.instanceMethod ({ cls := "SumsThatDifferModel", name := "byNow", desc := "(III)I" } : Jvm.MethodName)) ∈ TB := tb_in 1266 (by decide +kernel) rfl
theorem tw_1267 : (Jvm.Cond.code ({ cls := "SumsThatDifferModel", name := "byNow", desc := "(III)I" } : Jvm.MethodName) prog_14_method_27_code (4 : Nat) (Option.some Jvm.ClassFile.FieldType.int)) ∈ TB := tb_in 1267 (by decide +kernel) rfl
theorem tw_1268 : (Jvm.Cond.methodLink "SumsThatDifferModel" (149 : Nat) ({ cls := "SumsThatDifferModel", name := "by", desc := "(IIIII)I" } : Jvm.MethodName)) ∈ TB := tb_in 1268 (by decide +kernel) rfl
theorem tw_1270 : (Jvm.Cond.instanceMethod ({ cls := "SumsThatDifferModel", name := "by", desc := "(IIIII)I" } : Jvm.MethodName)) ∈ TB := tb_in 1270 (by decide +kernel) rfl
theorem tw_1271 : (Jvm.Cond.code ({ cls := "SumsThatDifferModel", name := "by", desc := "(IIIII)I" } : Jvm.MethodName) prog_14_method_26_code (6 : Nat) (Option.some Jvm.ClassFile.FieldType.int)) ∈ TB := tb_in 1271 (by decide +kernel) rfl
theorem tw_1272 : (Jvm.Cond.methodLink "SumsThatDifferModel" (145 : Nat) ({ cls := "SumsThatDifferModel", name := "crossed", desc := "(III)I" } : Jvm.MethodName)) ∈ TB := tb_in 1272 (by decide +kernel) rfl
theorem tw_1273 : (Jvm.Cond.static ({ cls := "SumsThatDifferModel", name := "crossed", desc := "(III)I" } : Jvm.MethodName)) ∈ TB := tb_in 1273 (by decide +kernel) rfl
theorem tw_1274 : (Jvm.Cond.code ({ cls := "SumsThatDifferModel", name := "crossed", desc := "(III)I" } : Jvm.MethodName) prog_14_method_25_code (5 : Nat) (Option.some Jvm.ClassFile.FieldType.int)) ∈ TB := tb_in 1274 (by decide +kernel) rfl
theorem tw_1279 : (Jvm.Cond.constantLong "SumsThatDifferModel" (179 : Nat) (40 : Int64)) ∈ TB := tb_in 1279 (by decide +kernel) rfl
theorem tw_1284 : (Jvm.Cond.methodLink "SumsThatDifferModel" (181 : Nat) ({ cls := "SumsThatDifferModel", name := "bits", desc := "(I)I" } : Jvm.MethodName)) ∈ TB := tb_in 1284 (by decide +kernel) rfl
theorem tw_1285 : (Jvm.Cond.static ({ cls := "SumsThatDifferModel", name := "bits", desc := "(I)I" } : Jvm.MethodName)) ∈ TB := tb_in 1285 (by decide +kernel) rfl
theorem tw_1286 : (Jvm.Cond.code ({ cls := "SumsThatDifferModel", name := "bits", desc := "(I)I" } : Jvm.MethodName) prog_14_method_6_code (3 : Nat) (Option.some Jvm.ClassFile.FieldType.int)) ∈ TB := tb_in 1286 (by decide +kernel) rfl
theorem tw_1295 : (Jvm.Cond.methodLink "SumsThatDifferModel" (191 : Nat) ({ cls := "SumsThatDifferModel", name := "goes", desc := "(I)Z" } : Jvm.MethodName)) ∈ TB := tb_in 1295 (by decide +kernel) rfl
theorem tw_1297 : (Jvm.Cond.instanceMethod ({ cls := "SumsThatDifferModel", name := "goes", desc := "(I)Z" } : Jvm.MethodName)) ∈ TB := tb_in 1297 (by decide +kernel) rfl
theorem tw_1298 : (Jvm.Cond.code ({ cls := "SumsThatDifferModel", name := "goes", desc := "(I)Z" } : Jvm.MethodName) prog_14_method_37_code (4 : Nat) (Option.some Jvm.ClassFile.FieldType.boolean)) ∈ TB := tb_in 1298 (by decide +kernel) rfl
theorem tw_1303 : (Jvm.Cond.constantLong "SumsThatDifferModel" (194 : Nat) (5 : Int64)) ∈ TB := tb_in 1303 (by decide +kernel) rfl
theorem tw_1308 : (Jvm.Cond.methodLink "SumsThatDifferModel" (202 : Nat) ({ cls := "SumsThatDifferModel", name := "layRounds", desc := "(I)V" } : Jvm.MethodName)) ∈ TB := tb_in 1308 (by decide +kernel) rfl
theorem tw_1310 : (Jvm.Cond.instanceMethod ({ cls := "SumsThatDifferModel", name := "layRounds", desc := "(I)V" } : Jvm.MethodName)) ∈ TB := tb_in 1310 (by decide +kernel) rfl
theorem tw_1311 : (Jvm.Cond.code ({ cls := "SumsThatDifferModel", name := "layRounds", desc := "(I)V" } : Jvm.MethodName) prog_14_method_40_code (7 : Nat) (Option.none : Option Jvm.ClassFile.FieldType)) ∈ TB := tb_in 1311 (by decide +kernel) rfl
theorem tw_1316 : (Jvm.Cond.methodLink "SumsThatDifferModel" (213 : Nat) ({ cls := "SumsThatDifferModel", name := "layHeights", desc := "(I)Z" } : Jvm.MethodName)) ∈ TB := tb_in 1316 (by decide +kernel) rfl
theorem tw_1318 : (Jvm.Cond.instanceMethod ({ cls := "SumsThatDifferModel", name := "layHeights", desc := "(I)Z" } : Jvm.MethodName)) ∈ TB := tb_in 1318 (by decide +kernel) rfl
theorem tw_1319 : (Jvm.Cond.code ({ cls := "SumsThatDifferModel", name := "layHeights", desc := "(I)Z" } : Jvm.MethodName) prog_14_method_43_code (5 : Nat) (Option.some Jvm.ClassFile.FieldType.boolean)) ∈ TB := tb_in 1319 (by decide +kernel) rfl
theorem tw_1320 : (Jvm.Cond.methodLink "SumsThatDifferModel" (206 : Nat) ({ cls := "SumsThatDifferModel", name := "spread", desc := "(I)V" } : Jvm.MethodName)) ∈ TB := tb_in 1320 (by decide +kernel) rfl
theorem tw_1322 : (Jvm.Cond.instanceMethod ({ cls := "SumsThatDifferModel", name := "spread", desc := "(I)V" } : Jvm.MethodName)) ∈ TB := tb_in 1322 (by decide +kernel) rfl
theorem tw_1323 : (Jvm.Cond.code ({ cls := "SumsThatDifferModel", name := "spread", desc := "(I)V" } : Jvm.MethodName) prog_14_method_44_code (6 : Nat) (Option.none : Option Jvm.ClassFile.FieldType)) ∈ TB := tb_in 1323 (by decide +kernel) rfl
theorem tw_1324 : (Jvm.Cond.methodLink "SumsThatDifferModel" (209 : Nat) ({ cls := "SumsThatDifferModel", name := "change", desc := "(IZ)I" } : Jvm.MethodName)) ∈ TB := tb_in 1324 (by decide +kernel) rfl
theorem tw_1326 : (Jvm.Cond.instanceMethod ({ cls := "SumsThatDifferModel", name := "change", desc := "(IZ)I" } : Jvm.MethodName)) ∈ TB := tb_in 1326 (by decide +kernel) rfl
theorem tw_1327 : (Jvm.Cond.code ({ cls := "SumsThatDifferModel", name := "change", desc := "(IZ)I" } : Jvm.MethodName) prog_14_method_42_code (4 : Nat) (Option.some Jvm.ClassFile.FieldType.int)) ∈ TB := tb_in 1327 (by decide +kernel) rfl
theorem tw_1332 : (Jvm.Cond.methodLink "SumsThatDifferModel" (216 : Nat) ({ cls := "SumsThatDifferModel", name := "isPlace", desc := "(I)Z" } : Jvm.MethodName)) ∈ TB := tb_in 1332 (by decide +kernel) rfl
theorem tw_1334 : (Jvm.Cond.instanceMethod ({ cls := "SumsThatDifferModel", name := "isPlace", desc := "(I)Z" } : Jvm.MethodName)) ∈ TB := tb_in 1334 (by decide +kernel) rfl
theorem tw_1335 : (Jvm.Cond.code ({ cls := "SumsThatDifferModel", name := "isPlace", desc := "(I)Z" } : Jvm.MethodName) prog_14_method_21_code (2 : Nat) (Option.some Jvm.ClassFile.FieldType.boolean)) ∈ TB := tb_in 1335 (by decide +kernel) rfl
theorem tw_1340 : (Jvm.Cond.constant "SumsThatDifferModel" (223 : Nat) (1000000 : Int32)) ∈ TB := tb_in 1340 (by decide +kernel) rfl
theorem tw_1341 : (Jvm.Cond.methodLink "SumsThatDifferModel" (226 : Nat) ({ cls := "SumsThatDifferModel", name := "ringFrom", desc := "(I)I" } : Jvm.MethodName)) ∈ TB := tb_in 1341 (by decide +kernel) rfl
theorem tw_1343 : (Jvm.Cond.instanceMethod ({ cls := "SumsThatDifferModel", name := "ringFrom", desc := "(I)I" } : Jvm.MethodName)) ∈ TB := tb_in 1343 (by decide +kernel) rfl
theorem tw_1344 : (Jvm.Cond.code ({ cls := "SumsThatDifferModel", name := "ringFrom", desc := "(I)I" } : Jvm.MethodName) prog_14_method_47_code (4 : Nat) (Option.some Jvm.ClassFile.FieldType.int)) ∈ TB := tb_in 1344 (by decide +kernel) rfl
theorem tw_1345 : (Jvm.Cond.methodLink "SumsThatDifferModel" (219 : Nat) ({ cls := "SumsThatDifferModel", name := "marksGo", desc := "(III)V" } : Jvm.MethodName)) ∈ TB := tb_in 1345 (by decide +kernel) rfl
theorem tw_1347 : (Jvm.Cond.instanceMethod ({ cls := "SumsThatDifferModel", name := "marksGo", desc := "(III)V" } : Jvm.MethodName)) ∈ TB := tb_in 1347 (by decide +kernel) rfl
theorem tw_1348 : (Jvm.Cond.code ({ cls := "SumsThatDifferModel", name := "marksGo", desc := "(III)V" } : Jvm.MethodName) prog_14_method_48_code (6 : Nat) (Option.none : Option Jvm.ClassFile.FieldType)) ∈ TB := tb_in 1348 (by decide +kernel) rfl
theorem tw_1349 : (Jvm.Cond.constantLong "SumsThatDifferModel" (224 : Nat) (480 : Int64)) ∈ TB := tb_in 1349 (by decide +kernel) rfl
theorem tw_1362 : (Jvm.Cond.constantLong "SumsThatDifferModel" (229 : Nat) (999 : Int64)) ∈ TB := tb_in 1362 (by decide +kernel) rfl
theorem tw_1371 : (Jvm.Cond.methodLink "SumsThatDifferModel" (239 : Nat) ({ cls := "SumsThatDifferModel", name := "wrongs", desc := "()I" } : Jvm.MethodName)) ∈ TB := tb_in 1371 (by decide +kernel) rfl
theorem tw_1373 : (Jvm.Cond.instanceMethod ({ cls := "SumsThatDifferModel", name := "wrongs", desc := "()I" } : Jvm.MethodName)) ∈ TB := tb_in 1373 (by decide +kernel) rfl
theorem tw_1374 : (Jvm.Cond.code ({ cls := "SumsThatDifferModel", name := "wrongs", desc := "()I" } : Jvm.MethodName) prog_14_method_56_code (4 : Nat) (Option.some Jvm.ClassFile.FieldType.int)) ∈ TB := tb_in 1374 (by decide +kernel) rfl
theorem tw_1375 : (Jvm.Cond.methodLink "SumsThatDifferModel" (235 : Nat) ({ cls := "SumsThatDifferModel", name := "fits", desc := "(III)Z" } : Jvm.MethodName)) ∈ TB := tb_in 1375 (by decide +kernel) rfl
theorem tw_1377 : (Jvm.Cond.instanceMethod ({ cls := "SumsThatDifferModel", name := "fits", desc := "(III)Z" } : Jvm.MethodName)) ∈ TB := tb_in 1377 (by decide +kernel) rfl
theorem tw_1378 : (Jvm.Cond.code ({ cls := "SumsThatDifferModel", name := "fits", desc := "(III)Z" } : Jvm.MethodName) prog_14_method_55_code (9 : Nat) (Option.some Jvm.ClassFile.FieldType.boolean)) ∈ TB := tb_in 1378 (by decide +kernel) rfl
theorem tw_1379 : (Jvm.Cond.methodLink "SumsThatDifferModel" (231 : Nat) ({ cls := "SumsThatDifferModel", name := "byOther", desc := "(IIIIII)I" } : Jvm.MethodName)) ∈ TB := tb_in 1379 (by decide +kernel) rfl
theorem tw_1381 : (Jvm.Cond.instanceMethod ({ cls := "SumsThatDifferModel", name := "byOther", desc := "(IIIIII)I" } : Jvm.MethodName)) ∈ TB := tb_in 1381 (by decide +kernel) rfl
theorem tw_1382 : (Jvm.Cond.code ({ cls := "SumsThatDifferModel", name := "byOther", desc := "(IIIIII)I" } : Jvm.MethodName) prog_14_method_54_code (7 : Nat) (Option.some Jvm.ClassFile.FieldType.int)) ∈ TB := tb_in 1382 (by decide +kernel) rfl
theorem tw_1387 : (Jvm.Cond.methodLink "SumsThatDifferModel" (242 : Nat) ({ cls := "SumsThatDifferModel", name := "sumsBehind", desc := "(II)I" } : Jvm.MethodName)) ∈ TB := tb_in 1387 (by decide +kernel) rfl
theorem tw_1389 : (Jvm.Cond.instanceMethod ({ cls := "SumsThatDifferModel", name := "sumsBehind", desc := "(II)I" } : Jvm.MethodName)) ∈ TB := tb_in 1389 (by decide +kernel) rfl
theorem tw_1390 : (Jvm.Cond.code ({ cls := "SumsThatDifferModel", name := "sumsBehind", desc := "(II)I" } : Jvm.MethodName) prog_14_method_58_code (5 : Nat) (Option.some Jvm.ClassFile.FieldType.int)) ∈ TB := tb_in 1390 (by decide +kernel) rfl
theorem tw_1399 : (Jvm.Cond.constantLong "SumsThatDifferModel" (245 : Nat) (10 : Int64)) ∈ TB := tb_in 1399 (by decide +kernel) rfl
theorem tw_1400 : (Jvm.Cond.methodLink "SumsThatDifferModel" (247 : Nat) ({ cls := "SumsThatDifferModel", name := "leads", desc := "(III)Z" } : Jvm.MethodName)) ∈ TB := tb_in 1400 (by decide +kernel) rfl
theorem tw_1402 : (Jvm.Cond.instanceMethod ({ cls := "SumsThatDifferModel", name := "leads", desc := "(III)Z" } : Jvm.MethodName)) ∈ TB := tb_in 1402 (by decide +kernel) rfl
theorem tw_1403 : (Jvm.Cond.code ({ cls := "SumsThatDifferModel", name := "leads", desc := "(III)Z" } : Jvm.MethodName) prog_14_method_61_code (8 : Nat) (Option.some Jvm.ClassFile.FieldType.boolean)) ∈ TB := tb_in 1403 (by decide +kernel) rfl
theorem tw_1408 : (Jvm.Cond.constantLong "SumsThatDifferModel" (250 : Nat) (9999 : Int64)) ∈ TB := tb_in 1408 (by decide +kernel) rfl
theorem tw_1409 : (Jvm.Cond.constantLong "SumsThatDifferModel" (252 : Nat) (60 : Int64)) ∈ TB := tb_in 1409 (by decide +kernel) rfl
theorem tw_1410 : (Jvm.Cond.constantLong "SumsThatDifferModel" (254 : Nat) (7919 : Int64)) ∈ TB := tb_in 1410 (by decide +kernel) rfl
theorem tw_1411 : (Jvm.Cond.constantLong "SumsThatDifferModel" (256 : Nat) (6151 : Int64)) ∈ TB := tb_in 1411 (by decide +kernel) rfl
theorem tw_1412 : (Jvm.Cond.constantLong "SumsThatDifferModel" (258 : Nat) (65521 : Int64)) ∈ TB := tb_in 1412 (by decide +kernel) rfl
