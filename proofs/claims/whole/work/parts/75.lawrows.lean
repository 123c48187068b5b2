/-! THE LAW: words, its instructions -/
theorem tw_85 : (Jvm.Cond.classLink "SumsThatDifferLaw" (7 : Nat) "SumsThatDiffer") ∈ TB := tb_in 85 (by decide +kernel) rfl
theorem tw_86 : (Jvm.Cond.instantiable "SumsThatDiffer" (11 : Nat)) ∈ TB := tb_in 86 (by decide +kernel) rfl
theorem tw_87 : (Jvm.Cond.methodLink "SumsThatDifferLaw" (9 : Nat) ({ cls := "SumsThatDiffer", name := "<init>", desc := "()V" } : Jvm.MethodName)) ∈ TB := tb_in 87 (by decide +kernel) rfl
theorem tw_88 : (Jvm.Cond.instanceMethod ({ cls := "SumsThatDiffer", name := "<init>", desc := "()V" } : Jvm.MethodName)) ∈ TB := tb_in 88 (by decide +kernel) rfl
theorem tw_89 : (Jvm.Cond.code ({ cls := "SumsThatDiffer", name := "<init>", desc := "()V" } : Jvm.MethodName) prog_1_method_1_code (2 : Nat) (Option.none : Option Jvm.ClassFile.FieldType)) ∈ TB := tb_in 89 (by decide +kernel) rfl
theorem tw_600 : (Jvm.Cond.methodLink "SumsThatDifferLaw" (13 : Nat) ({ cls := "SumsThatDiffer", name := "write", desc := "(I)I" } : Jvm.MethodName)) ∈ TB := tb_in 600 (by decide +kernel) rfl
theorem tw_601 : (Jvm.Cond.instanceMethod ({ cls := "SumsThatDiffer", name := "write", desc := "(I)I" } : Jvm.MethodName)) ∈ TB := tb_in 601 (by decide +kernel) rfl
theorem tw_602 : (Jvm.Cond.selects "SumsThatDiffer" ({ cls := "SumsThatDiffer", name := "write", desc := "(I)I" } : Jvm.MethodName) ({ cls := "SumsThatDiffer", name := "write", desc := "(I)I" } : Jvm.MethodName)) ∈ TB := tb_in 602 (by decide +kernel) rfl
theorem tw_603 : (Jvm.Cond.code ({ cls := "SumsThatDiffer", name := "write", desc := "(I)I" } : Jvm.MethodName) prog_1_method_2_code (2 : Nat) (Option.some Jvm.ClassFile.FieldType.int)) ∈ TB := tb_in 603 (by decide +kernel) rfl
theorem tw_604 : (Jvm.Cond.methodLink "SumsThatDifferLaw" (18 : Nat) ({ cls := "SumsThatDiffer", name := "wipe", desc := "()I" } : Jvm.MethodName)) ∈ TB := tb_in 604 (by decide +kernel) rfl
theorem tw_605 : (Jvm.Cond.instanceMethod ({ cls := "SumsThatDiffer", name := "wipe", desc := "()I" } : Jvm.MethodName)) ∈ TB := tb_in 605 (by decide +kernel) rfl
theorem tw_606 : (Jvm.Cond.selects "SumsThatDiffer" ({ cls := "SumsThatDiffer", name := "wipe", desc := "()I" } : Jvm.MethodName) ({ cls := "SumsThatDiffer", name := "wipe", desc := "()I" } : Jvm.MethodName)) ∈ TB := tb_in 606 (by decide +kernel) rfl
theorem tw_607 : (Jvm.Cond.code ({ cls := "SumsThatDiffer", name := "wipe", desc := "()I" } : Jvm.MethodName) prog_1_method_3_code (2 : Nat) (Option.some Jvm.ClassFile.FieldType.int)) ∈ TB := tb_in 607 (by decide +kernel) rfl
theorem tw_608 : (Jvm.Cond.methodLink "SumsThatDifferLaw" (23 : Nat) ({ cls := "SumsThatDiffer", name := "fault", desc := "()I" } : Jvm.MethodName)) ∈ TB := tb_in 608 (by decide +kernel) rfl
theorem tw_609 : (Jvm.Cond.instanceMethod ({ cls := "SumsThatDiffer", name := "fault", desc := "()I" } : Jvm.MethodName)) ∈ TB := tb_in 609 (by decide +kernel) rfl
theorem tw_610 : (Jvm.Cond.selects "SumsThatDiffer" ({ cls := "SumsThatDiffer", name := "fault", desc := "()I" } : Jvm.MethodName) ({ cls := "SumsThatDiffer", name := "fault", desc := "()I" } : Jvm.MethodName)) ∈ TB := tb_in 610 (by decide +kernel) rfl
theorem tw_611 : (Jvm.Cond.code ({ cls := "SumsThatDiffer", name := "fault", desc := "()I" } : Jvm.MethodName) prog_1_method_4_code (1 : Nat) (Option.some Jvm.ClassFile.FieldType.int)) ∈ TB := tb_in 611 (by decide +kernel) rfl
theorem tw_612 : (Jvm.Cond.methodLink "SumsThatDifferLaw" (27 : Nat) ({ cls := "SumsThatDiffer", name := "lay", desc := "()I" } : Jvm.MethodName)) ∈ TB := tb_in 612 (by decide +kernel) rfl
theorem tw_613 : (Jvm.Cond.instanceMethod ({ cls := "SumsThatDiffer", name := "lay", desc := "()I" } : Jvm.MethodName)) ∈ TB := tb_in 613 (by decide +kernel) rfl
theorem tw_614 : (Jvm.Cond.selects "SumsThatDiffer" ({ cls := "SumsThatDiffer", name := "lay", desc := "()I" } : Jvm.MethodName) ({ cls := "SumsThatDiffer", name := "lay", desc := "()I" } : Jvm.MethodName)) ∈ TB := tb_in 614 (by decide +kernel) rfl
theorem tw_615 : (Jvm.Cond.code ({ cls := "SumsThatDiffer", name := "lay", desc := "()I" } : Jvm.MethodName) prog_1_method_5_code (1 : Nat) (Option.some Jvm.ClassFile.FieldType.int)) ∈ TB := tb_in 615 (by decide +kernel) rfl
theorem tw_620 : (Jvm.Cond.methodLink "SumsThatDifferLaw" (31 : Nat) ({ cls := "SumsThatDiffer", name := "road", desc := "(II)I" } : Jvm.MethodName)) ∈ TB := tb_in 620 (by decide +kernel) rfl
theorem tw_621 : (Jvm.Cond.instanceMethod ({ cls := "SumsThatDiffer", name := "road", desc := "(II)I" } : Jvm.MethodName)) ∈ TB := tb_in 621 (by decide +kernel) rfl
theorem tw_622 : (Jvm.Cond.selects "SumsThatDiffer" ({ cls := "SumsThatDiffer", name := "road", desc := "(II)I" } : Jvm.MethodName) ({ cls := "SumsThatDiffer", name := "road", desc := "(II)I" } : Jvm.MethodName)) ∈ TB := tb_in 622 (by decide +kernel) rfl
theorem tw_623 : (Jvm.Cond.code ({ cls := "SumsThatDiffer", name := "road", desc := "(II)I" } : Jvm.MethodName) prog_1_method_6_code (3 : Nat) (Option.some Jvm.ClassFile.FieldType.int)) ∈ TB := tb_in 623 (by decide +kernel) rfl
theorem tw_641 : (Jvm.Cond.methodLink "SumsThatDifferLaw" (36 : Nat) ({ cls := "SumsThatDiffer", name := "at", desc := "(I)I" } : Jvm.MethodName)) ∈ TB := tb_in 641 (by decide +kernel) rfl
theorem tw_642 : (Jvm.Cond.instanceMethod ({ cls := "SumsThatDiffer", name := "at", desc := "(I)I" } : Jvm.MethodName)) ∈ TB := tb_in 642 (by decide +kernel) rfl
theorem tw_643 : (Jvm.Cond.selects "SumsThatDiffer" ({ cls := "SumsThatDiffer", name := "at", desc := "(I)I" } : Jvm.MethodName) ({ cls := "SumsThatDiffer", name := "at", desc := "(I)I" } : Jvm.MethodName)) ∈ TB := tb_in 643 (by decide +kernel) rfl
theorem tw_644 : (Jvm.Cond.code ({ cls := "SumsThatDiffer", name := "at", desc := "(I)I" } : Jvm.MethodName) prog_1_method_7_code (2 : Nat) (Option.some Jvm.ClassFile.FieldType.int)) ∈ TB := tb_in 644 (by decide +kernel) rfl
theorem tw_645 : (Jvm.Cond.methodLink "SumsThatDifferLaw" (40 : Nat) ({ cls := "SumsThatDiffer", name := "cross", desc := "(I)I" } : Jvm.MethodName)) ∈ TB := tb_in 645 (by decide +kernel) rfl
theorem tw_646 : (Jvm.Cond.instanceMethod ({ cls := "SumsThatDiffer", name := "cross", desc := "(I)I" } : Jvm.MethodName)) ∈ TB := tb_in 646 (by decide +kernel) rfl
theorem tw_647 : (Jvm.Cond.selects "SumsThatDiffer" ({ cls := "SumsThatDiffer", name := "cross", desc := "(I)I" } : Jvm.MethodName) ({ cls := "SumsThatDiffer", name := "cross", desc := "(I)I" } : Jvm.MethodName)) ∈ TB := tb_in 647 (by decide +kernel) rfl
theorem tw_648 : (Jvm.Cond.code ({ cls := "SumsThatDiffer", name := "cross", desc := "(I)I" } : Jvm.MethodName) prog_1_method_8_code (2 : Nat) (Option.some Jvm.ClassFile.FieldType.int)) ∈ TB := tb_in 648 (by decide +kernel) rfl
theorem tw_699 : (Jvm.Cond.methodLink "SumsThatDifferLaw" (44 : Nat) ({ cls := "SumsThatDiffer", name := "mend", desc := "(III)I" } : Jvm.MethodName)) ∈ TB := tb_in 699 (by decide +kernel) rfl
theorem tw_700 : (Jvm.Cond.instanceMethod ({ cls := "SumsThatDiffer", name := "mend", desc := "(III)I" } : Jvm.MethodName)) ∈ TB := tb_in 700 (by decide +kernel) rfl
theorem tw_701 : (Jvm.Cond.selects "SumsThatDiffer" ({ cls := "SumsThatDiffer", name := "mend", desc := "(III)I" } : Jvm.MethodName) ({ cls := "SumsThatDiffer", name := "mend", desc := "(III)I" } : Jvm.MethodName)) ∈ TB := tb_in 701 (by decide +kernel) rfl
theorem tw_702 : (Jvm.Cond.code ({ cls := "SumsThatDiffer", name := "mend", desc := "(III)I" } : Jvm.MethodName) prog_1_method_9_code (5 : Nat) (Option.some Jvm.ClassFile.FieldType.int)) ∈ TB := tb_in 702 (by decide +kernel) rfl
theorem tw_706 : (Jvm.Cond.methodLink "SumsThatDifferLaw" (49 : Nat) ({ cls := "SumsThatDiffer", name := "shut", desc := "(IZ)I" } : Jvm.MethodName)) ∈ TB := tb_in 706 (by decide +kernel) rfl
theorem tw_707 : (Jvm.Cond.instanceMethod ({ cls := "SumsThatDiffer", name := "shut", desc := "(IZ)I" } : Jvm.MethodName)) ∈ TB := tb_in 707 (by decide +kernel) rfl
theorem tw_708 : (Jvm.Cond.selects "SumsThatDiffer" ({ cls := "SumsThatDiffer", name := "shut", desc := "(IZ)I" } : Jvm.MethodName) ({ cls := "SumsThatDiffer", name := "shut", desc := "(IZ)I" } : Jvm.MethodName)) ∈ TB := tb_in 708 (by decide +kernel) rfl
theorem tw_709 : (Jvm.Cond.code ({ cls := "SumsThatDiffer", name := "shut", desc := "(IZ)I" } : Jvm.MethodName) prog_1_method_10_code (3 : Nat) (Option.some Jvm.ClassFile.FieldType.int)) ∈ TB := tb_in 709 (by decide +kernel) rfl
theorem tw_720 : (Jvm.Cond.methodLink "SumsThatDifferLaw" (54 : Nat) ({ cls := "SumsThatDiffer", name := "undo", desc := "()I" } : Jvm.MethodName)) ∈ TB := tb_in 720 (by decide +kernel) rfl
theorem tw_721 : (Jvm.Cond.instanceMethod ({ cls := "SumsThatDiffer", name := "undo", desc := "()I" } : Jvm.MethodName)) ∈ TB := tb_in 721 (by decide +kernel) rfl
theorem tw_722 : (Jvm.Cond.selects "SumsThatDiffer" ({ cls := "SumsThatDiffer", name := "undo", desc := "()I" } : Jvm.MethodName) ({ cls := "SumsThatDiffer", name := "undo", desc := "()I" } : Jvm.MethodName)) ∈ TB := tb_in 722 (by decide +kernel) rfl
theorem tw_723 : (Jvm.Cond.code ({ cls := "SumsThatDiffer", name := "undo", desc := "()I" } : Jvm.MethodName) prog_1_method_11_code (1 : Nat) (Option.some Jvm.ClassFile.FieldType.int)) ∈ TB := tb_in 723 (by decide +kernel) rfl
theorem tw_732 : (Jvm.Cond.methodLink "SumsThatDifferLaw" (58 : Nat) ({ cls := "SumsThatDiffer", name := "journey", desc := "(II)I" } : Jvm.MethodName)) ∈ TB := tb_in 732 (by decide +kernel) rfl
theorem tw_733 : (Jvm.Cond.instanceMethod ({ cls := "SumsThatDiffer", name := "journey", desc := "(II)I" } : Jvm.MethodName)) ∈ TB := tb_in 733 (by decide +kernel) rfl
theorem tw_734 : (Jvm.Cond.selects "SumsThatDiffer" ({ cls := "SumsThatDiffer", name := "journey", desc := "(II)I" } : Jvm.MethodName) ({ cls := "SumsThatDiffer", name := "journey", desc := "(II)I" } : Jvm.MethodName)) ∈ TB := tb_in 734 (by decide +kernel) rfl
theorem tw_735 : (Jvm.Cond.code ({ cls := "SumsThatDiffer", name := "journey", desc := "(II)I" } : Jvm.MethodName) prog_1_method_12_code (3 : Nat) (Option.some Jvm.ClassFile.FieldType.int)) ∈ TB := tb_in 735 (by decide +kernel) rfl
theorem tw_754 : (Jvm.Cond.methodLink "SumsThatDifferLaw" (62 : Nat) ({ cls := "SumsThatDiffer", name := "most", desc := "(II)I" } : Jvm.MethodName)) ∈ TB := tb_in 754 (by decide +kernel) rfl
theorem tw_755 : (Jvm.Cond.instanceMethod ({ cls := "SumsThatDiffer", name := "most", desc := "(II)I" } : Jvm.MethodName)) ∈ TB := tb_in 755 (by decide +kernel) rfl
theorem tw_756 : (Jvm.Cond.selects "SumsThatDiffer" ({ cls := "SumsThatDiffer", name := "most", desc := "(II)I" } : Jvm.MethodName) ({ cls := "SumsThatDiffer", name := "most", desc := "(II)I" } : Jvm.MethodName)) ∈ TB := tb_in 756 (by decide +kernel) rfl
theorem tw_757 : (Jvm.Cond.code ({ cls := "SumsThatDiffer", name := "most", desc := "(II)I" } : Jvm.MethodName) prog_1_method_13_code (3 : Nat) (Option.some Jvm.ClassFile.FieldType.int)) ∈ TB := tb_in 757 (by decide +kernel) rfl
theorem tw_795 : (Jvm.Cond.methodLink "SumsThatDifferLaw" (66 : Nat) ({ cls := "SumsThatDiffer", name := "round", desc := "(I)I" } : Jvm.MethodName)) ∈ TB := tb_in 795 (by decide +kernel) rfl
theorem tw_796 : (Jvm.Cond.instanceMethod ({ cls := "SumsThatDiffer", name := "round", desc := "(I)I" } : Jvm.MethodName)) ∈ TB := tb_in 796 (by decide +kernel) rfl
theorem tw_797 : (Jvm.Cond.selects "SumsThatDiffer" ({ cls := "SumsThatDiffer", name := "round", desc := "(I)I" } : Jvm.MethodName) ({ cls := "SumsThatDiffer", name := "round", desc := "(I)I" } : Jvm.MethodName)) ∈ TB := tb_in 797 (by decide +kernel) rfl
theorem tw_798 : (Jvm.Cond.code ({ cls := "SumsThatDiffer", name := "round", desc := "(I)I" } : Jvm.MethodName) prog_1_method_14_code (2 : Nat) (Option.some Jvm.ClassFile.FieldType.int)) ∈ TB := tb_in 798 (by decide +kernel) rfl
theorem tw_826 : (Jvm.Cond.methodLink "SumsThatDifferLaw" (70 : Nat) ({ cls := "SumsThatDiffer", name := "agree", desc := "()I" } : Jvm.MethodName)) ∈ TB := tb_in 826 (by decide +kernel) rfl
theorem tw_827 : (Jvm.Cond.instanceMethod ({ cls := "SumsThatDiffer", name := "agree", desc := "()I" } : Jvm.MethodName)) ∈ TB := tb_in 827 (by decide +kernel) rfl
theorem tw_828 : (Jvm.Cond.selects "SumsThatDiffer" ({ cls := "SumsThatDiffer", name := "agree", desc := "()I" } : Jvm.MethodName) ({ cls := "SumsThatDiffer", name := "agree", desc := "()I" } : Jvm.MethodName)) ∈ TB := tb_in 828 (by decide +kernel) rfl
theorem tw_829 : (Jvm.Cond.code ({ cls := "SumsThatDiffer", name := "agree", desc := "()I" } : Jvm.MethodName) prog_1_method_15_code (1 : Nat) (Option.some Jvm.ClassFile.FieldType.int)) ∈ TB := tb_in 829 (by decide +kernel) rfl
theorem tw_870 : (Jvm.Cond.methodLink "SumsThatDifferLaw" (74 : Nat) ({ cls := "SumsThatDiffer", name := "height", desc := "(I)I" } : Jvm.MethodName)) ∈ TB := tb_in 870 (by decide +kernel) rfl
theorem tw_871 : (Jvm.Cond.instanceMethod ({ cls := "SumsThatDiffer", name := "height", desc := "(I)I" } : Jvm.MethodName)) ∈ TB := tb_in 871 (by decide +kernel) rfl
theorem tw_872 : (Jvm.Cond.selects "SumsThatDiffer" ({ cls := "SumsThatDiffer", name := "height", desc := "(I)I" } : Jvm.MethodName) ({ cls := "SumsThatDiffer", name := "height", desc := "(I)I" } : Jvm.MethodName)) ∈ TB := tb_in 872 (by decide +kernel) rfl
theorem tw_873 : (Jvm.Cond.code ({ cls := "SumsThatDiffer", name := "height", desc := "(I)I" } : Jvm.MethodName) prog_1_method_16_code (2 : Nat) (Option.some Jvm.ClassFile.FieldType.int)) ∈ TB := tb_in 873 (by decide +kernel) rfl
theorem tw_876 : (Jvm.Cond.methodLink "SumsThatDifferLaw" (78 : Nat) ({ cls := "SumsThatDiffer", name := "ring", desc := "(I)I" } : Jvm.MethodName)) ∈ TB := tb_in 876 (by decide +kernel) rfl
theorem tw_877 : (Jvm.Cond.instanceMethod ({ cls := "SumsThatDiffer", name := "ring", desc := "(I)I" } : Jvm.MethodName)) ∈ TB := tb_in 877 (by decide +kernel) rfl
theorem tw_878 : (Jvm.Cond.selects "SumsThatDiffer" ({ cls := "SumsThatDiffer", name := "ring", desc := "(I)I" } : Jvm.MethodName) ({ cls := "SumsThatDiffer", name := "ring", desc := "(I)I" } : Jvm.MethodName)) ∈ TB := tb_in 878 (by decide +kernel) rfl
theorem tw_879 : (Jvm.Cond.code ({ cls := "SumsThatDiffer", name := "ring", desc := "(I)I" } : Jvm.MethodName) prog_1_method_17_code (2 : Nat) (Option.some Jvm.ClassFile.FieldType.int)) ∈ TB := tb_in 879 (by decide +kernel) rfl
theorem tw_911 : (Jvm.Cond.methodLink "SumsThatDifferLaw" (82 : Nat) ({ cls := "SumsThatDiffer", name := "fewest", desc := "()I" } : Jvm.MethodName)) ∈ TB := tb_in 911 (by decide +kernel) rfl
theorem tw_912 : (Jvm.Cond.instanceMethod ({ cls := "SumsThatDiffer", name := "fewest", desc := "()I" } : Jvm.MethodName)) ∈ TB := tb_in 912 (by decide +kernel) rfl
theorem tw_913 : (Jvm.Cond.selects "SumsThatDiffer" ({ cls := "SumsThatDiffer", name := "fewest", desc := "()I" } : Jvm.MethodName) ({ cls := "SumsThatDiffer", name := "fewest", desc := "()I" } : Jvm.MethodName)) ∈ TB := tb_in 913 (by decide +kernel) rfl
theorem tw_914 : (Jvm.Cond.code ({ cls := "SumsThatDiffer", name := "fewest", desc := "()I" } : Jvm.MethodName) prog_1_method_18_code (1 : Nat) (Option.some Jvm.ClassFile.FieldType.int)) ∈ TB := tb_in 914 (by decide +kernel) rfl
theorem tw_924 : (Jvm.Cond.methodLink "SumsThatDifferLaw" (86 : Nat) ({ cls := "SumsThatDiffer", name := "third", desc := "(II)I" } : Jvm.MethodName)) ∈ TB := tb_in 924 (by decide +kernel) rfl
theorem tw_925 : (Jvm.Cond.instanceMethod ({ cls := "SumsThatDiffer", name := "third", desc := "(II)I" } : Jvm.MethodName)) ∈ TB := tb_in 925 (by decide +kernel) rfl
theorem tw_926 : (Jvm.Cond.selects "SumsThatDiffer" ({ cls := "SumsThatDiffer", name := "third", desc := "(II)I" } : Jvm.MethodName) ({ cls := "SumsThatDiffer", name := "third", desc := "(II)I" } : Jvm.MethodName)) ∈ TB := tb_in 926 (by decide +kernel) rfl
theorem tw_927 : (Jvm.Cond.code ({ cls := "SumsThatDiffer", name := "third", desc := "(II)I" } : Jvm.MethodName) prog_1_method_19_code (4 : Nat) (Option.some Jvm.ClassFile.FieldType.int)) ∈ TB := tb_in 927 (by decide +kernel) rfl
theorem tw_932 : (Jvm.Cond.methodLink "SumsThatDifferLaw" (90 : Nat) ({ cls := "SumsThatDiffer", name := "tell", desc := "(IIIII)I" } : Jvm.MethodName)) ∈ TB := tb_in 932 (by decide +kernel) rfl
theorem tw_933 : (Jvm.Cond.instanceMethod ({ cls := "SumsThatDiffer", name := "tell", desc := "(IIIII)I" } : Jvm.MethodName)) ∈ TB := tb_in 933 (by decide +kernel) rfl
theorem tw_934 : (Jvm.Cond.selects "SumsThatDiffer" ({ cls := "SumsThatDiffer", name := "tell", desc := "(IIIII)I" } : Jvm.MethodName) ({ cls := "SumsThatDiffer", name := "tell", desc := "(IIIII)I" } : Jvm.MethodName)) ∈ TB := tb_in 934 (by decide +kernel) rfl
theorem tw_935 : (Jvm.Cond.code ({ cls := "SumsThatDiffer", name := "tell", desc := "(IIIII)I" } : Jvm.MethodName) prog_1_method_20_code (6 : Nat) (Option.some Jvm.ClassFile.FieldType.int)) ∈ TB := tb_in 935 (by decide +kernel) rfl
theorem tw_949 : (Jvm.Cond.methodLink "SumsThatDifferLaw" (95 : Nat) ({ cls := "SumsThatDiffer", name := "forget", desc := "()I" } : Jvm.MethodName)) ∈ TB := tb_in 949 (by decide +kernel) rfl
theorem tw_950 : (Jvm.Cond.instanceMethod ({ cls := "SumsThatDiffer", name := "forget", desc := "()I" } : Jvm.MethodName)) ∈ TB := tb_in 950 (by decide +kernel) rfl
theorem tw_951 : (Jvm.Cond.selects "SumsThatDiffer" ({ cls := "SumsThatDiffer", name := "forget", desc := "()I" } : Jvm.MethodName) ({ cls := "SumsThatDiffer", name := "forget", desc := "()I" } : Jvm.MethodName)) ∈ TB := tb_in 951 (by decide +kernel) rfl
theorem tw_952 : (Jvm.Cond.code ({ cls := "SumsThatDiffer", name := "forget", desc := "()I" } : Jvm.MethodName) prog_1_method_21_code (2 : Nat) (Option.some Jvm.ClassFile.FieldType.int)) ∈ TB := tb_in 952 (by decide +kernel) rfl
theorem tw_953 : (Jvm.Cond.methodLink "SumsThatDifferLaw" (99 : Nat) ({ cls := "SumsThatDiffer", name := "wrong", desc := "()I" } : Jvm.MethodName)) ∈ TB := tb_in 953 (by decide +kernel) rfl
theorem tw_954 : (Jvm.Cond.instanceMethod ({ cls := "SumsThatDiffer", name := "wrong", desc := "()I" } : Jvm.MethodName)) ∈ TB := tb_in 954 (by decide +kernel) rfl
theorem tw_955 : (Jvm.Cond.selects "SumsThatDiffer" ({ cls := "SumsThatDiffer", name := "wrong", desc := "()I" } : Jvm.MethodName) ({ cls := "SumsThatDiffer", name := "wrong", desc := "()I" } : Jvm.MethodName)) ∈ TB := tb_in 955 (by decide +kernel) rfl
theorem tw_956 : (Jvm.Cond.code ({ cls := "SumsThatDiffer", name := "wrong", desc := "()I" } : Jvm.MethodName) prog_1_method_22_code (1 : Nat) (Option.some Jvm.ClassFile.FieldType.int)) ∈ TB := tb_in 956 (by decide +kernel) rfl
theorem tw_986 : (Jvm.Cond.methodLink "SumsThatDifferLaw" (103 : Nat) ({ cls := "SumsThatDiffer", name := "walk", desc := "(I)I" } : Jvm.MethodName)) ∈ TB := tb_in 986 (by decide +kernel) rfl
theorem tw_987 : (Jvm.Cond.instanceMethod ({ cls := "SumsThatDiffer", name := "walk", desc := "(I)I" } : Jvm.MethodName)) ∈ TB := tb_in 987 (by decide +kernel) rfl
theorem tw_988 : (Jvm.Cond.selects "SumsThatDiffer" ({ cls := "SumsThatDiffer", name := "walk", desc := "(I)I" } : Jvm.MethodName) ({ cls := "SumsThatDiffer", name := "walk", desc := "(I)I" } : Jvm.MethodName)) ∈ TB := tb_in 988 (by decide +kernel) rfl
theorem tw_989 : (Jvm.Cond.code ({ cls := "SumsThatDiffer", name := "walk", desc := "(I)I" } : Jvm.MethodName) prog_1_method_23_code (2 : Nat) (Option.some Jvm.ClassFile.FieldType.int)) ∈ TB := tb_in 989 (by decide +kernel) rfl
theorem tw_1000 : (Jvm.Cond.methodLink "SumsThatDifferLaw" (107 : Nat) ({ cls := "SumsThatDiffer", name := "byTurns", desc := "(I)I" } : Jvm.MethodName)) ∈ TB := tb_in 1000 (by decide +kernel) rfl
theorem tw_1001 : (Jvm.Cond.instanceMethod ({ cls := "SumsThatDiffer", name := "byTurns", desc := "(I)I" } : Jvm.MethodName)) ∈ TB := tb_in 1001 (by decide +kernel) rfl
theorem tw_1002 : (Jvm.Cond.selects "SumsThatDiffer" ({ cls := "SumsThatDiffer", name := "byTurns", desc := "(I)I" } : Jvm.MethodName) ({ cls := "SumsThatDiffer", name := "byTurns", desc := "(I)I" } : Jvm.MethodName)) ∈ TB := tb_in 1002 (by decide +kernel) rfl
theorem tw_1003 : (Jvm.Cond.code ({ cls := "SumsThatDiffer", name := "byTurns", desc := "(I)I" } : Jvm.MethodName) prog_1_method_24_code (3 : Nat) (Option.some Jvm.ClassFile.FieldType.int)) ∈ TB := tb_in 1003 (by decide +kernel) rfl
theorem tw_1004 : (Jvm.Cond.methodLink "SumsThatDifferLaw" (111 : Nat) ({ cls := "SumsThatDiffer", name := "weather", desc := "(IIII)I" } : Jvm.MethodName)) ∈ TB := tb_in 1004 (by decide +kernel) rfl
theorem tw_1005 : (Jvm.Cond.instanceMethod ({ cls := "SumsThatDiffer", name := "weather", desc := "(IIII)I" } : Jvm.MethodName)) ∈ TB := tb_in 1005 (by decide +kernel) rfl
theorem tw_1006 : (Jvm.Cond.selects "SumsThatDiffer" ({ cls := "SumsThatDiffer", name := "weather", desc := "(IIII)I" } : Jvm.MethodName) ({ cls := "SumsThatDiffer", name := "weather", desc := "(IIII)I" } : Jvm.MethodName)) ∈ TB := tb_in 1006 (by decide +kernel) rfl
theorem tw_1007 : (Jvm.Cond.code ({ cls := "SumsThatDiffer", name := "weather", desc := "(IIII)I" } : Jvm.MethodName) prog_1_method_25_code (5 : Nat) (Option.some Jvm.ClassFile.FieldType.int)) ∈ TB := tb_in 1007 (by decide +kernel) rfl
theorem tw_1033 : (Jvm.Cond.methodLink "SumsThatDifferLaw" (116 : Nat) ({ cls := "SumsThatDiffer", name := "year", desc := "(III)I" } : Jvm.MethodName)) ∈ TB := tb_in 1033 (by decide +kernel) rfl
theorem tw_1034 : (Jvm.Cond.instanceMethod ({ cls := "SumsThatDiffer", name := "year", desc := "(III)I" } : Jvm.MethodName)) ∈ TB := tb_in 1034 (by decide +kernel) rfl
theorem tw_1035 : (Jvm.Cond.selects "SumsThatDiffer" ({ cls := "SumsThatDiffer", name := "year", desc := "(III)I" } : Jvm.MethodName) ({ cls := "SumsThatDiffer", name := "year", desc := "(III)I" } : Jvm.MethodName)) ∈ TB := tb_in 1035 (by decide +kernel) rfl
theorem tw_1036 : (Jvm.Cond.code ({ cls := "SumsThatDiffer", name := "year", desc := "(III)I" } : Jvm.MethodName) prog_1_method_26_code (4 : Nat) (Option.some Jvm.ClassFile.FieldType.int)) ∈ TB := tb_in 1036 (by decide +kernel) rfl
theorem tw_1049 : (Jvm.Cond.methodLink "SumsThatDifferLaw" (120 : Nat) ({ cls := "SumsThatDiffer", name := "keep", desc := "()I" } : Jvm.MethodName)) ∈ TB := tb_in 1049 (by decide +kernel) rfl
theorem tw_1050 : (Jvm.Cond.instanceMethod ({ cls := "SumsThatDiffer", name := "keep", desc := "()I" } : Jvm.MethodName)) ∈ TB := tb_in 1050 (by decide +kernel) rfl
theorem tw_1051 : (Jvm.Cond.selects "SumsThatDiffer" ({ cls := "SumsThatDiffer", name := "keep", desc := "()I" } : Jvm.MethodName) ({ cls := "SumsThatDiffer", name := "keep", desc := "()I" } : Jvm.MethodName)) ∈ TB := tb_in 1051 (by decide +kernel) rfl
theorem tw_1052 : (Jvm.Cond.code ({ cls := "SumsThatDiffer", name := "keep", desc := "()I" } : Jvm.MethodName) prog_1_method_27_code (1 : Nat) (Option.some Jvm.ClassFile.FieldType.int)) ∈ TB := tb_in 1052 (by decide +kernel) rfl
theorem tw_1054 : (Jvm.Cond.methodLink "SumsThatDifferLaw" (124 : Nat) ({ cls := "SumsThatDiffer", name := "back", desc := "()I" } : Jvm.MethodName)) ∈ TB := tb_in 1054 (by decide +kernel) rfl
theorem tw_1055 : (Jvm.Cond.instanceMethod ({ cls := "SumsThatDiffer", name := "back", desc := "()I" } : Jvm.MethodName)) ∈ TB := tb_in 1055 (by decide +kernel) rfl
theorem tw_1056 : (Jvm.Cond.selects "SumsThatDiffer" ({ cls := "SumsThatDiffer", name := "back", desc := "()I" } : Jvm.MethodName) ({ cls := "SumsThatDiffer", name := "back", desc := "()I" } : Jvm.MethodName)) ∈ TB := tb_in 1056 (by decide +kernel) rfl
theorem tw_1057 : (Jvm.Cond.code ({ cls := "SumsThatDiffer", name := "back", desc := "()I" } : Jvm.MethodName) prog_1_method_28_code (1 : Nat) (Option.some Jvm.ClassFile.FieldType.int)) ∈ TB := tb_in 1057 (by decide +kernel) rfl
theorem tw_1058 : (Jvm.Cond.methodLink "SumsThatDifferLaw" (128 : Nat) ({ cls := "SumsThatDiffer", name := "count", desc := "(I)I" } : Jvm.MethodName)) ∈ TB := tb_in 1058 (by decide +kernel) rfl
theorem tw_1059 : (Jvm.Cond.instanceMethod ({ cls := "SumsThatDiffer", name := "count", desc := "(I)I" } : Jvm.MethodName)) ∈ TB := tb_in 1059 (by decide +kernel) rfl
theorem tw_1060 : (Jvm.Cond.selects "SumsThatDiffer" ({ cls := "SumsThatDiffer", name := "count", desc := "(I)I" } : Jvm.MethodName) ({ cls := "SumsThatDiffer", name := "count", desc := "(I)I" } : Jvm.MethodName)) ∈ TB := tb_in 1060 (by decide +kernel) rfl
theorem tw_1061 : (Jvm.Cond.code ({ cls := "SumsThatDiffer", name := "count", desc := "(I)I" } : Jvm.MethodName) prog_1_method_29_code (2 : Nat) (Option.some Jvm.ClassFile.FieldType.int)) ∈ TB := tb_in 1061 (by decide +kernel) rfl
theorem tw_1063 : (Jvm.Cond.classLink "SumsThatDifferLaw" (10 : Nat) "SumsThatDifferModel") ∈ TB := tb_in 1063 (by decide +kernel) rfl
theorem tw_1064 : (Jvm.Cond.instantiable "SumsThatDifferModel" (29 : Nat)) ∈ TB := tb_in 1064 (by decide +kernel) rfl
theorem tw_1065 : (Jvm.Cond.methodLink "SumsThatDifferLaw" (12 : Nat) ({ cls := "SumsThatDifferModel", name := "<init>", desc := "()V" } : Jvm.MethodName)) ∈ TB := tb_in 1065 (by decide +kernel) rfl
theorem tw_1066 : (Jvm.Cond.instanceMethod ({ cls := "SumsThatDifferModel", name := "<init>", desc := "()V" } : Jvm.MethodName)) ∈ TB := tb_in 1066 (by decide +kernel) rfl
theorem tw_1067 : (Jvm.Cond.code ({ cls := "SumsThatDifferModel", name := "<init>", desc := "()V" } : Jvm.MethodName) prog_14_method_1_code (1 : Nat) (Option.none : Option Jvm.ClassFile.FieldType)) ∈ TB := tb_in 1067 (by decide +kernel) rfl
theorem tw_1169 : (Jvm.Cond.methodLink "SumsThatDifferLaw" (17 : Nat) ({ cls := "SumsThatDifferModel", name := "write", desc := "(I)I" } : Jvm.MethodName)) ∈ TB := tb_in 1169 (by decide +kernel) rfl
theorem tw_1170 : (Jvm.Cond.instanceMethod ({ cls := "SumsThatDifferModel", name := "write", desc := "(I)I" } : Jvm.MethodName)) ∈ TB := tb_in 1170 (by decide +kernel) rfl
theorem tw_1171 : (Jvm.Cond.selects "SumsThatDifferModel" ({ cls := "SumsThatDifferModel", name := "write", desc := "(I)I" } : Jvm.MethodName) ({ cls := "SumsThatDifferModel", name := "write", desc := "(I)I" } : Jvm.MethodName)) ∈ TB := tb_in 1171 (by decide +kernel) rfl
theorem tw_1172 : (Jvm.Cond.code ({ cls := "SumsThatDifferModel", name := "write", desc := "(I)I" } : Jvm.MethodName) prog_14_method_7_code (2 : Nat) (Option.some Jvm.ClassFile.FieldType.int)) ∈ TB := tb_in 1172 (by decide +kernel) rfl
theorem tw_1178 : (Jvm.Cond.methodLink "SumsThatDifferLaw" (22 : Nat) ({ cls := "SumsThatDifferModel", name := "wipe", desc := "()I" } : Jvm.MethodName)) ∈ TB := tb_in 1178 (by decide +kernel) rfl
theorem tw_1179 : (Jvm.Cond.instanceMethod ({ cls := "SumsThatDifferModel", name := "wipe", desc := "()I" } : Jvm.MethodName)) ∈ TB := tb_in 1179 (by decide +kernel) rfl
theorem tw_1180 : (Jvm.Cond.selects "SumsThatDifferModel" ({ cls := "SumsThatDifferModel", name := "wipe", desc := "()I" } : Jvm.MethodName) ({ cls := "SumsThatDifferModel", name := "wipe", desc := "()I" } : Jvm.MethodName)) ∈ TB := tb_in 1180 (by decide +kernel) rfl
theorem tw_1181 : (Jvm.Cond.code ({ cls := "SumsThatDifferModel", name := "wipe", desc := "()I" } : Jvm.MethodName) prog_14_method_8_code (2 : Nat) (Option.some Jvm.ClassFile.FieldType.int)) ∈ TB := tb_in 1181 (by decide +kernel) rfl
theorem tw_1182 : (Jvm.Cond.methodLink "SumsThatDifferLaw" (26 : Nat) ({ cls := "SumsThatDifferModel", name := "fault", desc := "()I" } : Jvm.MethodName)) ∈ TB := tb_in 1182 (by decide +kernel) rfl
theorem tw_1218 : (Jvm.Cond.methodLink "SumsThatDifferLaw" (30 : Nat) ({ cls := "SumsThatDifferModel", name := "lay", desc := "()I" } : Jvm.MethodName)) ∈ TB := tb_in 1218 (by decide +kernel) rfl
theorem tw_1219 : (Jvm.Cond.instanceMethod ({ cls := "SumsThatDifferModel", name := "lay", desc := "()I" } : Jvm.MethodName)) ∈ TB := tb_in 1219 (by decide +kernel) rfl
theorem tw_1220 : (Jvm.Cond.selects "SumsThatDifferModel" ({ cls := "SumsThatDifferModel", name := "lay", desc := "()I" } : Jvm.MethodName) ({ cls := "SumsThatDifferModel", name := "lay", desc := "()I" } : Jvm.MethodName)) ∈ TB := tb_in 1220 (by decide +kernel) rfl
theorem tw_1221 : (Jvm.Cond.code ({ cls := "SumsThatDifferModel", name := "lay", desc := "()I" } : Jvm.MethodName) prog_14_method_20_code (1 : Nat) (Option.some Jvm.ClassFile.FieldType.int)) ∈ TB := tb_in 1221 (by decide +kernel) rfl
theorem tw_1223 : (Jvm.Cond.methodLink "SumsThatDifferLaw" (35 : Nat) ({ cls := "SumsThatDifferModel", name := "road", desc := "(II)I" } : Jvm.MethodName)) ∈ TB := tb_in 1223 (by decide +kernel) rfl
theorem tw_1224 : (Jvm.Cond.instanceMethod ({ cls := "SumsThatDifferModel", name := "road", desc := "(II)I" } : Jvm.MethodName)) ∈ TB := tb_in 1224 (by decide +kernel) rfl
theorem tw_1225 : (Jvm.Cond.selects "SumsThatDifferModel" ({ cls := "SumsThatDifferModel", name := "road", desc := "(II)I" } : Jvm.MethodName) ({ cls := "SumsThatDifferModel", name := "road", desc := "(II)I" } : Jvm.MethodName)) ∈ TB := tb_in 1225 (by decide +kernel) rfl
theorem tw_1226 : (Jvm.Cond.code ({ cls := "SumsThatDifferModel", name := "road", desc := "(II)I" } : Jvm.MethodName) prog_14_method_29_code (3 : Nat) (Option.some Jvm.ClassFile.FieldType.int)) ∈ TB := tb_in 1226 (by decide +kernel) rfl
theorem tw_1238 : (Jvm.Cond.methodLink "SumsThatDifferLaw" (39 : Nat) ({ cls := "SumsThatDifferModel", name := "at", desc := "(I)I" } : Jvm.MethodName)) ∈ TB := tb_in 1238 (by decide +kernel) rfl
theorem tw_1239 : (Jvm.Cond.instanceMethod ({ cls := "SumsThatDifferModel", name := "at", desc := "(I)I" } : Jvm.MethodName)) ∈ TB := tb_in 1239 (by decide +kernel) rfl
theorem tw_1240 : (Jvm.Cond.selects "SumsThatDifferModel" ({ cls := "SumsThatDifferModel", name := "at", desc := "(I)I" } : Jvm.MethodName) ({ cls := "SumsThatDifferModel", name := "at", desc := "(I)I" } : Jvm.MethodName)) ∈ TB := tb_in 1240 (by decide +kernel) rfl
theorem tw_1241 : (Jvm.Cond.code ({ cls := "SumsThatDifferModel", name := "at", desc := "(I)I" } : Jvm.MethodName) prog_14_method_30_code (2 : Nat) (Option.some Jvm.ClassFile.FieldType.int)) ∈ TB := tb_in 1241 (by decide +kernel) rfl
theorem tw_1245 : (Jvm.Cond.methodLink "SumsThatDifferLaw" (43 : Nat) ({ cls := "SumsThatDifferModel", name := "cross", desc := "(I)I" } : Jvm.MethodName)) ∈ TB := tb_in 1245 (by decide +kernel) rfl
theorem tw_1246 : (Jvm.Cond.instanceMethod ({ cls := "SumsThatDifferModel", name := "cross", desc := "(I)I" } : Jvm.MethodName)) ∈ TB := tb_in 1246 (by decide +kernel) rfl
theorem tw_1247 : (Jvm.Cond.selects "SumsThatDifferModel" ({ cls := "SumsThatDifferModel", name := "cross", desc := "(I)I" } : Jvm.MethodName) ({ cls := "SumsThatDifferModel", name := "cross", desc := "(I)I" } : Jvm.MethodName)) ∈ TB := tb_in 1247 (by decide +kernel) rfl
theorem tw_1248 : (Jvm.Cond.code ({ cls := "SumsThatDifferModel", name := "cross", desc := "(I)I" } : Jvm.MethodName) prog_14_method_33_code (2 : Nat) (Option.some Jvm.ClassFile.FieldType.int)) ∈ TB := tb_in 1248 (by decide +kernel) rfl
theorem tw_1275 : (Jvm.Cond.methodLink "SumsThatDifferLaw" (48 : Nat) ({ cls := "SumsThatDifferModel", name := "mend", desc := "(III)I" } : Jvm.MethodName)) ∈ TB := tb_in 1275 (by decide +kernel) rfl
theorem tw_1276 : (Jvm.Cond.instanceMethod ({ cls := "SumsThatDifferModel", name := "mend", desc := "(III)I" } : Jvm.MethodName)) ∈ TB := tb_in 1276 (by decide +kernel) rfl
theorem tw_1277 : (Jvm.Cond.selects "SumsThatDifferModel" ({ cls := "SumsThatDifferModel", name := "mend", desc := "(III)I" } : Jvm.MethodName) ({ cls := "SumsThatDifferModel", name := "mend", desc := "(III)I" } : Jvm.MethodName)) ∈ TB := tb_in 1277 (by decide +kernel) rfl
theorem tw_1278 : (Jvm.Cond.code ({ cls := "SumsThatDifferModel", name := "mend", desc := "(III)I" } : Jvm.MethodName) prog_14_method_34_code (5 : Nat) (Option.some Jvm.ClassFile.FieldType.int)) ∈ TB := tb_in 1278 (by decide +kernel) rfl
theorem tw_1280 : (Jvm.Cond.methodLink "SumsThatDifferLaw" (53 : Nat) ({ cls := "SumsThatDifferModel", name := "shut", desc := "(IZ)I" } : Jvm.MethodName)) ∈ TB := tb_in 1280 (by decide +kernel) rfl
theorem tw_1281 : (Jvm.Cond.instanceMethod ({ cls := "SumsThatDifferModel", name := "shut", desc := "(IZ)I" } : Jvm.MethodName)) ∈ TB := tb_in 1281 (by decide +kernel) rfl
theorem tw_1282 : (Jvm.Cond.selects "SumsThatDifferModel" ({ cls := "SumsThatDifferModel", name := "shut", desc := "(IZ)I" } : Jvm.MethodName) ({ cls := "SumsThatDifferModel", name := "shut", desc := "(IZ)I" } : Jvm.MethodName)) ∈ TB := tb_in 1282 (by decide +kernel) rfl
theorem tw_1283 : (Jvm.Cond.code ({ cls := "SumsThatDifferModel", name := "shut", desc := "(IZ)I" } : Jvm.MethodName) prog_14_method_35_code (3 : Nat) (Option.some Jvm.ClassFile.FieldType.int)) ∈ TB := tb_in 1283 (by decide +kernel) rfl
theorem tw_1287 : (Jvm.Cond.methodLink "SumsThatDifferLaw" (57 : Nat) ({ cls := "SumsThatDifferModel", name := "undo", desc := "()I" } : Jvm.MethodName)) ∈ TB := tb_in 1287 (by decide +kernel) rfl
theorem tw_1288 : (Jvm.Cond.instanceMethod ({ cls := "SumsThatDifferModel", name := "undo", desc := "()I" } : Jvm.MethodName)) ∈ TB := tb_in 1288 (by decide +kernel) rfl
theorem tw_1289 : (Jvm.Cond.selects "SumsThatDifferModel" ({ cls := "SumsThatDifferModel", name := "undo", desc := "()I" } : Jvm.MethodName) ({ cls := "SumsThatDifferModel", name := "undo", desc := "()I" } : Jvm.MethodName)) ∈ TB := tb_in 1289 (by decide +kernel) rfl
theorem tw_1290 : (Jvm.Cond.code ({ cls := "SumsThatDifferModel", name := "undo", desc := "()I" } : Jvm.MethodName) prog_14_method_36_code (1 : Nat) (Option.some Jvm.ClassFile.FieldType.int)) ∈ TB := tb_in 1290 (by decide +kernel) rfl
theorem tw_1291 : (Jvm.Cond.methodLink "SumsThatDifferLaw" (61 : Nat) ({ cls := "SumsThatDifferModel", name := "journey", desc := "(II)I" } : Jvm.MethodName)) ∈ TB := tb_in 1291 (by decide +kernel) rfl
theorem tw_1292 : (Jvm.Cond.instanceMethod ({ cls := "SumsThatDifferModel", name := "journey", desc := "(II)I" } : Jvm.MethodName)) ∈ TB := tb_in 1292 (by decide +kernel) rfl
theorem tw_1293 : (Jvm.Cond.selects "SumsThatDifferModel" ({ cls := "SumsThatDifferModel", name := "journey", desc := "(II)I" } : Jvm.MethodName) ({ cls := "SumsThatDifferModel", name := "journey", desc := "(II)I" } : Jvm.MethodName)) ∈ TB := tb_in 1293 (by decide +kernel) rfl
theorem tw_1294 : (Jvm.Cond.code ({ cls := "SumsThatDifferModel", name := "journey", desc := "(II)I" } : Jvm.MethodName) prog_14_method_38_code (3 : Nat) (Option.some Jvm.ClassFile.FieldType.int)) ∈ TB := tb_in 1294 (by decide +kernel) rfl
theorem tw_1299 : (Jvm.Cond.methodLink "SumsThatDifferLaw" (65 : Nat) ({ cls := "SumsThatDifferModel", name := "most", desc := "(II)I" } : Jvm.MethodName)) ∈ TB := tb_in 1299 (by decide +kernel) rfl
theorem tw_1300 : (Jvm.Cond.instanceMethod ({ cls := "SumsThatDifferModel", name := "most", desc := "(II)I" } : Jvm.MethodName)) ∈ TB := tb_in 1300 (by decide +kernel) rfl
theorem tw_1301 : (Jvm.Cond.selects "SumsThatDifferModel" ({ cls := "SumsThatDifferModel", name := "most", desc := "(II)I" } : Jvm.MethodName) ({ cls := "SumsThatDifferModel", name := "most", desc := "(II)I" } : Jvm.MethodName)) ∈ TB := tb_in 1301 (by decide +kernel) rfl
theorem tw_1302 : (Jvm.Cond.code ({ cls := "SumsThatDifferModel", name := "most", desc := "(II)I" } : Jvm.MethodName) prog_14_method_39_code (11 : Nat) (Option.some Jvm.ClassFile.FieldType.int)) ∈ TB := tb_in 1302 (by decide +kernel) rfl
theorem tw_1304 : (Jvm.Cond.methodLink "SumsThatDifferLaw" (69 : Nat) ({ cls := "SumsThatDifferModel", name := "round", desc := "(I)I" } : Jvm.MethodName)) ∈ TB := tb_in 1304 (by decide +kernel) rfl
theorem tw_1305 : (Jvm.Cond.instanceMethod ({ cls := "SumsThatDifferModel", name := "round", desc := "(I)I" } : Jvm.MethodName)) ∈ TB := tb_in 1305 (by decide +kernel) rfl
theorem tw_1306 : (Jvm.Cond.selects "SumsThatDifferModel" ({ cls := "SumsThatDifferModel", name := "round", desc := "(I)I" } : Jvm.MethodName) ({ cls := "SumsThatDifferModel", name := "round", desc := "(I)I" } : Jvm.MethodName)) ∈ TB := tb_in 1306 (by decide +kernel) rfl
theorem tw_1307 : (Jvm.Cond.code ({ cls := "SumsThatDifferModel", name := "round", desc := "(I)I" } : Jvm.MethodName) prog_14_method_41_code (3 : Nat) (Option.some Jvm.ClassFile.FieldType.int)) ∈ TB := tb_in 1307 (by decide +kernel) rfl
theorem tw_1312 : (Jvm.Cond.methodLink "SumsThatDifferLaw" (73 : Nat) ({ cls := "SumsThatDifferModel", name := "agree", desc := "()I" } : Jvm.MethodName)) ∈ TB := tb_in 1312 (by decide +kernel) rfl
theorem tw_1313 : (Jvm.Cond.instanceMethod ({ cls := "SumsThatDifferModel", name := "agree", desc := "()I" } : Jvm.MethodName)) ∈ TB := tb_in 1313 (by decide +kernel) rfl
theorem tw_1314 : (Jvm.Cond.selects "SumsThatDifferModel" ({ cls := "SumsThatDifferModel", name := "agree", desc := "()I" } : Jvm.MethodName) ({ cls := "SumsThatDifferModel", name := "agree", desc := "()I" } : Jvm.MethodName)) ∈ TB := tb_in 1314 (by decide +kernel) rfl
theorem tw_1315 : (Jvm.Cond.code ({ cls := "SumsThatDifferModel", name := "agree", desc := "()I" } : Jvm.MethodName) prog_14_method_45_code (1 : Nat) (Option.some Jvm.ClassFile.FieldType.int)) ∈ TB := tb_in 1315 (by decide +kernel) rfl
theorem tw_1328 : (Jvm.Cond.methodLink "SumsThatDifferLaw" (77 : Nat) ({ cls := "SumsThatDifferModel", name := "height", desc := "(I)I" } : Jvm.MethodName)) ∈ TB := tb_in 1328 (by decide +kernel) rfl
theorem tw_1329 : (Jvm.Cond.instanceMethod ({ cls := "SumsThatDifferModel", name := "height", desc := "(I)I" } : Jvm.MethodName)) ∈ TB := tb_in 1329 (by decide +kernel) rfl
theorem tw_1330 : (Jvm.Cond.selects "SumsThatDifferModel" ({ cls := "SumsThatDifferModel", name := "height", desc := "(I)I" } : Jvm.MethodName) ({ cls := "SumsThatDifferModel", name := "height", desc := "(I)I" } : Jvm.MethodName)) ∈ TB := tb_in 1330 (by decide +kernel) rfl
theorem tw_1331 : (Jvm.Cond.code ({ cls := "SumsThatDifferModel", name := "height", desc := "(I)I" } : Jvm.MethodName) prog_14_method_46_code (2 : Nat) (Option.some Jvm.ClassFile.FieldType.int)) ∈ TB := tb_in 1331 (by decide +kernel) rfl
theorem tw_1336 : (Jvm.Cond.methodLink "SumsThatDifferLaw" (81 : Nat) ({ cls := "SumsThatDifferModel", name := "ring", desc := "(I)I" } : Jvm.MethodName)) ∈ TB := tb_in 1336 (by decide +kernel) rfl
theorem tw_1337 : (Jvm.Cond.instanceMethod ({ cls := "SumsThatDifferModel", name := "ring", desc := "(I)I" } : Jvm.MethodName)) ∈ TB := tb_in 1337 (by decide +kernel) rfl
theorem tw_1338 : (Jvm.Cond.selects "SumsThatDifferModel" ({ cls := "SumsThatDifferModel", name := "ring", desc := "(I)I" } : Jvm.MethodName) ({ cls := "SumsThatDifferModel", name := "ring", desc := "(I)I" } : Jvm.MethodName)) ∈ TB := tb_in 1338 (by decide +kernel) rfl
theorem tw_1339 : (Jvm.Cond.code ({ cls := "SumsThatDifferModel", name := "ring", desc := "(I)I" } : Jvm.MethodName) prog_14_method_49_code (6 : Nat) (Option.some Jvm.ClassFile.FieldType.int)) ∈ TB := tb_in 1339 (by decide +kernel) rfl
theorem tw_1350 : (Jvm.Cond.methodLink "SumsThatDifferLaw" (85 : Nat) ({ cls := "SumsThatDifferModel", name := "fewest", desc := "()I" } : Jvm.MethodName)) ∈ TB := tb_in 1350 (by decide +kernel) rfl
theorem tw_1351 : (Jvm.Cond.instanceMethod ({ cls := "SumsThatDifferModel", name := "fewest", desc := "()I" } : Jvm.MethodName)) ∈ TB := tb_in 1351 (by decide +kernel) rfl
theorem tw_1352 : (Jvm.Cond.selects "SumsThatDifferModel" ({ cls := "SumsThatDifferModel", name := "fewest", desc := "()I" } : Jvm.MethodName) ({ cls := "SumsThatDifferModel", name := "fewest", desc := "()I" } : Jvm.MethodName)) ∈ TB := tb_in 1352 (by decide +kernel) rfl
theorem tw_1353 : (Jvm.Cond.code ({ cls := "SumsThatDifferModel", name := "fewest", desc := "()I" } : Jvm.MethodName) prog_14_method_50_code (4 : Nat) (Option.some Jvm.ClassFile.FieldType.int)) ∈ TB := tb_in 1353 (by decide +kernel) rfl
theorem tw_1354 : (Jvm.Cond.methodLink "SumsThatDifferLaw" (89 : Nat) ({ cls := "SumsThatDifferModel", name := "third", desc := "(II)I" } : Jvm.MethodName)) ∈ TB := tb_in 1354 (by decide +kernel) rfl
theorem tw_1355 : (Jvm.Cond.instanceMethod ({ cls := "SumsThatDifferModel", name := "third", desc := "(II)I" } : Jvm.MethodName)) ∈ TB := tb_in 1355 (by decide +kernel) rfl
theorem tw_1356 : (Jvm.Cond.selects "SumsThatDifferModel" ({ cls := "SumsThatDifferModel", name := "third", desc := "(II)I" } : Jvm.MethodName) ({ cls := "SumsThatDifferModel", name := "third", desc := "(II)I" } : Jvm.MethodName)) ∈ TB := tb_in 1356 (by decide +kernel) rfl
theorem tw_1357 : (Jvm.Cond.code ({ cls := "SumsThatDifferModel", name := "third", desc := "(II)I" } : Jvm.MethodName) prog_14_method_51_code (4 : Nat) (Option.some Jvm.ClassFile.FieldType.int)) ∈ TB := tb_in 1357 (by decide +kernel) rfl
theorem tw_1358 : (Jvm.Cond.methodLink "SumsThatDifferLaw" (94 : Nat) ({ cls := "SumsThatDifferModel", name := "tell", desc := "(IIIII)I" } : Jvm.MethodName)) ∈ TB := tb_in 1358 (by decide +kernel) rfl
theorem tw_1359 : (Jvm.Cond.instanceMethod ({ cls := "SumsThatDifferModel", name := "tell", desc := "(IIIII)I" } : Jvm.MethodName)) ∈ TB := tb_in 1359 (by decide +kernel) rfl
theorem tw_1360 : (Jvm.Cond.selects "SumsThatDifferModel" ({ cls := "SumsThatDifferModel", name := "tell", desc := "(IIIII)I" } : Jvm.MethodName) ({ cls := "SumsThatDifferModel", name := "tell", desc := "(IIIII)I" } : Jvm.MethodName)) ∈ TB := tb_in 1360 (by decide +kernel) rfl
theorem tw_1361 : (Jvm.Cond.code ({ cls := "SumsThatDifferModel", name := "tell", desc := "(IIIII)I" } : Jvm.MethodName) prog_14_method_52_code (8 : Nat) (Option.some Jvm.ClassFile.FieldType.int)) ∈ TB := tb_in 1361 (by decide +kernel) rfl
theorem tw_1363 : (Jvm.Cond.methodLink "SumsThatDifferLaw" (98 : Nat) ({ cls := "SumsThatDifferModel", name := "forget", desc := "()I" } : Jvm.MethodName)) ∈ TB := tb_in 1363 (by decide +kernel) rfl
theorem tw_1364 : (Jvm.Cond.instanceMethod ({ cls := "SumsThatDifferModel", name := "forget", desc := "()I" } : Jvm.MethodName)) ∈ TB := tb_in 1364 (by decide +kernel) rfl
theorem tw_1365 : (Jvm.Cond.selects "SumsThatDifferModel" ({ cls := "SumsThatDifferModel", name := "forget", desc := "()I" } : Jvm.MethodName) ({ cls := "SumsThatDifferModel", name := "forget", desc := "()I" } : Jvm.MethodName)) ∈ TB := tb_in 1365 (by decide +kernel) rfl
theorem tw_1366 : (Jvm.Cond.code ({ cls := "SumsThatDifferModel", name := "forget", desc := "()I" } : Jvm.MethodName) prog_14_method_53_code (2 : Nat) (Option.some Jvm.ClassFile.FieldType.int)) ∈ TB := tb_in 1366 (by decide +kernel) rfl
theorem tw_1367 : (Jvm.Cond.methodLink "SumsThatDifferLaw" (102 : Nat) ({ cls := "SumsThatDifferModel", name := "wrong", desc := "()I" } : Jvm.MethodName)) ∈ TB := tb_in 1367 (by decide +kernel) rfl
theorem tw_1368 : (Jvm.Cond.instanceMethod ({ cls := "SumsThatDifferModel", name := "wrong", desc := "()I" } : Jvm.MethodName)) ∈ TB := tb_in 1368 (by decide +kernel) rfl
theorem tw_1369 : (Jvm.Cond.selects "SumsThatDifferModel" ({ cls := "SumsThatDifferModel", name := "wrong", desc := "()I" } : Jvm.MethodName) ({ cls := "SumsThatDifferModel", name := "wrong", desc := "()I" } : Jvm.MethodName)) ∈ TB := tb_in 1369 (by decide +kernel) rfl
theorem tw_1370 : (Jvm.Cond.code ({ cls := "SumsThatDifferModel", name := "wrong", desc := "()I" } : Jvm.MethodName) prog_14_method_57_code (1 : Nat) (Option.some Jvm.ClassFile.FieldType.int)) ∈ TB := tb_in 1370 (by decide +kernel) rfl
theorem tw_1383 : (Jvm.Cond.methodLink "SumsThatDifferLaw" (106 : Nat) ({ cls := "SumsThatDifferModel", name := "walk", desc := "(I)I" } : Jvm.MethodName)) ∈ TB := tb_in 1383 (by decide +kernel) rfl
theorem tw_1384 : (Jvm.Cond.instanceMethod ({ cls := "SumsThatDifferModel", name := "walk", desc := "(I)I" } : Jvm.MethodName)) ∈ TB := tb_in 1384 (by decide +kernel) rfl
theorem tw_1385 : (Jvm.Cond.selects "SumsThatDifferModel" ({ cls := "SumsThatDifferModel", name := "walk", desc := "(I)I" } : Jvm.MethodName) ({ cls := "SumsThatDifferModel", name := "walk", desc := "(I)I" } : Jvm.MethodName)) ∈ TB := tb_in 1385 (by decide +kernel) rfl
theorem tw_1386 : (Jvm.Cond.code ({ cls := "SumsThatDifferModel", name := "walk", desc := "(I)I" } : Jvm.MethodName) prog_14_method_59_code (7 : Nat) (Option.some Jvm.ClassFile.FieldType.int)) ∈ TB := tb_in 1386 (by decide +kernel) rfl
theorem tw_1391 : (Jvm.Cond.methodLink "SumsThatDifferLaw" (110 : Nat) ({ cls := "SumsThatDifferModel", name := "byTurns", desc := "(I)I" } : Jvm.MethodName)) ∈ TB := tb_in 1391 (by decide +kernel) rfl
theorem tw_1392 : (Jvm.Cond.instanceMethod ({ cls := "SumsThatDifferModel", name := "byTurns", desc := "(I)I" } : Jvm.MethodName)) ∈ TB := tb_in 1392 (by decide +kernel) rfl
theorem tw_1393 : (Jvm.Cond.selects "SumsThatDifferModel" ({ cls := "SumsThatDifferModel", name := "byTurns", desc := "(I)I" } : Jvm.MethodName) ({ cls := "SumsThatDifferModel", name := "byTurns", desc := "(I)I" } : Jvm.MethodName)) ∈ TB := tb_in 1393 (by decide +kernel) rfl
theorem tw_1394 : (Jvm.Cond.code ({ cls := "SumsThatDifferModel", name := "byTurns", desc := "(I)I" } : Jvm.MethodName) prog_14_method_60_code (6 : Nat) (Option.some Jvm.ClassFile.FieldType.int)) ∈ TB := tb_in 1394 (by decide +kernel) rfl
theorem tw_1395 : (Jvm.Cond.methodLink "SumsThatDifferLaw" (115 : Nat) ({ cls := "SumsThatDifferModel", name := "weather", desc := "(IIII)I" } : Jvm.MethodName)) ∈ TB := tb_in 1395 (by decide +kernel) rfl
theorem tw_1396 : (Jvm.Cond.instanceMethod ({ cls := "SumsThatDifferModel", name := "weather", desc := "(IIII)I" } : Jvm.MethodName)) ∈ TB := tb_in 1396 (by decide +kernel) rfl
theorem tw_1397 : (Jvm.Cond.selects "SumsThatDifferModel" ({ cls := "SumsThatDifferModel", name := "weather", desc := "(IIII)I" } : Jvm.MethodName) ({ cls := "SumsThatDifferModel", name := "weather", desc := "(IIII)I" } : Jvm.MethodName)) ∈ TB := tb_in 1397 (by decide +kernel) rfl
theorem tw_1398 : (Jvm.Cond.code ({ cls := "SumsThatDifferModel", name := "weather", desc := "(IIII)I" } : Jvm.MethodName) prog_14_method_62_code (16 : Nat) (Option.some Jvm.ClassFile.FieldType.int)) ∈ TB := tb_in 1398 (by decide +kernel) rfl
theorem tw_1404 : (Jvm.Cond.methodLink "SumsThatDifferLaw" (119 : Nat) ({ cls := "SumsThatDifferModel", name := "year", desc := "(III)I" } : Jvm.MethodName)) ∈ TB := tb_in 1404 (by decide +kernel) rfl
theorem tw_1405 : (Jvm.Cond.instanceMethod ({ cls := "SumsThatDifferModel", name := "year", desc := "(III)I" } : Jvm.MethodName)) ∈ TB := tb_in 1405 (by decide +kernel) rfl
theorem tw_1406 : (Jvm.Cond.selects "SumsThatDifferModel" ({ cls := "SumsThatDifferModel", name := "year", desc := "(III)I" } : Jvm.MethodName) ({ cls := "SumsThatDifferModel", name := "year", desc := "(III)I" } : Jvm.MethodName)) ∈ TB := tb_in 1406 (by decide +kernel) rfl
theorem tw_1407 : (Jvm.Cond.code ({ cls := "SumsThatDifferModel", name := "year", desc := "(III)I" } : Jvm.MethodName) prog_14_method_63_code (11 : Nat) (Option.some Jvm.ClassFile.FieldType.int)) ∈ TB := tb_in 1407 (by decide +kernel) rfl
theorem tw_1413 : (Jvm.Cond.methodLink "SumsThatDifferLaw" (123 : Nat) ({ cls := "SumsThatDifferModel", name := "keep", desc := "()I" } : Jvm.MethodName)) ∈ TB := tb_in 1413 (by decide +kernel) rfl
theorem tw_1414 : (Jvm.Cond.instanceMethod ({ cls := "SumsThatDifferModel", name := "keep", desc := "()I" } : Jvm.MethodName)) ∈ TB := tb_in 1414 (by decide +kernel) rfl
theorem tw_1415 : (Jvm.Cond.selects "SumsThatDifferModel" ({ cls := "SumsThatDifferModel", name := "keep", desc := "()I" } : Jvm.MethodName) ({ cls := "SumsThatDifferModel", name := "keep", desc := "()I" } : Jvm.MethodName)) ∈ TB := tb_in 1415 (by decide +kernel) rfl
theorem tw_1416 : (Jvm.Cond.code ({ cls := "SumsThatDifferModel", name := "keep", desc := "()I" } : Jvm.MethodName) prog_14_method_64_code (1 : Nat) (Option.some Jvm.ClassFile.FieldType.int)) ∈ TB := tb_in 1416 (by decide +kernel) rfl
theorem tw_1417 : (Jvm.Cond.methodLink "SumsThatDifferLaw" (127 : Nat) ({ cls := "SumsThatDifferModel", name := "back", desc := "()I" } : Jvm.MethodName)) ∈ TB := tb_in 1417 (by decide +kernel) rfl
theorem tw_1418 : (Jvm.Cond.instanceMethod ({ cls := "SumsThatDifferModel", name := "back", desc := "()I" } : Jvm.MethodName)) ∈ TB := tb_in 1418 (by decide +kernel) rfl
theorem tw_1419 : (Jvm.Cond.selects "SumsThatDifferModel" ({ cls := "SumsThatDifferModel", name := "back", desc := "()I" } : Jvm.MethodName) ({ cls := "SumsThatDifferModel", name := "back", desc := "()I" } : Jvm.MethodName)) ∈ TB := tb_in 1419 (by decide +kernel) rfl
theorem tw_1420 : (Jvm.Cond.code ({ cls := "SumsThatDifferModel", name := "back", desc := "()I" } : Jvm.MethodName) prog_14_method_65_code (1 : Nat) (Option.some Jvm.ClassFile.FieldType.int)) ∈ TB := tb_in 1420 (by decide +kernel) rfl
theorem tw_1421 : (Jvm.Cond.methodLink "SumsThatDifferLaw" (131 : Nat) ({ cls := "SumsThatDifferModel", name := "count", desc := "(I)I" } : Jvm.MethodName)) ∈ TB := tb_in 1421 (by decide +kernel) rfl
theorem tw_1422 : (Jvm.Cond.instanceMethod ({ cls := "SumsThatDifferModel", name := "count", desc := "(I)I" } : Jvm.MethodName)) ∈ TB := tb_in 1422 (by decide +kernel) rfl
theorem tw_1423 : (Jvm.Cond.selects "SumsThatDifferModel" ({ cls := "SumsThatDifferModel", name := "count", desc := "(I)I" } : Jvm.MethodName) ({ cls := "SumsThatDifferModel", name := "count", desc := "(I)I" } : Jvm.MethodName)) ∈ TB := tb_in 1423 (by decide +kernel) rfl
theorem tw_1424 : (Jvm.Cond.code ({ cls := "SumsThatDifferModel", name := "count", desc := "(I)I" } : Jvm.MethodName) prog_14_method_66_code (2 : Nat) (Option.some Jvm.ClassFile.FieldType.int)) ∈ TB := tb_in 1424 (by decide +kernel) rfl
theorem oL_Su_write : lwOK m_Su_write 11 1 13 := ⟨⟨_, _, rfl⟩, tw_601, tw_603, tw_64, ⟨by decide +kernel, by decide +kernel, by decide +kernel⟩, ⟨Nat.le_of_ble_eq_true rfl, Nat.le_of_ble_eq_true rfl⟩, tw_600⟩
theorem oL_Mo_write : lwOK m_Mo_write 12 1 17 := ⟨⟨_, _, rfl⟩, tw_1170, tw_1172, tw_81, ⟨by decide +kernel, by decide +kernel, by decide +kernel⟩, ⟨Nat.le_of_ble_eq_true rfl, Nat.le_of_ble_eq_true rfl⟩, tw_1169⟩
theorem oL_Su_wipe : lwOK m_Su_wipe 11 0 18 := ⟨⟨_, _, rfl⟩, tw_605, tw_607, tw_64, ⟨by decide +kernel, by decide +kernel, by decide +kernel⟩, ⟨Nat.le_of_ble_eq_true rfl, Nat.le_of_ble_eq_true rfl⟩, tw_604⟩
theorem oL_Mo_wipe : lwOK m_Mo_wipe 12 0 22 := ⟨⟨_, _, rfl⟩, tw_1179, tw_1181, tw_81, ⟨by decide +kernel, by decide +kernel, by decide +kernel⟩, ⟨Nat.le_of_ble_eq_true rfl, Nat.le_of_ble_eq_true rfl⟩, tw_1178⟩
theorem oL_Su_fault : lwOK m_Su_fault 11 0 23 := ⟨⟨_, _, rfl⟩, tw_609, tw_611, tw_64, ⟨by decide +kernel, by decide +kernel, by decide +kernel⟩, ⟨Nat.le_of_ble_eq_true rfl, Nat.le_of_ble_eq_true rfl⟩, tw_608⟩
theorem oL_Mo_fault : lwOK m_Mo_fault 12 0 26 := ⟨⟨_, _, rfl⟩, tw_1183, tw_1185, tw_81, ⟨by decide +kernel, by decide +kernel, by decide +kernel⟩, ⟨Nat.le_of_ble_eq_true rfl, Nat.le_of_ble_eq_true rfl⟩, tw_1182⟩
theorem oL_Su_lay : lwOK m_Su_lay 11 0 27 := ⟨⟨_, _, rfl⟩, tw_613, tw_615, tw_64, ⟨by decide +kernel, by decide +kernel, by decide +kernel⟩, ⟨Nat.le_of_ble_eq_true rfl, Nat.le_of_ble_eq_true rfl⟩, tw_612⟩
theorem oL_Mo_lay : lwOK m_Mo_lay 12 0 30 := ⟨⟨_, _, rfl⟩, tw_1219, tw_1221, tw_81, ⟨by decide +kernel, by decide +kernel, by decide +kernel⟩, ⟨Nat.le_of_ble_eq_true rfl, Nat.le_of_ble_eq_true rfl⟩, tw_1218⟩
theorem oL_Su_road : lwOK m_Su_road 11 2 31 := ⟨⟨_, _, rfl⟩, tw_621, tw_623, tw_64, ⟨by decide +kernel, by decide +kernel, by decide +kernel⟩, ⟨Nat.le_of_ble_eq_true rfl, Nat.le_of_ble_eq_true rfl⟩, tw_620⟩
theorem oL_Mo_road : lwOK m_Mo_road 12 2 35 := ⟨⟨_, _, rfl⟩, tw_1224, tw_1226, tw_81, ⟨by decide +kernel, by decide +kernel, by decide +kernel⟩, ⟨Nat.le_of_ble_eq_true rfl, Nat.le_of_ble_eq_true rfl⟩, tw_1223⟩
theorem oL_Su_at : lwOK m_Su_at 11 1 36 := ⟨⟨_, _, rfl⟩, tw_642, tw_644, tw_64, ⟨by decide +kernel, by decide +kernel, by decide +kernel⟩, ⟨Nat.le_of_ble_eq_true rfl, Nat.le_of_ble_eq_true rfl⟩, tw_641⟩
theorem oL_Mo_at : lwOK m_Mo_at 12 1 39 := ⟨⟨_, _, rfl⟩, tw_1239, tw_1241, tw_81, ⟨by decide +kernel, by decide +kernel, by decide +kernel⟩, ⟨Nat.le_of_ble_eq_true rfl, Nat.le_of_ble_eq_true rfl⟩, tw_1238⟩
theorem oL_Su_cross : lwOK m_Su_cross 11 1 40 := ⟨⟨_, _, rfl⟩, tw_646, tw_648, tw_64, ⟨by decide +kernel, by decide +kernel, by decide +kernel⟩, ⟨Nat.le_of_ble_eq_true rfl, Nat.le_of_ble_eq_true rfl⟩, tw_645⟩
theorem oL_Mo_cross : lwOK m_Mo_cross 12 1 43 := ⟨⟨_, _, rfl⟩, tw_1246, tw_1248, tw_81, ⟨by decide +kernel, by decide +kernel, by decide +kernel⟩, ⟨Nat.le_of_ble_eq_true rfl, Nat.le_of_ble_eq_true rfl⟩, tw_1245⟩
theorem oL_Su_mend : lwOK m_Su_mend 11 3 44 := ⟨⟨_, _, rfl⟩, tw_700, tw_702, tw_64, ⟨by decide +kernel, by decide +kernel, by decide +kernel⟩, ⟨Nat.le_of_ble_eq_true rfl, Nat.le_of_ble_eq_true rfl⟩, tw_699⟩
theorem oL_Mo_mend : lwOK m_Mo_mend 12 3 48 := ⟨⟨_, _, rfl⟩, tw_1276, tw_1278, tw_81, ⟨by decide +kernel, by decide +kernel, by decide +kernel⟩, ⟨Nat.le_of_ble_eq_true rfl, Nat.le_of_ble_eq_true rfl⟩, tw_1275⟩
theorem oL_Su_shut : lwOK m_Su_shut 11 2 49 := ⟨⟨_, _, rfl⟩, tw_707, tw_709, tw_64, ⟨by decide +kernel, by decide +kernel, by decide +kernel⟩, ⟨Nat.le_of_ble_eq_true rfl, Nat.le_of_ble_eq_true rfl⟩, tw_706⟩
theorem oL_Mo_shut : lwOK m_Mo_shut 12 2 53 := ⟨⟨_, _, rfl⟩, tw_1281, tw_1283, tw_81, ⟨by decide +kernel, by decide +kernel, by decide +kernel⟩, ⟨Nat.le_of_ble_eq_true rfl, Nat.le_of_ble_eq_true rfl⟩, tw_1280⟩
theorem oL_Su_undo : lwOK m_Su_undo 11 0 54 := ⟨⟨_, _, rfl⟩, tw_721, tw_723, tw_64, ⟨by decide +kernel, by decide +kernel, by decide +kernel⟩, ⟨Nat.le_of_ble_eq_true rfl, Nat.le_of_ble_eq_true rfl⟩, tw_720⟩
theorem oL_Mo_undo : lwOK m_Mo_undo 12 0 57 := ⟨⟨_, _, rfl⟩, tw_1288, tw_1290, tw_81, ⟨by decide +kernel, by decide +kernel, by decide +kernel⟩, ⟨Nat.le_of_ble_eq_true rfl, Nat.le_of_ble_eq_true rfl⟩, tw_1287⟩
theorem oL_Su_journey : lwOK m_Su_journey 11 2 58 := ⟨⟨_, _, rfl⟩, tw_733, tw_735, tw_64, ⟨by decide +kernel, by decide +kernel, by decide +kernel⟩, ⟨Nat.le_of_ble_eq_true rfl, Nat.le_of_ble_eq_true rfl⟩, tw_732⟩
theorem oL_Mo_journey : lwOK m_Mo_journey 12 2 61 := ⟨⟨_, _, rfl⟩, tw_1292, tw_1294, tw_81, ⟨by decide +kernel, by decide +kernel, by decide +kernel⟩, ⟨Nat.le_of_ble_eq_true rfl, Nat.le_of_ble_eq_true rfl⟩, tw_1291⟩
theorem oL_Su_most : lwOK m_Su_most 11 2 62 := ⟨⟨_, _, rfl⟩, tw_755, tw_757, tw_64, ⟨by decide +kernel, by decide +kernel, by decide +kernel⟩, ⟨Nat.le_of_ble_eq_true rfl, Nat.le_of_ble_eq_true rfl⟩, tw_754⟩
theorem oL_Mo_most : lwOK m_Mo_most 12 2 65 := ⟨⟨_, _, rfl⟩, tw_1300, tw_1302, tw_81, ⟨by decide +kernel, by decide +kernel, by decide +kernel⟩, ⟨Nat.le_of_ble_eq_true rfl, Nat.le_of_ble_eq_true rfl⟩, tw_1299⟩
theorem oL_Su_round : lwOK m_Su_round 11 1 66 := ⟨⟨_, _, rfl⟩, tw_796, tw_798, tw_64, ⟨by decide +kernel, by decide +kernel, by decide +kernel⟩, ⟨Nat.le_of_ble_eq_true rfl, Nat.le_of_ble_eq_true rfl⟩, tw_795⟩
theorem oL_Mo_round : lwOK m_Mo_round 12 1 69 := ⟨⟨_, _, rfl⟩, tw_1305, tw_1307, tw_81, ⟨by decide +kernel, by decide +kernel, by decide +kernel⟩, ⟨Nat.le_of_ble_eq_true rfl, Nat.le_of_ble_eq_true rfl⟩, tw_1304⟩
theorem oL_Su_agree : lwOK m_Su_agree 11 0 70 := ⟨⟨_, _, rfl⟩, tw_827, tw_829, tw_64, ⟨by decide +kernel, by decide +kernel, by decide +kernel⟩, ⟨Nat.le_of_ble_eq_true rfl, Nat.le_of_ble_eq_true rfl⟩, tw_826⟩
theorem oL_Mo_agree : lwOK m_Mo_agree 12 0 73 := ⟨⟨_, _, rfl⟩, tw_1313, tw_1315, tw_81, ⟨by decide +kernel, by decide +kernel, by decide +kernel⟩, ⟨Nat.le_of_ble_eq_true rfl, Nat.le_of_ble_eq_true rfl⟩, tw_1312⟩
theorem oL_Su_height : lwOK m_Su_height 11 1 74 := ⟨⟨_, _, rfl⟩, tw_871, tw_873, tw_64, ⟨by decide +kernel, by decide +kernel, by decide +kernel⟩, ⟨Nat.le_of_ble_eq_true rfl, Nat.le_of_ble_eq_true rfl⟩, tw_870⟩
theorem oL_Mo_height : lwOK m_Mo_height 12 1 77 := ⟨⟨_, _, rfl⟩, tw_1329, tw_1331, tw_81, ⟨by decide +kernel, by decide +kernel, by decide +kernel⟩, ⟨Nat.le_of_ble_eq_true rfl, Nat.le_of_ble_eq_true rfl⟩, tw_1328⟩
theorem oL_Su_ring : lwOK m_Su_ring 11 1 78 := ⟨⟨_, _, rfl⟩, tw_877, tw_879, tw_64, ⟨by decide +kernel, by decide +kernel, by decide +kernel⟩, ⟨Nat.le_of_ble_eq_true rfl, Nat.le_of_ble_eq_true rfl⟩, tw_876⟩
theorem oL_Mo_ring : lwOK m_Mo_ring 12 1 81 := ⟨⟨_, _, rfl⟩, tw_1337, tw_1339, tw_81, ⟨by decide +kernel, by decide +kernel, by decide +kernel⟩, ⟨Nat.le_of_ble_eq_true rfl, Nat.le_of_ble_eq_true rfl⟩, tw_1336⟩
theorem oL_Su_fewest : lwOK m_Su_fewest 11 0 82 := ⟨⟨_, _, rfl⟩, tw_912, tw_914, tw_64, ⟨by decide +kernel, by decide +kernel, by decide +kernel⟩, ⟨Nat.le_of_ble_eq_true rfl, Nat.le_of_ble_eq_true rfl⟩, tw_911⟩
theorem oL_Mo_fewest : lwOK m_Mo_fewest 12 0 85 := ⟨⟨_, _, rfl⟩, tw_1351, tw_1353, tw_81, ⟨by decide +kernel, by decide +kernel, by decide +kernel⟩, ⟨Nat.le_of_ble_eq_true rfl, Nat.le_of_ble_eq_true rfl⟩, tw_1350⟩
theorem oL_Su_third : lwOK m_Su_third 11 2 86 := ⟨⟨_, _, rfl⟩, tw_925, tw_927, tw_64, ⟨by decide +kernel, by decide +kernel, by decide +kernel⟩, ⟨Nat.le_of_ble_eq_true rfl, Nat.le_of_ble_eq_true rfl⟩, tw_924⟩
theorem oL_Mo_third : lwOK m_Mo_third 12 2 89 := ⟨⟨_, _, rfl⟩, tw_1355, tw_1357, tw_81, ⟨by decide +kernel, by decide +kernel, by decide +kernel⟩, ⟨Nat.le_of_ble_eq_true rfl, Nat.le_of_ble_eq_true rfl⟩, tw_1354⟩
theorem oL_Su_tell : lwOK m_Su_tell 11 5 90 := ⟨⟨_, _, rfl⟩, tw_933, tw_935, tw_64, ⟨by decide +kernel, by decide +kernel, by decide +kernel⟩, ⟨Nat.le_of_ble_eq_true rfl, Nat.le_of_ble_eq_true rfl⟩, tw_932⟩
theorem oL_Mo_tell : lwOK m_Mo_tell 12 5 94 := ⟨⟨_, _, rfl⟩, tw_1359, tw_1361, tw_81, ⟨by decide +kernel, by decide +kernel, by decide +kernel⟩, ⟨Nat.le_of_ble_eq_true rfl, Nat.le_of_ble_eq_true rfl⟩, tw_1358⟩
theorem oL_Su_forget : lwOK m_Su_forget 11 0 95 := ⟨⟨_, _, rfl⟩, tw_950, tw_952, tw_64, ⟨by decide +kernel, by decide +kernel, by decide +kernel⟩, ⟨Nat.le_of_ble_eq_true rfl, Nat.le_of_ble_eq_true rfl⟩, tw_949⟩
theorem oL_Mo_forget : lwOK m_Mo_forget 12 0 98 := ⟨⟨_, _, rfl⟩, tw_1364, tw_1366, tw_81, ⟨by decide +kernel, by decide +kernel, by decide +kernel⟩, ⟨Nat.le_of_ble_eq_true rfl, Nat.le_of_ble_eq_true rfl⟩, tw_1363⟩
theorem oL_Su_wrong : lwOK m_Su_wrong 11 0 99 := ⟨⟨_, _, rfl⟩, tw_954, tw_956, tw_64, ⟨by decide +kernel, by decide +kernel, by decide +kernel⟩, ⟨Nat.le_of_ble_eq_true rfl, Nat.le_of_ble_eq_true rfl⟩, tw_953⟩
theorem oL_Mo_wrong : lwOK m_Mo_wrong 12 0 102 := ⟨⟨_, _, rfl⟩, tw_1368, tw_1370, tw_81, ⟨by decide +kernel, by decide +kernel, by decide +kernel⟩, ⟨Nat.le_of_ble_eq_true rfl, Nat.le_of_ble_eq_true rfl⟩, tw_1367⟩
theorem oL_Su_walk : lwOK m_Su_walk 11 1 103 := ⟨⟨_, _, rfl⟩, tw_987, tw_989, tw_64, ⟨by decide +kernel, by decide +kernel, by decide +kernel⟩, ⟨Nat.le_of_ble_eq_true rfl, Nat.le_of_ble_eq_true rfl⟩, tw_986⟩
theorem oL_Mo_walk : lwOK m_Mo_walk 12 1 106 := ⟨⟨_, _, rfl⟩, tw_1384, tw_1386, tw_81, ⟨by decide +kernel, by decide +kernel, by decide +kernel⟩, ⟨Nat.le_of_ble_eq_true rfl, Nat.le_of_ble_eq_true rfl⟩, tw_1383⟩
theorem oL_Su_byTurns : lwOK m_Su_byTurns 11 1 107 := ⟨⟨_, _, rfl⟩, tw_1001, tw_1003, tw_64, ⟨by decide +kernel, by decide +kernel, by decide +kernel⟩, ⟨Nat.le_of_ble_eq_true rfl, Nat.le_of_ble_eq_true rfl⟩, tw_1000⟩
theorem oL_Mo_byTurns : lwOK m_Mo_byTurns 12 1 110 := ⟨⟨_, _, rfl⟩, tw_1392, tw_1394, tw_81, ⟨by decide +kernel, by decide +kernel, by decide +kernel⟩, ⟨Nat.le_of_ble_eq_true rfl, Nat.le_of_ble_eq_true rfl⟩, tw_1391⟩
theorem oL_Su_weather : lwOK m_Su_weather 11 4 111 := ⟨⟨_, _, rfl⟩, tw_1005, tw_1007, tw_64, ⟨by decide +kernel, by decide +kernel, by decide +kernel⟩, ⟨Nat.le_of_ble_eq_true rfl, Nat.le_of_ble_eq_true rfl⟩, tw_1004⟩
theorem oL_Mo_weather : lwOK m_Mo_weather 12 4 115 := ⟨⟨_, _, rfl⟩, tw_1396, tw_1398, tw_81, ⟨by decide +kernel, by decide +kernel, by decide +kernel⟩, ⟨Nat.le_of_ble_eq_true rfl, Nat.le_of_ble_eq_true rfl⟩, tw_1395⟩
theorem oL_Su_year : lwOK m_Su_year 11 3 116 := ⟨⟨_, _, rfl⟩, tw_1034, tw_1036, tw_64, ⟨by decide +kernel, by decide +kernel, by decide +kernel⟩, ⟨Nat.le_of_ble_eq_true rfl, Nat.le_of_ble_eq_true rfl⟩, tw_1033⟩
theorem oL_Mo_year : lwOK m_Mo_year 12 3 119 := ⟨⟨_, _, rfl⟩, tw_1405, tw_1407, tw_81, ⟨by decide +kernel, by decide +kernel, by decide +kernel⟩, ⟨Nat.le_of_ble_eq_true rfl, Nat.le_of_ble_eq_true rfl⟩, tw_1404⟩
theorem oL_Su_keep : lwOK m_Su_keep 11 0 120 := ⟨⟨_, _, rfl⟩, tw_1050, tw_1052, tw_64, ⟨by decide +kernel, by decide +kernel, by decide +kernel⟩, ⟨Nat.le_of_ble_eq_true rfl, Nat.le_of_ble_eq_true rfl⟩, tw_1049⟩
theorem oL_Mo_keep : lwOK m_Mo_keep 12 0 123 := ⟨⟨_, _, rfl⟩, tw_1414, tw_1416, tw_81, ⟨by decide +kernel, by decide +kernel, by decide +kernel⟩, ⟨Nat.le_of_ble_eq_true rfl, Nat.le_of_ble_eq_true rfl⟩, tw_1413⟩
theorem oL_Su_back : lwOK m_Su_back 11 0 124 := ⟨⟨_, _, rfl⟩, tw_1055, tw_1057, tw_64, ⟨by decide +kernel, by decide +kernel, by decide +kernel⟩, ⟨Nat.le_of_ble_eq_true rfl, Nat.le_of_ble_eq_true rfl⟩, tw_1054⟩
theorem oL_Mo_back : lwOK m_Mo_back 12 0 127 := ⟨⟨_, _, rfl⟩, tw_1418, tw_1420, tw_81, ⟨by decide +kernel, by decide +kernel, by decide +kernel⟩, ⟨Nat.le_of_ble_eq_true rfl, Nat.le_of_ble_eq_true rfl⟩, tw_1417⟩
theorem oL_Su_count : lwOK m_Su_count 11 1 128 := ⟨⟨_, _, rfl⟩, tw_1059, tw_1061, tw_64, ⟨by decide +kernel, by decide +kernel, by decide +kernel⟩, ⟨Nat.le_of_ble_eq_true rfl, Nat.le_of_ble_eq_true rfl⟩, tw_1058⟩
theorem oL_Mo_count : lwOK m_Mo_count 12 1 131 := ⟨⟨_, _, rfl⟩, tw_1422, tw_1424, tw_81, ⟨by decide +kernel, by decide +kernel, by decide +kernel⟩, ⟨Nat.le_of_ble_eq_true rfl, Nat.le_of_ble_eq_true rfl⟩, tw_1421⟩
theorem oL_Su_init : lwOK m_Su_init 11 0 9 := ⟨⟨_, _, rfl⟩, tw_88, tw_89, tw_64, ⟨by decide +kernel, by decide +kernel, by decide +kernel⟩, ⟨Nat.le_of_ble_eq_true rfl, Nat.le_of_ble_eq_true rfl⟩, tw_87⟩
theorem oL_Mo_init : lwOK m_Mo_init 12 0 12 := ⟨⟨_, _, rfl⟩, tw_1066, tw_1067, tw_81, ⟨by decide +kernel, by decide +kernel, by decide +kernel⟩, ⟨Nat.le_of_ble_eq_true rfl, Nat.le_of_ble_eq_true rfl⟩, tw_1065⟩
theorem dl_0 : decode code 0 = .ok (.new 7, 3) := by decide +kernel
theorem dl_3 : decode code 3 = .ok (.dup, 1) := by decide +kernel
theorem dl_4 : decode code 4 = .ok (.invokespecial 9, 3) := by decide +kernel
theorem dl_7 : decode code 7 = .ok (.astore_n 1, 1) := by decide +kernel
theorem dl_8 : decode code 8 = .ok (.new 10, 3) := by decide +kernel
theorem dl_11 : decode code 11 = .ok (.dup, 1) := by decide +kernel
theorem dl_12 : decode code 12 = .ok (.invokespecial 12, 3) := by decide +kernel
theorem dl_15 : decode code 15 = .ok (.astore_n 2, 1) := by decide +kernel
theorem dl_16 : decode code 16 = .ok (.iconst 0, 1) := by decide +kernel
theorem dl_17 : decode code 17 = .ok (.istore_n 3, 1) := by decide +kernel
theorem dl_18 : decode code 18 = .ok (.iload_n 3, 1) := by decide +kernel
theorem dl_19 : decode code 19 = .ok (.aload_n 0, 1) := by decide +kernel
theorem dl_20 : decode code 20 = .ok (.arraylength, 1) := by decide +kernel
theorem dl_21 : decode code 21 = .ok (.bipush 6, 2) := by decide +kernel
theorem dl_23 : decode code 23 = .ok (.isub, 1) := by decide +kernel
theorem dl_24 : decode code 24 = .ok (.if_icmp .gt 862, 3) := by decide +kernel
theorem dl_27 : decode code 27 = .ok (.aload_n 0, 1) := by decide +kernel
theorem dl_28 : decode code 28 = .ok (.iload_n 3, 1) := by decide +kernel
theorem dl_29 : decode code 29 = .ok (.iaload, 1) := by decide +kernel
theorem dl_30 : decode code 30 = .ok (.bipush 31, 2) := by decide +kernel
theorem dl_32 : decode code 32 = .ok (.iand, 1) := by decide +kernel
theorem dl_33 : decode code 33 = .ok (.tableswitch 847 0 27 #[127, 150, 163, 176, 189, 222, 245, 268, 311, 360, 373, 406, 439, 462, 475, 498, 521, 534, 567, 630, 643, 656, 679, 702, 755, 798, 811, 824], 127) := by decide +kernel
theorem dl_160 : decode code 160 = .ok (.aload_n 1, 1) := by decide +kernel
theorem dl_161 : decode code 161 = .ok (.aload_n 0, 1) := by decide +kernel
theorem dl_162 : decode code 162 = .ok (.iload_n 3, 1) := by decide +kernel
theorem dl_163 : decode code 163 = .ok (.iconst 1, 1) := by decide +kernel
theorem dl_164 : decode code 164 = .ok (.iadd, 1) := by decide +kernel
theorem dl_165 : decode code 165 = .ok (.iaload, 1) := by decide +kernel
theorem dl_166 : decode code 166 = .ok (.invokevirtual 13, 3) := by decide +kernel
theorem dl_169 : decode code 169 = .ok (.aload_n 2, 1) := by decide +kernel
theorem dl_170 : decode code 170 = .ok (.aload_n 0, 1) := by decide +kernel
theorem dl_171 : decode code 171 = .ok (.iload_n 3, 1) := by decide +kernel
theorem dl_172 : decode code 172 = .ok (.iconst 1, 1) := by decide +kernel
theorem dl_173 : decode code 173 = .ok (.iadd, 1) := by decide +kernel
theorem dl_174 : decode code 174 = .ok (.iaload, 1) := by decide +kernel
theorem dl_175 : decode code 175 = .ok (.invokevirtual 17, 3) := by decide +kernel
theorem dl_178 : decode code 178 = .ok (.if_icmp .eq 702, 3) := by decide +kernel
theorem dl_181 : decode code 181 = .ok (.iconst 0, 1) := by decide +kernel
theorem dl_182 : decode code 182 = .ok (.ireturn, 1) := by decide +kernel
theorem dl_183 : decode code 183 = .ok (.aload_n 1, 1) := by decide +kernel
theorem dl_184 : decode code 184 = .ok (.invokevirtual 18, 3) := by decide +kernel
theorem dl_187 : decode code 187 = .ok (.aload_n 2, 1) := by decide +kernel
theorem dl_188 : decode code 188 = .ok (.invokevirtual 22, 3) := by decide +kernel
theorem dl_191 : decode code 191 = .ok (.if_icmp .eq 689, 3) := by decide +kernel
theorem dl_194 : decode code 194 = .ok (.iconst 0, 1) := by decide +kernel
theorem dl_195 : decode code 195 = .ok (.ireturn, 1) := by decide +kernel
theorem dl_196 : decode code 196 = .ok (.aload_n 1, 1) := by decide +kernel
theorem dl_197 : decode code 197 = .ok (.invokevirtual 23, 3) := by decide +kernel
theorem dl_200 : decode code 200 = .ok (.aload_n 2, 1) := by decide +kernel
theorem dl_201 : decode code 201 = .ok (.invokevirtual 26, 3) := by decide +kernel
theorem dl_204 : decode code 204 = .ok (.if_icmp .eq 676, 3) := by decide +kernel
theorem dl_207 : decode code 207 = .ok (.iconst 0, 1) := by decide +kernel
theorem dl_208 : decode code 208 = .ok (.ireturn, 1) := by decide +kernel
theorem dl_209 : decode code 209 = .ok (.aload_n 1, 1) := by decide +kernel
theorem dl_210 : decode code 210 = .ok (.invokevirtual 27, 3) := by decide +kernel
theorem dl_213 : decode code 213 = .ok (.aload_n 2, 1) := by decide +kernel
theorem dl_214 : decode code 214 = .ok (.invokevirtual 30, 3) := by decide +kernel
theorem dl_217 : decode code 217 = .ok (.if_icmp .eq 663, 3) := by decide +kernel
theorem dl_220 : decode code 220 = .ok (.iconst 0, 1) := by decide +kernel
theorem dl_221 : decode code 221 = .ok (.ireturn, 1) := by decide +kernel
theorem dl_222 : decode code 222 = .ok (.aload_n 1, 1) := by decide +kernel
theorem dl_223 : decode code 223 = .ok (.aload_n 0, 1) := by decide +kernel
theorem dl_224 : decode code 224 = .ok (.iload_n 3, 1) := by decide +kernel
theorem dl_225 : decode code 225 = .ok (.iconst 1, 1) := by decide +kernel
theorem dl_226 : decode code 226 = .ok (.iadd, 1) := by decide +kernel
theorem dl_227 : decode code 227 = .ok (.iaload, 1) := by decide +kernel
theorem dl_228 : decode code 228 = .ok (.aload_n 0, 1) := by decide +kernel
theorem dl_229 : decode code 229 = .ok (.iload_n 3, 1) := by decide +kernel
theorem dl_230 : decode code 230 = .ok (.iconst 2, 1) := by decide +kernel
theorem dl_231 : decode code 231 = .ok (.iadd, 1) := by decide +kernel
theorem dl_232 : decode code 232 = .ok (.iaload, 1) := by decide +kernel
theorem dl_233 : decode code 233 = .ok (.invokevirtual 31, 3) := by decide +kernel
theorem dl_236 : decode code 236 = .ok (.aload_n 2, 1) := by decide +kernel
theorem dl_237 : decode code 237 = .ok (.aload_n 0, 1) := by decide +kernel
theorem dl_238 : decode code 238 = .ok (.iload_n 3, 1) := by decide +kernel
theorem dl_239 : decode code 239 = .ok (.iconst 1, 1) := by decide +kernel
theorem dl_240 : decode code 240 = .ok (.iadd, 1) := by decide +kernel
theorem dl_241 : decode code 241 = .ok (.iaload, 1) := by decide +kernel
theorem dl_242 : decode code 242 = .ok (.aload_n 0, 1) := by decide +kernel
theorem dl_243 : decode code 243 = .ok (.iload_n 3, 1) := by decide +kernel
theorem dl_244 : decode code 244 = .ok (.iconst 2, 1) := by decide +kernel
theorem dl_245 : decode code 245 = .ok (.iadd, 1) := by decide +kernel
theorem dl_246 : decode code 246 = .ok (.iaload, 1) := by decide +kernel
theorem dl_247 : decode code 247 = .ok (.invokevirtual 35, 3) := by decide +kernel
theorem dl_250 : decode code 250 = .ok (.if_icmp .eq 630, 3) := by decide +kernel
theorem dl_253 : decode code 253 = .ok (.iconst 0, 1) := by decide +kernel
theorem dl_254 : decode code 254 = .ok (.ireturn, 1) := by decide +kernel
theorem dl_255 : decode code 255 = .ok (.aload_n 1, 1) := by decide +kernel
theorem dl_256 : decode code 256 = .ok (.aload_n 0, 1) := by decide +kernel
theorem dl_257 : decode code 257 = .ok (.iload_n 3, 1) := by decide +kernel
theorem dl_258 : decode code 258 = .ok (.iconst 1, 1) := by decide +kernel
theorem dl_259 : decode code 259 = .ok (.iadd, 1) := by decide +kernel
theorem dl_260 : decode code 260 = .ok (.iaload, 1) := by decide +kernel
theorem dl_261 : decode code 261 = .ok (.invokevirtual 36, 3) := by decide +kernel
theorem dl_264 : decode code 264 = .ok (.aload_n 2, 1) := by decide +kernel
theorem dl_265 : decode code 265 = .ok (.aload_n 0, 1) := by decide +kernel
theorem dl_266 : decode code 266 = .ok (.iload_n 3, 1) := by decide +kernel
theorem dl_267 : decode code 267 = .ok (.iconst 1, 1) := by decide +kernel
theorem dl_268 : decode code 268 = .ok (.iadd, 1) := by decide +kernel
theorem dl_269 : decode code 269 = .ok (.iaload, 1) := by decide +kernel
theorem dl_270 : decode code 270 = .ok (.invokevirtual 39, 3) := by decide +kernel
theorem dl_273 : decode code 273 = .ok (.if_icmp .eq 607, 3) := by decide +kernel
theorem dl_276 : decode code 276 = .ok (.iconst 0, 1) := by decide +kernel
theorem dl_277 : decode code 277 = .ok (.ireturn, 1) := by decide +kernel
theorem dl_278 : decode code 278 = .ok (.aload_n 1, 1) := by decide +kernel
theorem dl_279 : decode code 279 = .ok (.aload_n 0, 1) := by decide +kernel
theorem dl_280 : decode code 280 = .ok (.iload_n 3, 1) := by decide +kernel
theorem dl_281 : decode code 281 = .ok (.iconst 1, 1) := by decide +kernel
theorem dl_282 : decode code 282 = .ok (.iadd, 1) := by decide +kernel
theorem dl_283 : decode code 283 = .ok (.iaload, 1) := by decide +kernel
theorem dl_284 : decode code 284 = .ok (.invokevirtual 40, 3) := by decide +kernel
theorem dl_287 : decode code 287 = .ok (.aload_n 2, 1) := by decide +kernel
theorem dl_288 : decode code 288 = .ok (.aload_n 0, 1) := by decide +kernel
theorem dl_289 : decode code 289 = .ok (.iload_n 3, 1) := by decide +kernel
theorem dl_290 : decode code 290 = .ok (.iconst 1, 1) := by decide +kernel
theorem dl_291 : decode code 291 = .ok (.iadd, 1) := by decide +kernel
theorem dl_292 : decode code 292 = .ok (.iaload, 1) := by decide +kernel
theorem dl_293 : decode code 293 = .ok (.invokevirtual 43, 3) := by decide +kernel
theorem dl_296 : decode code 296 = .ok (.if_icmp .eq 584, 3) := by decide +kernel
theorem dl_299 : decode code 299 = .ok (.iconst 0, 1) := by decide +kernel
theorem dl_300 : decode code 300 = .ok (.ireturn, 1) := by decide +kernel
theorem dl_301 : decode code 301 = .ok (.aload_n 1, 1) := by decide +kernel
theorem dl_302 : decode code 302 = .ok (.aload_n 0, 1) := by decide +kernel
theorem dl_303 : decode code 303 = .ok (.iload_n 3, 1) := by decide +kernel
theorem dl_304 : decode code 304 = .ok (.iconst 1, 1) := by decide +kernel
theorem dl_305 : decode code 305 = .ok (.iadd, 1) := by decide +kernel
theorem dl_306 : decode code 306 = .ok (.iaload, 1) := by decide +kernel
theorem dl_307 : decode code 307 = .ok (.aload_n 0, 1) := by decide +kernel
theorem dl_308 : decode code 308 = .ok (.iload_n 3, 1) := by decide +kernel
theorem dl_309 : decode code 309 = .ok (.iconst 2, 1) := by decide +kernel
theorem dl_310 : decode code 310 = .ok (.iadd, 1) := by decide +kernel
theorem dl_311 : decode code 311 = .ok (.iaload, 1) := by decide +kernel
theorem dl_312 : decode code 312 = .ok (.aload_n 0, 1) := by decide +kernel
theorem dl_313 : decode code 313 = .ok (.iload_n 3, 1) := by decide +kernel
theorem dl_314 : decode code 314 = .ok (.iconst 3, 1) := by decide +kernel
theorem dl_315 : decode code 315 = .ok (.iadd, 1) := by decide +kernel
theorem dl_316 : decode code 316 = .ok (.iaload, 1) := by decide +kernel
theorem dl_317 : decode code 317 = .ok (.invokevirtual 44, 3) := by decide +kernel
theorem dl_320 : decode code 320 = .ok (.aload_n 2, 1) := by decide +kernel
theorem dl_321 : decode code 321 = .ok (.aload_n 0, 1) := by decide +kernel
theorem dl_322 : decode code 322 = .ok (.iload_n 3, 1) := by decide +kernel
theorem dl_323 : decode code 323 = .ok (.iconst 1, 1) := by decide +kernel
theorem dl_324 : decode code 324 = .ok (.iadd, 1) := by decide +kernel
theorem dl_325 : decode code 325 = .ok (.iaload, 1) := by decide +kernel
theorem dl_326 : decode code 326 = .ok (.aload_n 0, 1) := by decide +kernel
theorem dl_327 : decode code 327 = .ok (.iload_n 3, 1) := by decide +kernel
theorem dl_328 : decode code 328 = .ok (.iconst 2, 1) := by decide +kernel
theorem dl_329 : decode code 329 = .ok (.iadd, 1) := by decide +kernel
theorem dl_330 : decode code 330 = .ok (.iaload, 1) := by decide +kernel
theorem dl_331 : decode code 331 = .ok (.aload_n 0, 1) := by decide +kernel
theorem dl_332 : decode code 332 = .ok (.iload_n 3, 1) := by decide +kernel
theorem dl_333 : decode code 333 = .ok (.iconst 3, 1) := by decide +kernel
theorem dl_334 : decode code 334 = .ok (.iadd, 1) := by decide +kernel
theorem dl_335 : decode code 335 = .ok (.iaload, 1) := by decide +kernel
theorem dl_336 : decode code 336 = .ok (.invokevirtual 48, 3) := by decide +kernel
theorem dl_339 : decode code 339 = .ok (.if_icmp .eq 541, 3) := by decide +kernel
theorem dl_342 : decode code 342 = .ok (.iconst 0, 1) := by decide +kernel
theorem dl_343 : decode code 343 = .ok (.ireturn, 1) := by decide +kernel
theorem dl_344 : decode code 344 = .ok (.aload_n 1, 1) := by decide +kernel
theorem dl_345 : decode code 345 = .ok (.aload_n 0, 1) := by decide +kernel
theorem dl_346 : decode code 346 = .ok (.iload_n 3, 1) := by decide +kernel
theorem dl_347 : decode code 347 = .ok (.iconst 1, 1) := by decide +kernel
theorem dl_348 : decode code 348 = .ok (.iadd, 1) := by decide +kernel
theorem dl_349 : decode code 349 = .ok (.iaload, 1) := by decide +kernel
theorem dl_350 : decode code 350 = .ok (.aload_n 0, 1) := by decide +kernel
theorem dl_351 : decode code 351 = .ok (.iload_n 3, 1) := by decide +kernel
theorem dl_352 : decode code 352 = .ok (.iconst 2, 1) := by decide +kernel
theorem dl_353 : decode code 353 = .ok (.iadd, 1) := by decide +kernel
theorem dl_354 : decode code 354 = .ok (.iaload, 1) := by decide +kernel
theorem dl_355 : decode code 355 = .ok (.ifCond .eq 7, 3) := by decide +kernel
theorem dl_358 : decode code 358 = .ok (.iconst 1, 1) := by decide +kernel
theorem dl_359 : decode code 359 = .ok (.goto 4, 3) := by decide +kernel
theorem dl_362 : decode code 362 = .ok (.iconst 0, 1) := by decide +kernel
theorem dl_363 : decode code 363 = .ok (.invokevirtual 49, 3) := by decide +kernel
theorem dl_366 : decode code 366 = .ok (.aload_n 2, 1) := by decide +kernel
theorem dl_367 : decode code 367 = .ok (.aload_n 0, 1) := by decide +kernel
theorem dl_368 : decode code 368 = .ok (.iload_n 3, 1) := by decide +kernel
theorem dl_369 : decode code 369 = .ok (.iconst 1, 1) := by decide +kernel
theorem dl_370 : decode code 370 = .ok (.iadd, 1) := by decide +kernel
theorem dl_371 : decode code 371 = .ok (.iaload, 1) := by decide +kernel
theorem dl_372 : decode code 372 = .ok (.aload_n 0, 1) := by decide +kernel
theorem dl_373 : decode code 373 = .ok (.iload_n 3, 1) := by decide +kernel
theorem dl_374 : decode code 374 = .ok (.iconst 2, 1) := by decide +kernel
theorem dl_375 : decode code 375 = .ok (.iadd, 1) := by decide +kernel
theorem dl_376 : decode code 376 = .ok (.iaload, 1) := by decide +kernel
theorem dl_377 : decode code 377 = .ok (.ifCond .eq 7, 3) := by decide +kernel
theorem dl_380 : decode code 380 = .ok (.iconst 1, 1) := by decide +kernel
theorem dl_381 : decode code 381 = .ok (.goto 4, 3) := by decide +kernel
theorem dl_384 : decode code 384 = .ok (.iconst 0, 1) := by decide +kernel
theorem dl_385 : decode code 385 = .ok (.invokevirtual 53, 3) := by decide +kernel
theorem dl_388 : decode code 388 = .ok (.if_icmp .eq 492, 3) := by decide +kernel
theorem dl_391 : decode code 391 = .ok (.iconst 0, 1) := by decide +kernel
theorem dl_392 : decode code 392 = .ok (.ireturn, 1) := by decide +kernel
theorem dl_393 : decode code 393 = .ok (.aload_n 1, 1) := by decide +kernel
theorem dl_394 : decode code 394 = .ok (.invokevirtual 54, 3) := by decide +kernel
theorem dl_397 : decode code 397 = .ok (.aload_n 2, 1) := by decide +kernel
theorem dl_398 : decode code 398 = .ok (.invokevirtual 57, 3) := by decide +kernel
theorem dl_401 : decode code 401 = .ok (.if_icmp .eq 479, 3) := by decide +kernel
theorem dl_404 : decode code 404 = .ok (.iconst 0, 1) := by decide +kernel
theorem dl_405 : decode code 405 = .ok (.ireturn, 1) := by decide +kernel
theorem dl_406 : decode code 406 = .ok (.aload_n 1, 1) := by decide +kernel
theorem dl_407 : decode code 407 = .ok (.aload_n 0, 1) := by decide +kernel
theorem dl_408 : decode code 408 = .ok (.iload_n 3, 1) := by decide +kernel
theorem dl_409 : decode code 409 = .ok (.iconst 1, 1) := by decide +kernel
theorem dl_410 : decode code 410 = .ok (.iadd, 1) := by decide +kernel
theorem dl_411 : decode code 411 = .ok (.iaload, 1) := by decide +kernel
theorem dl_412 : decode code 412 = .ok (.aload_n 0, 1) := by decide +kernel
theorem dl_413 : decode code 413 = .ok (.iload_n 3, 1) := by decide +kernel
theorem dl_414 : decode code 414 = .ok (.iconst 2, 1) := by decide +kernel
theorem dl_415 : decode code 415 = .ok (.iadd, 1) := by decide +kernel
theorem dl_416 : decode code 416 = .ok (.iaload, 1) := by decide +kernel
theorem dl_417 : decode code 417 = .ok (.invokevirtual 58, 3) := by decide +kernel
theorem dl_420 : decode code 420 = .ok (.aload_n 2, 1) := by decide +kernel
theorem dl_421 : decode code 421 = .ok (.aload_n 0, 1) := by decide +kernel
theorem dl_422 : decode code 422 = .ok (.iload_n 3, 1) := by decide +kernel
theorem dl_423 : decode code 423 = .ok (.iconst 1, 1) := by decide +kernel
theorem dl_424 : decode code 424 = .ok (.iadd, 1) := by decide +kernel
theorem dl_425 : decode code 425 = .ok (.iaload, 1) := by decide +kernel
theorem dl_426 : decode code 426 = .ok (.aload_n 0, 1) := by decide +kernel
theorem dl_427 : decode code 427 = .ok (.iload_n 3, 1) := by decide +kernel
theorem dl_428 : decode code 428 = .ok (.iconst 2, 1) := by decide +kernel
theorem dl_429 : decode code 429 = .ok (.iadd, 1) := by decide +kernel
theorem dl_430 : decode code 430 = .ok (.iaload, 1) := by decide +kernel
theorem dl_431 : decode code 431 = .ok (.invokevirtual 61, 3) := by decide +kernel
theorem dl_434 : decode code 434 = .ok (.if_icmp .eq 446, 3) := by decide +kernel
theorem dl_437 : decode code 437 = .ok (.iconst 0, 1) := by decide +kernel
theorem dl_438 : decode code 438 = .ok (.ireturn, 1) := by decide +kernel
theorem dl_439 : decode code 439 = .ok (.aload_n 1, 1) := by decide +kernel
theorem dl_440 : decode code 440 = .ok (.aload_n 0, 1) := by decide +kernel
theorem dl_441 : decode code 441 = .ok (.iload_n 3, 1) := by decide +kernel
theorem dl_442 : decode code 442 = .ok (.iconst 1, 1) := by decide +kernel
theorem dl_443 : decode code 443 = .ok (.iadd, 1) := by decide +kernel
theorem dl_444 : decode code 444 = .ok (.iaload, 1) := by decide +kernel
theorem dl_445 : decode code 445 = .ok (.aload_n 0, 1) := by decide +kernel
theorem dl_446 : decode code 446 = .ok (.iload_n 3, 1) := by decide +kernel
theorem dl_447 : decode code 447 = .ok (.iconst 2, 1) := by decide +kernel
theorem dl_448 : decode code 448 = .ok (.iadd, 1) := by decide +kernel
theorem dl_449 : decode code 449 = .ok (.iaload, 1) := by decide +kernel
theorem dl_450 : decode code 450 = .ok (.invokevirtual 62, 3) := by decide +kernel
theorem dl_453 : decode code 453 = .ok (.aload_n 2, 1) := by decide +kernel
theorem dl_454 : decode code 454 = .ok (.aload_n 0, 1) := by decide +kernel
theorem dl_455 : decode code 455 = .ok (.iload_n 3, 1) := by decide +kernel
theorem dl_456 : decode code 456 = .ok (.iconst 1, 1) := by decide +kernel
theorem dl_457 : decode code 457 = .ok (.iadd, 1) := by decide +kernel
theorem dl_458 : decode code 458 = .ok (.iaload, 1) := by decide +kernel
theorem dl_459 : decode code 459 = .ok (.aload_n 0, 1) := by decide +kernel
theorem dl_460 : decode code 460 = .ok (.iload_n 3, 1) := by decide +kernel
theorem dl_461 : decode code 461 = .ok (.iconst 2, 1) := by decide +kernel
theorem dl_462 : decode code 462 = .ok (.iadd, 1) := by decide +kernel
theorem dl_463 : decode code 463 = .ok (.iaload, 1) := by decide +kernel
theorem dl_464 : decode code 464 = .ok (.invokevirtual 65, 3) := by decide +kernel
theorem dl_467 : decode code 467 = .ok (.if_icmp .eq 413, 3) := by decide +kernel
theorem dl_470 : decode code 470 = .ok (.iconst 0, 1) := by decide +kernel
theorem dl_471 : decode code 471 = .ok (.ireturn, 1) := by decide +kernel
theorem dl_472 : decode code 472 = .ok (.aload_n 1, 1) := by decide +kernel
theorem dl_473 : decode code 473 = .ok (.aload_n 0, 1) := by decide +kernel
theorem dl_474 : decode code 474 = .ok (.iload_n 3, 1) := by decide +kernel
theorem dl_475 : decode code 475 = .ok (.iconst 1, 1) := by decide +kernel
theorem dl_476 : decode code 476 = .ok (.iadd, 1) := by decide +kernel
theorem dl_477 : decode code 477 = .ok (.iaload, 1) := by decide +kernel
theorem dl_478 : decode code 478 = .ok (.invokevirtual 66, 3) := by decide +kernel
theorem dl_481 : decode code 481 = .ok (.aload_n 2, 1) := by decide +kernel
theorem dl_482 : decode code 482 = .ok (.aload_n 0, 1) := by decide +kernel
theorem dl_483 : decode code 483 = .ok (.iload_n 3, 1) := by decide +kernel
theorem dl_484 : decode code 484 = .ok (.iconst 1, 1) := by decide +kernel
theorem dl_485 : decode code 485 = .ok (.iadd, 1) := by decide +kernel
theorem dl_486 : decode code 486 = .ok (.iaload, 1) := by decide +kernel
theorem dl_487 : decode code 487 = .ok (.invokevirtual 69, 3) := by decide +kernel
theorem dl_490 : decode code 490 = .ok (.if_icmp .eq 390, 3) := by decide +kernel
theorem dl_493 : decode code 493 = .ok (.iconst 0, 1) := by decide +kernel
theorem dl_494 : decode code 494 = .ok (.ireturn, 1) := by decide +kernel
theorem dl_495 : decode code 495 = .ok (.aload_n 1, 1) := by decide +kernel
theorem dl_496 : decode code 496 = .ok (.invokevirtual 70, 3) := by decide +kernel
theorem dl_499 : decode code 499 = .ok (.aload_n 2, 1) := by decide +kernel
theorem dl_500 : decode code 500 = .ok (.invokevirtual 73, 3) := by decide +kernel
theorem dl_503 : decode code 503 = .ok (.if_icmp .eq 377, 3) := by decide +kernel
theorem dl_506 : decode code 506 = .ok (.iconst 0, 1) := by decide +kernel
theorem dl_507 : decode code 507 = .ok (.ireturn, 1) := by decide +kernel
theorem dl_508 : decode code 508 = .ok (.aload_n 1, 1) := by decide +kernel
theorem dl_509 : decode code 509 = .ok (.aload_n 0, 1) := by decide +kernel
theorem dl_510 : decode code 510 = .ok (.iload_n 3, 1) := by decide +kernel
theorem dl_511 : decode code 511 = .ok (.iconst 1, 1) := by decide +kernel
theorem dl_512 : decode code 512 = .ok (.iadd, 1) := by decide +kernel
theorem dl_513 : decode code 513 = .ok (.iaload, 1) := by decide +kernel
theorem dl_514 : decode code 514 = .ok (.invokevirtual 74, 3) := by decide +kernel
theorem dl_517 : decode code 517 = .ok (.aload_n 2, 1) := by decide +kernel
theorem dl_518 : decode code 518 = .ok (.aload_n 0, 1) := by decide +kernel
theorem dl_519 : decode code 519 = .ok (.iload_n 3, 1) := by decide +kernel
theorem dl_520 : decode code 520 = .ok (.iconst 1, 1) := by decide +kernel
theorem dl_521 : decode code 521 = .ok (.iadd, 1) := by decide +kernel
theorem dl_522 : decode code 522 = .ok (.iaload, 1) := by decide +kernel
theorem dl_523 : decode code 523 = .ok (.invokevirtual 77, 3) := by decide +kernel
theorem dl_526 : decode code 526 = .ok (.if_icmp .eq 354, 3) := by decide +kernel
theorem dl_529 : decode code 529 = .ok (.iconst 0, 1) := by decide +kernel
theorem dl_530 : decode code 530 = .ok (.ireturn, 1) := by decide +kernel
theorem dl_531 : decode code 531 = .ok (.aload_n 1, 1) := by decide +kernel
theorem dl_532 : decode code 532 = .ok (.aload_n 0, 1) := by decide +kernel
theorem dl_533 : decode code 533 = .ok (.iload_n 3, 1) := by decide +kernel
theorem dl_534 : decode code 534 = .ok (.iconst 1, 1) := by decide +kernel
theorem dl_535 : decode code 535 = .ok (.iadd, 1) := by decide +kernel
theorem dl_536 : decode code 536 = .ok (.iaload, 1) := by decide +kernel
theorem dl_537 : decode code 537 = .ok (.invokevirtual 78, 3) := by decide +kernel
theorem dl_540 : decode code 540 = .ok (.aload_n 2, 1) := by decide +kernel
theorem dl_541 : decode code 541 = .ok (.aload_n 0, 1) := by decide +kernel
theorem dl_542 : decode code 542 = .ok (.iload_n 3, 1) := by decide +kernel
theorem dl_543 : decode code 543 = .ok (.iconst 1, 1) := by decide +kernel
theorem dl_544 : decode code 544 = .ok (.iadd, 1) := by decide +kernel
theorem dl_545 : decode code 545 = .ok (.iaload, 1) := by decide +kernel
theorem dl_546 : decode code 546 = .ok (.invokevirtual 81, 3) := by decide +kernel
theorem dl_549 : decode code 549 = .ok (.if_icmp .eq 331, 3) := by decide +kernel
theorem dl_552 : decode code 552 = .ok (.iconst 0, 1) := by decide +kernel
theorem dl_553 : decode code 553 = .ok (.ireturn, 1) := by decide +kernel
theorem dl_554 : decode code 554 = .ok (.aload_n 1, 1) := by decide +kernel
theorem dl_555 : decode code 555 = .ok (.invokevirtual 82, 3) := by decide +kernel
theorem dl_558 : decode code 558 = .ok (.aload_n 2, 1) := by decide +kernel
theorem dl_559 : decode code 559 = .ok (.invokevirtual 85, 3) := by decide +kernel
theorem dl_562 : decode code 562 = .ok (.if_icmp .eq 318, 3) := by decide +kernel
theorem dl_565 : decode code 565 = .ok (.iconst 0, 1) := by decide +kernel
theorem dl_566 : decode code 566 = .ok (.ireturn, 1) := by decide +kernel
theorem dl_567 : decode code 567 = .ok (.aload_n 1, 1) := by decide +kernel
theorem dl_568 : decode code 568 = .ok (.aload_n 0, 1) := by decide +kernel
theorem dl_569 : decode code 569 = .ok (.iload_n 3, 1) := by decide +kernel
theorem dl_570 : decode code 570 = .ok (.iconst 1, 1) := by decide +kernel
theorem dl_571 : decode code 571 = .ok (.iadd, 1) := by decide +kernel
theorem dl_572 : decode code 572 = .ok (.iaload, 1) := by decide +kernel
theorem dl_573 : decode code 573 = .ok (.aload_n 0, 1) := by decide +kernel
theorem dl_574 : decode code 574 = .ok (.iload_n 3, 1) := by decide +kernel
theorem dl_575 : decode code 575 = .ok (.iconst 2, 1) := by decide +kernel
theorem dl_576 : decode code 576 = .ok (.iadd, 1) := by decide +kernel
theorem dl_577 : decode code 577 = .ok (.iaload, 1) := by decide +kernel
theorem dl_578 : decode code 578 = .ok (.invokevirtual 86, 3) := by decide +kernel
theorem dl_581 : decode code 581 = .ok (.aload_n 2, 1) := by decide +kernel
theorem dl_582 : decode code 582 = .ok (.aload_n 0, 1) := by decide +kernel
theorem dl_583 : decode code 583 = .ok (.iload_n 3, 1) := by decide +kernel
theorem dl_584 : decode code 584 = .ok (.iconst 1, 1) := by decide +kernel
theorem dl_585 : decode code 585 = .ok (.iadd, 1) := by decide +kernel
theorem dl_586 : decode code 586 = .ok (.iaload, 1) := by decide +kernel
theorem dl_587 : decode code 587 = .ok (.aload_n 0, 1) := by decide +kernel
theorem dl_588 : decode code 588 = .ok (.iload_n 3, 1) := by decide +kernel
theorem dl_589 : decode code 589 = .ok (.iconst 2, 1) := by decide +kernel
theorem dl_590 : decode code 590 = .ok (.iadd, 1) := by decide +kernel
theorem dl_591 : decode code 591 = .ok (.iaload, 1) := by decide +kernel
theorem dl_592 : decode code 592 = .ok (.invokevirtual 89, 3) := by decide +kernel
theorem dl_595 : decode code 595 = .ok (.if_icmp .eq 285, 3) := by decide +kernel
theorem dl_598 : decode code 598 = .ok (.iconst 0, 1) := by decide +kernel
theorem dl_599 : decode code 599 = .ok (.ireturn, 1) := by decide +kernel
theorem dl_600 : decode code 600 = .ok (.aload_n 1, 1) := by decide +kernel
theorem dl_601 : decode code 601 = .ok (.aload_n 0, 1) := by decide +kernel
theorem dl_602 : decode code 602 = .ok (.iload_n 3, 1) := by decide +kernel
theorem dl_603 : decode code 603 = .ok (.iconst 1, 1) := by decide +kernel
theorem dl_604 : decode code 604 = .ok (.iadd, 1) := by decide +kernel
theorem dl_605 : decode code 605 = .ok (.iaload, 1) := by decide +kernel
theorem dl_606 : decode code 606 = .ok (.aload_n 0, 1) := by decide +kernel
theorem dl_607 : decode code 607 = .ok (.iload_n 3, 1) := by decide +kernel
theorem dl_608 : decode code 608 = .ok (.iconst 2, 1) := by decide +kernel
theorem dl_609 : decode code 609 = .ok (.iadd, 1) := by decide +kernel
theorem dl_610 : decode code 610 = .ok (.iaload, 1) := by decide +kernel
theorem dl_611 : decode code 611 = .ok (.aload_n 0, 1) := by decide +kernel
theorem dl_612 : decode code 612 = .ok (.iload_n 3, 1) := by decide +kernel
theorem dl_613 : decode code 613 = .ok (.iconst 3, 1) := by decide +kernel
theorem dl_614 : decode code 614 = .ok (.iadd, 1) := by decide +kernel
theorem dl_615 : decode code 615 = .ok (.iaload, 1) := by decide +kernel
theorem dl_616 : decode code 616 = .ok (.aload_n 0, 1) := by decide +kernel
theorem dl_617 : decode code 617 = .ok (.iload_n 3, 1) := by decide +kernel
theorem dl_618 : decode code 618 = .ok (.iconst 4, 1) := by decide +kernel
theorem dl_619 : decode code 619 = .ok (.iadd, 1) := by decide +kernel
theorem dl_620 : decode code 620 = .ok (.iaload, 1) := by decide +kernel
theorem dl_621 : decode code 621 = .ok (.aload_n 0, 1) := by decide +kernel
theorem dl_622 : decode code 622 = .ok (.iload_n 3, 1) := by decide +kernel
theorem dl_623 : decode code 623 = .ok (.iconst 5, 1) := by decide +kernel
theorem dl_624 : decode code 624 = .ok (.iadd, 1) := by decide +kernel
theorem dl_625 : decode code 625 = .ok (.iaload, 1) := by decide +kernel
theorem dl_626 : decode code 626 = .ok (.invokevirtual 90, 3) := by decide +kernel
theorem dl_629 : decode code 629 = .ok (.aload_n 2, 1) := by decide +kernel
theorem dl_630 : decode code 630 = .ok (.aload_n 0, 1) := by decide +kernel
theorem dl_631 : decode code 631 = .ok (.iload_n 3, 1) := by decide +kernel
theorem dl_632 : decode code 632 = .ok (.iconst 1, 1) := by decide +kernel
theorem dl_633 : decode code 633 = .ok (.iadd, 1) := by decide +kernel
theorem dl_634 : decode code 634 = .ok (.iaload, 1) := by decide +kernel
theorem dl_635 : decode code 635 = .ok (.aload_n 0, 1) := by decide +kernel
theorem dl_636 : decode code 636 = .ok (.iload_n 3, 1) := by decide +kernel
theorem dl_637 : decode code 637 = .ok (.iconst 2, 1) := by decide +kernel
theorem dl_638 : decode code 638 = .ok (.iadd, 1) := by decide +kernel
theorem dl_639 : decode code 639 = .ok (.iaload, 1) := by decide +kernel
theorem dl_640 : decode code 640 = .ok (.aload_n 0, 1) := by decide +kernel
theorem dl_641 : decode code 641 = .ok (.iload_n 3, 1) := by decide +kernel
theorem dl_642 : decode code 642 = .ok (.iconst 3, 1) := by decide +kernel
theorem dl_643 : decode code 643 = .ok (.iadd, 1) := by decide +kernel
theorem dl_644 : decode code 644 = .ok (.iaload, 1) := by decide +kernel
theorem dl_645 : decode code 645 = .ok (.aload_n 0, 1) := by decide +kernel
theorem dl_646 : decode code 646 = .ok (.iload_n 3, 1) := by decide +kernel
theorem dl_647 : decode code 647 = .ok (.iconst 4, 1) := by decide +kernel
theorem dl_648 : decode code 648 = .ok (.iadd, 1) := by decide +kernel
theorem dl_649 : decode code 649 = .ok (.iaload, 1) := by decide +kernel
theorem dl_650 : decode code 650 = .ok (.aload_n 0, 1) := by decide +kernel
theorem dl_651 : decode code 651 = .ok (.iload_n 3, 1) := by decide +kernel
theorem dl_652 : decode code 652 = .ok (.iconst 5, 1) := by decide +kernel
theorem dl_653 : decode code 653 = .ok (.iadd, 1) := by decide +kernel
theorem dl_654 : decode code 654 = .ok (.iaload, 1) := by decide +kernel
theorem dl_655 : decode code 655 = .ok (.invokevirtual 94, 3) := by decide +kernel
theorem dl_658 : decode code 658 = .ok (.if_icmp .eq 222, 3) := by decide +kernel
theorem dl_661 : decode code 661 = .ok (.iconst 0, 1) := by decide +kernel
theorem dl_662 : decode code 662 = .ok (.ireturn, 1) := by decide +kernel
theorem dl_663 : decode code 663 = .ok (.aload_n 1, 1) := by decide +kernel
theorem dl_664 : decode code 664 = .ok (.invokevirtual 95, 3) := by decide +kernel
theorem dl_667 : decode code 667 = .ok (.aload_n 2, 1) := by decide +kernel
theorem dl_668 : decode code 668 = .ok (.invokevirtual 98, 3) := by decide +kernel
theorem dl_671 : decode code 671 = .ok (.if_icmp .eq 209, 3) := by decide +kernel
theorem dl_674 : decode code 674 = .ok (.iconst 0, 1) := by decide +kernel
theorem dl_675 : decode code 675 = .ok (.ireturn, 1) := by decide +kernel
theorem dl_676 : decode code 676 = .ok (.aload_n 1, 1) := by decide +kernel
theorem dl_677 : decode code 677 = .ok (.invokevirtual 99, 3) := by decide +kernel
theorem dl_680 : decode code 680 = .ok (.aload_n 2, 1) := by decide +kernel
theorem dl_681 : decode code 681 = .ok (.invokevirtual 102, 3) := by decide +kernel
theorem dl_684 : decode code 684 = .ok (.if_icmp .eq 196, 3) := by decide +kernel
theorem dl_687 : decode code 687 = .ok (.iconst 0, 1) := by decide +kernel
theorem dl_688 : decode code 688 = .ok (.ireturn, 1) := by decide +kernel
theorem dl_689 : decode code 689 = .ok (.aload_n 1, 1) := by decide +kernel
theorem dl_690 : decode code 690 = .ok (.aload_n 0, 1) := by decide +kernel
theorem dl_691 : decode code 691 = .ok (.iload_n 3, 1) := by decide +kernel
theorem dl_692 : decode code 692 = .ok (.iconst 1, 1) := by decide +kernel
theorem dl_693 : decode code 693 = .ok (.iadd, 1) := by decide +kernel
theorem dl_694 : decode code 694 = .ok (.iaload, 1) := by decide +kernel
theorem dl_695 : decode code 695 = .ok (.invokevirtual 103, 3) := by decide +kernel
theorem dl_698 : decode code 698 = .ok (.aload_n 2, 1) := by decide +kernel
theorem dl_699 : decode code 699 = .ok (.aload_n 0, 1) := by decide +kernel
theorem dl_700 : decode code 700 = .ok (.iload_n 3, 1) := by decide +kernel
theorem dl_701 : decode code 701 = .ok (.iconst 1, 1) := by decide +kernel
theorem dl_702 : decode code 702 = .ok (.iadd, 1) := by decide +kernel
theorem dl_703 : decode code 703 = .ok (.iaload, 1) := by decide +kernel
theorem dl_704 : decode code 704 = .ok (.invokevirtual 106, 3) := by decide +kernel
theorem dl_707 : decode code 707 = .ok (.if_icmp .eq 173, 3) := by decide +kernel
theorem dl_710 : decode code 710 = .ok (.iconst 0, 1) := by decide +kernel
theorem dl_711 : decode code 711 = .ok (.ireturn, 1) := by decide +kernel
theorem dl_712 : decode code 712 = .ok (.aload_n 1, 1) := by decide +kernel
theorem dl_713 : decode code 713 = .ok (.aload_n 0, 1) := by decide +kernel
theorem dl_714 : decode code 714 = .ok (.iload_n 3, 1) := by decide +kernel
theorem dl_715 : decode code 715 = .ok (.iconst 1, 1) := by decide +kernel
theorem dl_716 : decode code 716 = .ok (.iadd, 1) := by decide +kernel
theorem dl_717 : decode code 717 = .ok (.iaload, 1) := by decide +kernel
theorem dl_718 : decode code 718 = .ok (.invokevirtual 107, 3) := by decide +kernel
theorem dl_721 : decode code 721 = .ok (.aload_n 2, 1) := by decide +kernel
theorem dl_722 : decode code 722 = .ok (.aload_n 0, 1) := by decide +kernel
theorem dl_723 : decode code 723 = .ok (.iload_n 3, 1) := by decide +kernel
theorem dl_724 : decode code 724 = .ok (.iconst 1, 1) := by decide +kernel
theorem dl_725 : decode code 725 = .ok (.iadd, 1) := by decide +kernel
theorem dl_726 : decode code 726 = .ok (.iaload, 1) := by decide +kernel
theorem dl_727 : decode code 727 = .ok (.invokevirtual 110, 3) := by decide +kernel
theorem dl_730 : decode code 730 = .ok (.if_icmp .eq 150, 3) := by decide +kernel
theorem dl_733 : decode code 733 = .ok (.iconst 0, 1) := by decide +kernel
theorem dl_734 : decode code 734 = .ok (.ireturn, 1) := by decide +kernel
theorem dl_735 : decode code 735 = .ok (.aload_n 1, 1) := by decide +kernel
theorem dl_736 : decode code 736 = .ok (.aload_n 0, 1) := by decide +kernel
theorem dl_737 : decode code 737 = .ok (.iload_n 3, 1) := by decide +kernel
theorem dl_738 : decode code 738 = .ok (.iconst 1, 1) := by decide +kernel
theorem dl_739 : decode code 739 = .ok (.iadd, 1) := by decide +kernel
theorem dl_740 : decode code 740 = .ok (.iaload, 1) := by decide +kernel
theorem dl_741 : decode code 741 = .ok (.aload_n 0, 1) := by decide +kernel
theorem dl_742 : decode code 742 = .ok (.iload_n 3, 1) := by decide +kernel
theorem dl_743 : decode code 743 = .ok (.iconst 2, 1) := by decide +kernel
theorem dl_744 : decode code 744 = .ok (.iadd, 1) := by decide +kernel
theorem dl_745 : decode code 745 = .ok (.iaload, 1) := by decide +kernel
theorem dl_746 : decode code 746 = .ok (.aload_n 0, 1) := by decide +kernel
theorem dl_747 : decode code 747 = .ok (.iload_n 3, 1) := by decide +kernel
theorem dl_748 : decode code 748 = .ok (.iconst 3, 1) := by decide +kernel
theorem dl_749 : decode code 749 = .ok (.iadd, 1) := by decide +kernel
theorem dl_750 : decode code 750 = .ok (.iaload, 1) := by decide +kernel
theorem dl_751 : decode code 751 = .ok (.aload_n 0, 1) := by decide +kernel
theorem dl_752 : decode code 752 = .ok (.iload_n 3, 1) := by decide +kernel
theorem dl_753 : decode code 753 = .ok (.iconst 4, 1) := by decide +kernel
theorem dl_754 : decode code 754 = .ok (.iadd, 1) := by decide +kernel
theorem dl_755 : decode code 755 = .ok (.iaload, 1) := by decide +kernel
theorem dl_756 : decode code 756 = .ok (.invokevirtual 111, 3) := by decide +kernel
theorem dl_759 : decode code 759 = .ok (.aload_n 2, 1) := by decide +kernel
theorem dl_760 : decode code 760 = .ok (.aload_n 0, 1) := by decide +kernel
theorem dl_761 : decode code 761 = .ok (.iload_n 3, 1) := by decide +kernel
theorem dl_762 : decode code 762 = .ok (.iconst 1, 1) := by decide +kernel
theorem dl_763 : decode code 763 = .ok (.iadd, 1) := by decide +kernel
theorem dl_764 : decode code 764 = .ok (.iaload, 1) := by decide +kernel
theorem dl_765 : decode code 765 = .ok (.aload_n 0, 1) := by decide +kernel
theorem dl_766 : decode code 766 = .ok (.iload_n 3, 1) := by decide +kernel
theorem dl_767 : decode code 767 = .ok (.iconst 2, 1) := by decide +kernel
theorem dl_768 : decode code 768 = .ok (.iadd, 1) := by decide +kernel
theorem dl_769 : decode code 769 = .ok (.iaload, 1) := by decide +kernel
theorem dl_770 : decode code 770 = .ok (.aload_n 0, 1) := by decide +kernel
theorem dl_771 : decode code 771 = .ok (.iload_n 3, 1) := by decide +kernel
theorem dl_772 : decode code 772 = .ok (.iconst 3, 1) := by decide +kernel
theorem dl_773 : decode code 773 = .ok (.iadd, 1) := by decide +kernel
theorem dl_774 : decode code 774 = .ok (.iaload, 1) := by decide +kernel
theorem dl_775 : decode code 775 = .ok (.aload_n 0, 1) := by decide +kernel
theorem dl_776 : decode code 776 = .ok (.iload_n 3, 1) := by decide +kernel
theorem dl_777 : decode code 777 = .ok (.iconst 4, 1) := by decide +kernel
theorem dl_778 : decode code 778 = .ok (.iadd, 1) := by decide +kernel
theorem dl_779 : decode code 779 = .ok (.iaload, 1) := by decide +kernel
theorem dl_780 : decode code 780 = .ok (.invokevirtual 115, 3) := by decide +kernel
theorem dl_783 : decode code 783 = .ok (.if_icmp .eq 97, 3) := by decide +kernel
theorem dl_786 : decode code 786 = .ok (.iconst 0, 1) := by decide +kernel
theorem dl_787 : decode code 787 = .ok (.ireturn, 1) := by decide +kernel
theorem dl_788 : decode code 788 = .ok (.aload_n 1, 1) := by decide +kernel
theorem dl_789 : decode code 789 = .ok (.aload_n 0, 1) := by decide +kernel
theorem dl_790 : decode code 790 = .ok (.iload_n 3, 1) := by decide +kernel
theorem dl_791 : decode code 791 = .ok (.iconst 1, 1) := by decide +kernel
theorem dl_792 : decode code 792 = .ok (.iadd, 1) := by decide +kernel
theorem dl_793 : decode code 793 = .ok (.iaload, 1) := by decide +kernel
theorem dl_794 : decode code 794 = .ok (.aload_n 0, 1) := by decide +kernel
theorem dl_795 : decode code 795 = .ok (.iload_n 3, 1) := by decide +kernel
theorem dl_796 : decode code 796 = .ok (.iconst 2, 1) := by decide +kernel
theorem dl_797 : decode code 797 = .ok (.iadd, 1) := by decide +kernel
theorem dl_798 : decode code 798 = .ok (.iaload, 1) := by decide +kernel
theorem dl_799 : decode code 799 = .ok (.aload_n 0, 1) := by decide +kernel
theorem dl_800 : decode code 800 = .ok (.iload_n 3, 1) := by decide +kernel
theorem dl_801 : decode code 801 = .ok (.iconst 3, 1) := by decide +kernel
theorem dl_802 : decode code 802 = .ok (.iadd, 1) := by decide +kernel
theorem dl_803 : decode code 803 = .ok (.iaload, 1) := by decide +kernel
theorem dl_804 : decode code 804 = .ok (.invokevirtual 116, 3) := by decide +kernel
theorem dl_807 : decode code 807 = .ok (.aload_n 2, 1) := by decide +kernel
theorem dl_808 : decode code 808 = .ok (.aload_n 0, 1) := by decide +kernel
theorem dl_809 : decode code 809 = .ok (.iload_n 3, 1) := by decide +kernel
theorem dl_810 : decode code 810 = .ok (.iconst 1, 1) := by decide +kernel
theorem dl_811 : decode code 811 = .ok (.iadd, 1) := by decide +kernel
theorem dl_812 : decode code 812 = .ok (.iaload, 1) := by decide +kernel
theorem dl_813 : decode code 813 = .ok (.aload_n 0, 1) := by decide +kernel
theorem dl_814 : decode code 814 = .ok (.iload_n 3, 1) := by decide +kernel
theorem dl_815 : decode code 815 = .ok (.iconst 2, 1) := by decide +kernel
theorem dl_816 : decode code 816 = .ok (.iadd, 1) := by decide +kernel
theorem dl_817 : decode code 817 = .ok (.iaload, 1) := by decide +kernel
theorem dl_818 : decode code 818 = .ok (.aload_n 0, 1) := by decide +kernel
theorem dl_819 : decode code 819 = .ok (.iload_n 3, 1) := by decide +kernel
theorem dl_820 : decode code 820 = .ok (.iconst 3, 1) := by decide +kernel
theorem dl_821 : decode code 821 = .ok (.iadd, 1) := by decide +kernel
theorem dl_822 : decode code 822 = .ok (.iaload, 1) := by decide +kernel
theorem dl_823 : decode code 823 = .ok (.invokevirtual 119, 3) := by decide +kernel
theorem dl_826 : decode code 826 = .ok (.if_icmp .eq 54, 3) := by decide +kernel
theorem dl_829 : decode code 829 = .ok (.iconst 0, 1) := by decide +kernel
theorem dl_830 : decode code 830 = .ok (.ireturn, 1) := by decide +kernel
theorem dl_831 : decode code 831 = .ok (.aload_n 1, 1) := by decide +kernel
theorem dl_832 : decode code 832 = .ok (.invokevirtual 120, 3) := by decide +kernel
theorem dl_835 : decode code 835 = .ok (.aload_n 2, 1) := by decide +kernel
theorem dl_836 : decode code 836 = .ok (.invokevirtual 123, 3) := by decide +kernel
theorem dl_839 : decode code 839 = .ok (.if_icmp .eq 41, 3) := by decide +kernel
theorem dl_842 : decode code 842 = .ok (.iconst 0, 1) := by decide +kernel
theorem dl_843 : decode code 843 = .ok (.ireturn, 1) := by decide +kernel
theorem dl_844 : decode code 844 = .ok (.aload_n 1, 1) := by decide +kernel
theorem dl_845 : decode code 845 = .ok (.invokevirtual 124, 3) := by decide +kernel
theorem dl_848 : decode code 848 = .ok (.aload_n 2, 1) := by decide +kernel
theorem dl_849 : decode code 849 = .ok (.invokevirtual 127, 3) := by decide +kernel
theorem dl_852 : decode code 852 = .ok (.if_icmp .eq 28, 3) := by decide +kernel
theorem dl_855 : decode code 855 = .ok (.iconst 0, 1) := by decide +kernel
theorem dl_856 : decode code 856 = .ok (.ireturn, 1) := by decide +kernel
theorem dl_857 : decode code 857 = .ok (.aload_n 1, 1) := by decide +kernel
theorem dl_858 : decode code 858 = .ok (.aload_n 0, 1) := by decide +kernel
theorem dl_859 : decode code 859 = .ok (.iload_n 3, 1) := by decide +kernel
theorem dl_860 : decode code 860 = .ok (.iconst 1, 1) := by decide +kernel
theorem dl_861 : decode code 861 = .ok (.iadd, 1) := by decide +kernel
theorem dl_862 : decode code 862 = .ok (.iaload, 1) := by decide +kernel
theorem dl_863 : decode code 863 = .ok (.invokevirtual 128, 3) := by decide +kernel
theorem dl_866 : decode code 866 = .ok (.aload_n 2, 1) := by decide +kernel
theorem dl_867 : decode code 867 = .ok (.aload_n 0, 1) := by decide +kernel
theorem dl_868 : decode code 868 = .ok (.iload_n 3, 1) := by decide +kernel
theorem dl_869 : decode code 869 = .ok (.iconst 1, 1) := by decide +kernel
theorem dl_870 : decode code 870 = .ok (.iadd, 1) := by decide +kernel
theorem dl_871 : decode code 871 = .ok (.iaload, 1) := by decide +kernel
theorem dl_872 : decode code 872 = .ok (.invokevirtual 131, 3) := by decide +kernel
theorem dl_875 : decode code 875 = .ok (.if_icmp .eq 5, 3) := by decide +kernel
theorem dl_878 : decode code 878 = .ok (.iconst 0, 1) := by decide +kernel
theorem dl_879 : decode code 879 = .ok (.ireturn, 1) := by decide +kernel
theorem dl_880 : decode code 880 = .ok (.iinc 3 6, 3) := by decide +kernel
theorem dl_883 : decode code 883 = .ok (.goto (-865), 3) := by decide +kernel
theorem dl_886 : decode code 886 = .ok (.iconst 1, 1) := by decide +kernel
theorem dl_887 : decode code 887 = .ok (.ireturn, 1) := by decide +kernel
