/-! ===== the law's tables (wip/tools/m_law2.py) ===== -/
theorem w_119 : (Jvm.Cond.initialized "ToldByWitnesses") ∈ lw_U := inU (List.mem_of_getElem? (i := 119) (by decide +kernel)) (by decide +kernel)
theorem w_136 : (Jvm.Cond.initialized "ToldByWitnessesModel") ∈ lw_U := inU (List.mem_of_getElem? (i := 136) (by decide +kernel)) (by decide +kernel)
theorem w_139 : (Jvm.Cond.classLink "ToldByWitnessesLaw" (7 : Nat) "ToldByWitnesses") ∈ lw_U := inU (List.mem_of_getElem? (i := 139) (by decide +kernel)) (by decide +kernel)
theorem w_140 : (Jvm.Cond.instantiable "ToldByWitnesses" (18 : Nat)) ∈ lw_U := inU (List.mem_of_getElem? (i := 140) (by decide +kernel)) (by decide +kernel)
theorem w_141 : (Jvm.Cond.methodLink "ToldByWitnessesLaw" (9 : Nat) ({ cls := "ToldByWitnesses", name := "<init>", desc := "()V" } : Jvm.MethodName)) ∈ lw_U := inU (List.mem_of_getElem? (i := 141) (by decide +kernel)) (by decide +kernel)
theorem w_142 : (Jvm.Cond.instanceMethod ({ cls := "ToldByWitnesses", name := "<init>", desc := "()V" } : Jvm.MethodName)) ∈ lw_U := inU (List.mem_of_getElem? (i := 142) (by decide +kernel)) (by decide +kernel)
theorem w_566 : (Jvm.Cond.methodLink "ToldByWitnessesLaw" (13 : Nat) ({ cls := "ToldByWitnesses", name := "set", desc := "(III)I" } : Jvm.MethodName)) ∈ lw_U := inU (List.mem_of_getElem? (i := 566) (by decide +kernel)) (by decide +kernel)
theorem w_567 : (Jvm.Cond.instanceMethod ({ cls := "ToldByWitnesses", name := "set", desc := "(III)I" } : Jvm.MethodName)) ∈ lw_U := inU (List.mem_of_getElem? (i := 567) (by decide +kernel)) (by decide +kernel)
theorem w_568 : (Jvm.Cond.selects "ToldByWitnesses" ({ cls := "ToldByWitnesses", name := "set", desc := "(III)I" } : Jvm.MethodName) ({ cls := "ToldByWitnesses", name := "set", desc := "(III)I" } : Jvm.MethodName)) ∈ lw_U := inU (List.mem_of_getElem? (i := 568) (by decide +kernel)) (by decide +kernel)
theorem w_593 : (Jvm.Cond.methodLink "ToldByWitnessesLaw" (18 : Nat) ({ cls := "ToldByWitnesses", name := "witness", desc := "(III)I" } : Jvm.MethodName)) ∈ lw_U := inU (List.mem_of_getElem? (i := 593) (by decide +kernel)) (by decide +kernel)
theorem w_604 : (Jvm.Cond.methodLink "ToldByWitnessesLaw" (22 : Nat) ({ cls := "ToldByWitnesses", name := "told", desc := "(II)I" } : Jvm.MethodName)) ∈ lw_U := inU (List.mem_of_getElem? (i := 604) (by decide +kernel)) (by decide +kernel)
theorem w_605 : (Jvm.Cond.instanceMethod ({ cls := "ToldByWitnesses", name := "told", desc := "(II)I" } : Jvm.MethodName)) ∈ lw_U := inU (List.mem_of_getElem? (i := 605) (by decide +kernel)) (by decide +kernel)
theorem w_606 : (Jvm.Cond.selects "ToldByWitnesses" ({ cls := "ToldByWitnesses", name := "told", desc := "(II)I" } : Jvm.MethodName) ({ cls := "ToldByWitnesses", name := "told", desc := "(II)I" } : Jvm.MethodName)) ∈ lw_U := inU (List.mem_of_getElem? (i := 606) (by decide +kernel)) (by decide +kernel)
theorem w_663 : (Jvm.Cond.methodLink "ToldByWitnessesLaw" (27 : Nat) ({ cls := "ToldByWitnesses", name := "feed", desc := "(I)I" } : Jvm.MethodName)) ∈ lw_U := inU (List.mem_of_getElem? (i := 663) (by decide +kernel)) (by decide +kernel)
theorem w_664 : (Jvm.Cond.instanceMethod ({ cls := "ToldByWitnesses", name := "feed", desc := "(I)I" } : Jvm.MethodName)) ∈ lw_U := inU (List.mem_of_getElem? (i := 664) (by decide +kernel)) (by decide +kernel)
theorem w_665 : (Jvm.Cond.selects "ToldByWitnesses" ({ cls := "ToldByWitnesses", name := "feed", desc := "(I)I" } : Jvm.MethodName) ({ cls := "ToldByWitnesses", name := "feed", desc := "(I)I" } : Jvm.MethodName)) ∈ lw_U := inU (List.mem_of_getElem? (i := 665) (by decide +kernel)) (by decide +kernel)
theorem w_667 : (Jvm.Cond.methodLink "ToldByWitnessesLaw" (32 : Nat) ({ cls := "ToldByWitnesses", name := "text", desc := "()I" } : Jvm.MethodName)) ∈ lw_U := inU (List.mem_of_getElem? (i := 667) (by decide +kernel)) (by decide +kernel)
theorem w_668 : (Jvm.Cond.instanceMethod ({ cls := "ToldByWitnesses", name := "text", desc := "()I" } : Jvm.MethodName)) ∈ lw_U := inU (List.mem_of_getElem? (i := 668) (by decide +kernel)) (by decide +kernel)
theorem w_669 : (Jvm.Cond.selects "ToldByWitnesses" ({ cls := "ToldByWitnesses", name := "text", desc := "()I" } : Jvm.MethodName) ({ cls := "ToldByWitnesses", name := "text", desc := "()I" } : Jvm.MethodName)) ∈ lw_U := inU (List.mem_of_getElem? (i := 669) (by decide +kernel)) (by decide +kernel)
theorem w_671 : (Jvm.Cond.methodLink "ToldByWitnessesLaw" (37 : Nat) ({ cls := "ToldByWitnesses", name := "force", desc := "(I)I" } : Jvm.MethodName)) ∈ lw_U := inU (List.mem_of_getElem? (i := 671) (by decide +kernel)) (by decide +kernel)
theorem w_679 : (Jvm.Cond.methodLink "ToldByWitnessesLaw" (41 : Nat) ({ cls := "ToldByWitnesses", name := "all", desc := "(I)I" } : Jvm.MethodName)) ∈ lw_U := inU (List.mem_of_getElem? (i := 679) (by decide +kernel)) (by decide +kernel)
theorem w_680 : (Jvm.Cond.instanceMethod ({ cls := "ToldByWitnesses", name := "all", desc := "(I)I" } : Jvm.MethodName)) ∈ lw_U := inU (List.mem_of_getElem? (i := 680) (by decide +kernel)) (by decide +kernel)
theorem w_681 : (Jvm.Cond.selects "ToldByWitnesses" ({ cls := "ToldByWitnesses", name := "all", desc := "(I)I" } : Jvm.MethodName) ({ cls := "ToldByWitnesses", name := "all", desc := "(I)I" } : Jvm.MethodName)) ∈ lw_U := inU (List.mem_of_getElem? (i := 681) (by decide +kernel)) (by decide +kernel)
theorem w_773 : (Jvm.Cond.methodLink "ToldByWitnessesLaw" (45 : Nat) ({ cls := "ToldByWitnesses", name := "canBe", desc := "(I)I" } : Jvm.MethodName)) ∈ lw_U := inU (List.mem_of_getElem? (i := 773) (by decide +kernel)) (by decide +kernel)
theorem w_774 : (Jvm.Cond.instanceMethod ({ cls := "ToldByWitnesses", name := "canBe", desc := "(I)I" } : Jvm.MethodName)) ∈ lw_U := inU (List.mem_of_getElem? (i := 774) (by decide +kernel)) (by decide +kernel)
theorem w_775 : (Jvm.Cond.selects "ToldByWitnesses" ({ cls := "ToldByWitnesses", name := "canBe", desc := "(I)I" } : Jvm.MethodName) ({ cls := "ToldByWitnesses", name := "canBe", desc := "(I)I" } : Jvm.MethodName)) ∈ lw_U := inU (List.mem_of_getElem? (i := 775) (by decide +kernel)) (by decide +kernel)
theorem w_781 : (Jvm.Cond.methodLink "ToldByWitnessesLaw" (49 : Nat) ({ cls := "ToldByWitnesses", name := "fit", desc := "(I)I" } : Jvm.MethodName)) ∈ lw_U := inU (List.mem_of_getElem? (i := 781) (by decide +kernel)) (by decide +kernel)
theorem w_782 : (Jvm.Cond.instanceMethod ({ cls := "ToldByWitnesses", name := "fit", desc := "(I)I" } : Jvm.MethodName)) ∈ lw_U := inU (List.mem_of_getElem? (i := 782) (by decide +kernel)) (by decide +kernel)
theorem w_783 : (Jvm.Cond.selects "ToldByWitnesses" ({ cls := "ToldByWitnesses", name := "fit", desc := "(I)I" } : Jvm.MethodName) ({ cls := "ToldByWitnesses", name := "fit", desc := "(I)I" } : Jvm.MethodName)) ∈ lw_U := inU (List.mem_of_getElem? (i := 783) (by decide +kernel)) (by decide +kernel)
theorem w_789 : (Jvm.Cond.methodLink "ToldByWitnessesLaw" (53 : Nat) ({ cls := "ToldByWitnesses", name := "life", desc := "(II)I" } : Jvm.MethodName)) ∈ lw_U := inU (List.mem_of_getElem? (i := 789) (by decide +kernel)) (by decide +kernel)
theorem w_790 : (Jvm.Cond.instanceMethod ({ cls := "ToldByWitnesses", name := "life", desc := "(II)I" } : Jvm.MethodName)) ∈ lw_U := inU (List.mem_of_getElem? (i := 790) (by decide +kernel)) (by decide +kernel)
theorem w_791 : (Jvm.Cond.selects "ToldByWitnesses" ({ cls := "ToldByWitnesses", name := "life", desc := "(II)I" } : Jvm.MethodName) ({ cls := "ToldByWitnesses", name := "life", desc := "(II)I" } : Jvm.MethodName)) ∈ lw_U := inU (List.mem_of_getElem? (i := 791) (by decide +kernel)) (by decide +kernel)
theorem w_817 : (Jvm.Cond.methodLink "ToldByWitnessesLaw" (57 : Nat) ({ cls := "ToldByWitnesses", name := "next", desc := "(I)I" } : Jvm.MethodName)) ∈ lw_U := inU (List.mem_of_getElem? (i := 817) (by decide +kernel)) (by decide +kernel)
theorem w_818 : (Jvm.Cond.instanceMethod ({ cls := "ToldByWitnesses", name := "next", desc := "(I)I" } : Jvm.MethodName)) ∈ lw_U := inU (List.mem_of_getElem? (i := 818) (by decide +kernel)) (by decide +kernel)
theorem w_819 : (Jvm.Cond.selects "ToldByWitnesses" ({ cls := "ToldByWitnesses", name := "next", desc := "(I)I" } : Jvm.MethodName) ({ cls := "ToldByWitnesses", name := "next", desc := "(I)I" } : Jvm.MethodName)) ∈ lw_U := inU (List.mem_of_getElem? (i := 819) (by decide +kernel)) (by decide +kernel)
theorem w_853 : (Jvm.Cond.methodLink "ToldByWitnessesLaw" (61 : Nat) ({ cls := "ToldByWitnesses", name := "safest", desc := "(I)I" } : Jvm.MethodName)) ∈ lw_U := inU (List.mem_of_getElem? (i := 853) (by decide +kernel)) (by decide +kernel)
theorem w_854 : (Jvm.Cond.instanceMethod ({ cls := "ToldByWitnesses", name := "safest", desc := "(I)I" } : Jvm.MethodName)) ∈ lw_U := inU (List.mem_of_getElem? (i := 854) (by decide +kernel)) (by decide +kernel)
theorem w_855 : (Jvm.Cond.selects "ToldByWitnesses" ({ cls := "ToldByWitnesses", name := "safest", desc := "(I)I" } : Jvm.MethodName) ({ cls := "ToldByWitnesses", name := "safest", desc := "(I)I" } : Jvm.MethodName)) ∈ lw_U := inU (List.mem_of_getElem? (i := 855) (by decide +kernel)) (by decide +kernel)
theorem w_857 : (Jvm.Cond.methodLink "ToldByWitnessesLaw" (65 : Nat) ({ cls := "ToldByWitnesses", name := "fewest", desc := "(I)I" } : Jvm.MethodName)) ∈ lw_U := inU (List.mem_of_getElem? (i := 857) (by decide +kernel)) (by decide +kernel)
theorem w_858 : (Jvm.Cond.instanceMethod ({ cls := "ToldByWitnesses", name := "fewest", desc := "(I)I" } : Jvm.MethodName)) ∈ lw_U := inU (List.mem_of_getElem? (i := 858) (by decide +kernel)) (by decide +kernel)
theorem w_859 : (Jvm.Cond.selects "ToldByWitnesses" ({ cls := "ToldByWitnesses", name := "fewest", desc := "(I)I" } : Jvm.MethodName) ({ cls := "ToldByWitnesses", name := "fewest", desc := "(I)I" } : Jvm.MethodName)) ∈ lw_U := inU (List.mem_of_getElem? (i := 859) (by decide +kernel)) (by decide +kernel)
theorem w_865 : (Jvm.Cond.methodLink "ToldByWitnessesLaw" (69 : Nat) ({ cls := "ToldByWitnesses", name := "wrong", desc := "()I" } : Jvm.MethodName)) ∈ lw_U := inU (List.mem_of_getElem? (i := 865) (by decide +kernel)) (by decide +kernel)
theorem w_866 : (Jvm.Cond.instanceMethod ({ cls := "ToldByWitnesses", name := "wrong", desc := "()I" } : Jvm.MethodName)) ∈ lw_U := inU (List.mem_of_getElem? (i := 866) (by decide +kernel)) (by decide +kernel)
theorem w_867 : (Jvm.Cond.selects "ToldByWitnesses" ({ cls := "ToldByWitnesses", name := "wrong", desc := "()I" } : Jvm.MethodName) ({ cls := "ToldByWitnesses", name := "wrong", desc := "()I" } : Jvm.MethodName)) ∈ lw_U := inU (List.mem_of_getElem? (i := 867) (by decide +kernel)) (by decide +kernel)
theorem w_873 : (Jvm.Cond.methodLink "ToldByWitnessesLaw" (73 : Nat) ({ cls := "ToldByWitnesses", name := "tells", desc := "(III)I" } : Jvm.MethodName)) ∈ lw_U := inU (List.mem_of_getElem? (i := 873) (by decide +kernel)) (by decide +kernel)
theorem w_874 : (Jvm.Cond.instanceMethod ({ cls := "ToldByWitnesses", name := "tells", desc := "(III)I" } : Jvm.MethodName)) ∈ lw_U := inU (List.mem_of_getElem? (i := 874) (by decide +kernel)) (by decide +kernel)
theorem w_875 : (Jvm.Cond.selects "ToldByWitnesses" ({ cls := "ToldByWitnesses", name := "tells", desc := "(III)I" } : Jvm.MethodName) ({ cls := "ToldByWitnesses", name := "tells", desc := "(III)I" } : Jvm.MethodName)) ∈ lw_U := inU (List.mem_of_getElem? (i := 875) (by decide +kernel)) (by decide +kernel)
theorem w_915 : (Jvm.Cond.methodLink "ToldByWitnessesLaw" (77 : Nat) ({ cls := "ToldByWitnesses", name := "film", desc := "(II)I" } : Jvm.MethodName)) ∈ lw_U := inU (List.mem_of_getElem? (i := 915) (by decide +kernel)) (by decide +kernel)
theorem w_916 : (Jvm.Cond.instanceMethod ({ cls := "ToldByWitnesses", name := "film", desc := "(II)I" } : Jvm.MethodName)) ∈ lw_U := inU (List.mem_of_getElem? (i := 916) (by decide +kernel)) (by decide +kernel)
theorem w_917 : (Jvm.Cond.selects "ToldByWitnesses" ({ cls := "ToldByWitnesses", name := "film", desc := "(II)I" } : Jvm.MethodName) ({ cls := "ToldByWitnesses", name := "film", desc := "(II)I" } : Jvm.MethodName)) ∈ lw_U := inU (List.mem_of_getElem? (i := 917) (by decide +kernel)) (by decide +kernel)
theorem w_929 : (Jvm.Cond.methodLink "ToldByWitnessesLaw" (81 : Nat) ({ cls := "ToldByWitnesses", name := "drawn", desc := "(I)I" } : Jvm.MethodName)) ∈ lw_U := inU (List.mem_of_getElem? (i := 929) (by decide +kernel)) (by decide +kernel)
theorem w_930 : (Jvm.Cond.instanceMethod ({ cls := "ToldByWitnesses", name := "drawn", desc := "(I)I" } : Jvm.MethodName)) ∈ lw_U := inU (List.mem_of_getElem? (i := 930) (by decide +kernel)) (by decide +kernel)
theorem w_931 : (Jvm.Cond.selects "ToldByWitnesses" ({ cls := "ToldByWitnesses", name := "drawn", desc := "(I)I" } : Jvm.MethodName) ({ cls := "ToldByWitnesses", name := "drawn", desc := "(I)I" } : Jvm.MethodName)) ∈ lw_U := inU (List.mem_of_getElem? (i := 931) (by decide +kernel)) (by decide +kernel)
theorem w_938 : (Jvm.Cond.methodLink "ToldByWitnessesLaw" (85 : Nat) ({ cls := "ToldByWitnesses", name := "chance", desc := "(IIII)J" } : Jvm.MethodName)) ∈ lw_U := inU (List.mem_of_getElem? (i := 938) (by decide +kernel)) (by decide +kernel)
theorem w_939 : (Jvm.Cond.instanceMethod ({ cls := "ToldByWitnesses", name := "chance", desc := "(IIII)J" } : Jvm.MethodName)) ∈ lw_U := inU (List.mem_of_getElem? (i := 939) (by decide +kernel)) (by decide +kernel)
theorem w_940 : (Jvm.Cond.selects "ToldByWitnesses" ({ cls := "ToldByWitnesses", name := "chance", desc := "(IIII)J" } : Jvm.MethodName) ({ cls := "ToldByWitnesses", name := "chance", desc := "(IIII)J" } : Jvm.MethodName)) ∈ lw_U := inU (List.mem_of_getElem? (i := 940) (by decide +kernel)) (by decide +kernel)
theorem w_946 : (Jvm.Cond.methodLink "ToldByWitnessesLaw" (90 : Nat) ({ cls := "ToldByWitnesses", name := "image", desc := "()I" } : Jvm.MethodName)) ∈ lw_U := inU (List.mem_of_getElem? (i := 946) (by decide +kernel)) (by decide +kernel)
theorem w_947 : (Jvm.Cond.instanceMethod ({ cls := "ToldByWitnesses", name := "image", desc := "()I" } : Jvm.MethodName)) ∈ lw_U := inU (List.mem_of_getElem? (i := 947) (by decide +kernel)) (by decide +kernel)
theorem w_948 : (Jvm.Cond.selects "ToldByWitnesses" ({ cls := "ToldByWitnesses", name := "image", desc := "()I" } : Jvm.MethodName) ({ cls := "ToldByWitnesses", name := "image", desc := "()I" } : Jvm.MethodName)) ∈ lw_U := inU (List.mem_of_getElem? (i := 948) (by decide +kernel)) (by decide +kernel)
theorem w_956 : (Jvm.Cond.methodLink "ToldByWitnessesLaw" (94 : Nat) ({ cls := "ToldByWitnesses", name := "back", desc := "()I" } : Jvm.MethodName)) ∈ lw_U := inU (List.mem_of_getElem? (i := 956) (by decide +kernel)) (by decide +kernel)
theorem w_957 : (Jvm.Cond.instanceMethod ({ cls := "ToldByWitnesses", name := "back", desc := "()I" } : Jvm.MethodName)) ∈ lw_U := inU (List.mem_of_getElem? (i := 957) (by decide +kernel)) (by decide +kernel)
theorem w_958 : (Jvm.Cond.selects "ToldByWitnesses" ({ cls := "ToldByWitnesses", name := "back", desc := "()I" } : Jvm.MethodName) ({ cls := "ToldByWitnesses", name := "back", desc := "()I" } : Jvm.MethodName)) ∈ lw_U := inU (List.mem_of_getElem? (i := 958) (by decide +kernel)) (by decide +kernel)
theorem w_965 : (Jvm.Cond.methodLink "ToldByWitnessesLaw" (98 : Nat) ({ cls := "ToldByWitnesses", name := "count", desc := "(I)I" } : Jvm.MethodName)) ∈ lw_U := inU (List.mem_of_getElem? (i := 965) (by decide +kernel)) (by decide +kernel)
theorem w_966 : (Jvm.Cond.instanceMethod ({ cls := "ToldByWitnesses", name := "count", desc := "(I)I" } : Jvm.MethodName)) ∈ lw_U := inU (List.mem_of_getElem? (i := 966) (by decide +kernel)) (by decide +kernel)
theorem w_967 : (Jvm.Cond.selects "ToldByWitnesses" ({ cls := "ToldByWitnesses", name := "count", desc := "(I)I" } : Jvm.MethodName) ({ cls := "ToldByWitnesses", name := "count", desc := "(I)I" } : Jvm.MethodName)) ∈ lw_U := inU (List.mem_of_getElem? (i := 967) (by decide +kernel)) (by decide +kernel)
theorem w_969 : (Jvm.Cond.methodLink "ToldByWitnessesLaw" (102 : Nat) ({ cls := "ToldByWitnesses", name := "sheet", desc := "(III)I" } : Jvm.MethodName)) ∈ lw_U := inU (List.mem_of_getElem? (i := 969) (by decide +kernel)) (by decide +kernel)
theorem w_970 : (Jvm.Cond.instanceMethod ({ cls := "ToldByWitnesses", name := "sheet", desc := "(III)I" } : Jvm.MethodName)) ∈ lw_U := inU (List.mem_of_getElem? (i := 970) (by decide +kernel)) (by decide +kernel)
theorem w_971 : (Jvm.Cond.selects "ToldByWitnesses" ({ cls := "ToldByWitnesses", name := "sheet", desc := "(III)I" } : Jvm.MethodName) ({ cls := "ToldByWitnesses", name := "sheet", desc := "(III)I" } : Jvm.MethodName)) ∈ lw_U := inU (List.mem_of_getElem? (i := 971) (by decide +kernel)) (by decide +kernel)
theorem w_973 : (Jvm.Cond.methodLink "ToldByWitnessesLaw" (106 : Nat) ({ cls := "ToldByWitnesses", name := "cell", desc := "(III)I" } : Jvm.MethodName)) ∈ lw_U := inU (List.mem_of_getElem? (i := 973) (by decide +kernel)) (by decide +kernel)
theorem w_974 : (Jvm.Cond.instanceMethod ({ cls := "ToldByWitnesses", name := "cell", desc := "(III)I" } : Jvm.MethodName)) ∈ lw_U := inU (List.mem_of_getElem? (i := 974) (by decide +kernel)) (by decide +kernel)
theorem w_975 : (Jvm.Cond.selects "ToldByWitnesses" ({ cls := "ToldByWitnesses", name := "cell", desc := "(III)I" } : Jvm.MethodName) ({ cls := "ToldByWitnesses", name := "cell", desc := "(III)I" } : Jvm.MethodName)) ∈ lw_U := inU (List.mem_of_getElem? (i := 975) (by decide +kernel)) (by decide +kernel)
theorem w_981 : (Jvm.Cond.methodLink "ToldByWitnessesLaw" (110 : Nat) ({ cls := "ToldByWitnesses", name := "copy", desc := "(IIIII)I" } : Jvm.MethodName)) ∈ lw_U := inU (List.mem_of_getElem? (i := 981) (by decide +kernel)) (by decide +kernel)
theorem w_982 : (Jvm.Cond.instanceMethod ({ cls := "ToldByWitnesses", name := "copy", desc := "(IIIII)I" } : Jvm.MethodName)) ∈ lw_U := inU (List.mem_of_getElem? (i := 982) (by decide +kernel)) (by decide +kernel)
theorem w_983 : (Jvm.Cond.selects "ToldByWitnesses" ({ cls := "ToldByWitnesses", name := "copy", desc := "(IIIII)I" } : Jvm.MethodName) ({ cls := "ToldByWitnesses", name := "copy", desc := "(IIIII)I" } : Jvm.MethodName)) ∈ lw_U := inU (List.mem_of_getElem? (i := 983) (by decide +kernel)) (by decide +kernel)
theorem w_990 : (Jvm.Cond.methodLink "ToldByWitnessesLaw" (115 : Nat) ({ cls := "ToldByWitnesses", name := "witnesses", desc := "(IIII)I" } : Jvm.MethodName)) ∈ lw_U := inU (List.mem_of_getElem? (i := 990) (by decide +kernel)) (by decide +kernel)
theorem w_991 : (Jvm.Cond.instanceMethod ({ cls := "ToldByWitnesses", name := "witnesses", desc := "(IIII)I" } : Jvm.MethodName)) ∈ lw_U := inU (List.mem_of_getElem? (i := 991) (by decide +kernel)) (by decide +kernel)
theorem w_992 : (Jvm.Cond.selects "ToldByWitnesses" ({ cls := "ToldByWitnesses", name := "witnesses", desc := "(IIII)I" } : Jvm.MethodName) ({ cls := "ToldByWitnesses", name := "witnesses", desc := "(IIII)I" } : Jvm.MethodName)) ∈ lw_U := inU (List.mem_of_getElem? (i := 992) (by decide +kernel)) (by decide +kernel)
theorem w_995 : (Jvm.Cond.methodLink "ToldByWitnessesLaw" (120 : Nat) ({ cls := "ToldByWitnesses", name := "taken", desc := "(II)I" } : Jvm.MethodName)) ∈ lw_U := inU (List.mem_of_getElem? (i := 995) (by decide +kernel)) (by decide +kernel)
theorem w_996 : (Jvm.Cond.instanceMethod ({ cls := "ToldByWitnesses", name := "taken", desc := "(II)I" } : Jvm.MethodName)) ∈ lw_U := inU (List.mem_of_getElem? (i := 996) (by decide +kernel)) (by decide +kernel)
theorem w_997 : (Jvm.Cond.selects "ToldByWitnesses" ({ cls := "ToldByWitnesses", name := "taken", desc := "(II)I" } : Jvm.MethodName) ({ cls := "ToldByWitnesses", name := "taken", desc := "(II)I" } : Jvm.MethodName)) ∈ lw_U := inU (List.mem_of_getElem? (i := 997) (by decide +kernel)) (by decide +kernel)
theorem w_1005 : (Jvm.Cond.classLink "ToldByWitnessesLaw" (10 : Nat) "ToldByWitnessesModel") ∈ lw_U := inU (List.mem_of_getElem? (i := 1005) (by decide +kernel)) (by decide +kernel)
theorem w_1006 : (Jvm.Cond.instantiable "ToldByWitnessesModel" (41 : Nat)) ∈ lw_U := inU (List.mem_of_getElem? (i := 1006) (by decide +kernel)) (by decide +kernel)
theorem w_1007 : (Jvm.Cond.methodLink "ToldByWitnessesLaw" (12 : Nat) ({ cls := "ToldByWitnessesModel", name := "<init>", desc := "()V" } : Jvm.MethodName)) ∈ lw_U := inU (List.mem_of_getElem? (i := 1007) (by decide +kernel)) (by decide +kernel)
theorem w_1008 : (Jvm.Cond.instanceMethod ({ cls := "ToldByWitnessesModel", name := "<init>", desc := "()V" } : Jvm.MethodName)) ∈ lw_U := inU (List.mem_of_getElem? (i := 1008) (by decide +kernel)) (by decide +kernel)
theorem w_1139 : (Jvm.Cond.methodLink "ToldByWitnessesLaw" (17 : Nat) ({ cls := "ToldByWitnessesModel", name := "set", desc := "(III)I" } : Jvm.MethodName)) ∈ lw_U := inU (List.mem_of_getElem? (i := 1139) (by decide +kernel)) (by decide +kernel)
theorem w_1140 : (Jvm.Cond.instanceMethod ({ cls := "ToldByWitnessesModel", name := "set", desc := "(III)I" } : Jvm.MethodName)) ∈ lw_U := inU (List.mem_of_getElem? (i := 1140) (by decide +kernel)) (by decide +kernel)
theorem w_1141 : (Jvm.Cond.selects "ToldByWitnessesModel" ({ cls := "ToldByWitnessesModel", name := "set", desc := "(III)I" } : Jvm.MethodName) ({ cls := "ToldByWitnessesModel", name := "set", desc := "(III)I" } : Jvm.MethodName)) ∈ lw_U := inU (List.mem_of_getElem? (i := 1141) (by decide +kernel)) (by decide +kernel)
theorem w_1385 : (Jvm.Cond.methodLink "ToldByWitnessesLaw" (21 : Nat) ({ cls := "ToldByWitnessesModel", name := "witness", desc := "(III)I" } : Jvm.MethodName)) ∈ lw_U := inU (List.mem_of_getElem? (i := 1385) (by decide +kernel)) (by decide +kernel)
theorem w_1391 : (Jvm.Cond.methodLink "ToldByWitnessesLaw" (26 : Nat) ({ cls := "ToldByWitnessesModel", name := "told", desc := "(II)I" } : Jvm.MethodName)) ∈ lw_U := inU (List.mem_of_getElem? (i := 1391) (by decide +kernel)) (by decide +kernel)
theorem w_1392 : (Jvm.Cond.methodLink "ToldByWitnessesLaw" (31 : Nat) ({ cls := "ToldByWitnessesModel", name := "feed", desc := "(I)I" } : Jvm.MethodName)) ∈ lw_U := inU (List.mem_of_getElem? (i := 1392) (by decide +kernel)) (by decide +kernel)
theorem w_1393 : (Jvm.Cond.instanceMethod ({ cls := "ToldByWitnessesModel", name := "feed", desc := "(I)I" } : Jvm.MethodName)) ∈ lw_U := inU (List.mem_of_getElem? (i := 1393) (by decide +kernel)) (by decide +kernel)
theorem w_1394 : (Jvm.Cond.selects "ToldByWitnessesModel" ({ cls := "ToldByWitnessesModel", name := "feed", desc := "(I)I" } : Jvm.MethodName) ({ cls := "ToldByWitnessesModel", name := "feed", desc := "(I)I" } : Jvm.MethodName)) ∈ lw_U := inU (List.mem_of_getElem? (i := 1394) (by decide +kernel)) (by decide +kernel)
theorem w_1397 : (Jvm.Cond.methodLink "ToldByWitnessesLaw" (36 : Nat) ({ cls := "ToldByWitnessesModel", name := "text", desc := "()I" } : Jvm.MethodName)) ∈ lw_U := inU (List.mem_of_getElem? (i := 1397) (by decide +kernel)) (by decide +kernel)
theorem w_1398 : (Jvm.Cond.instanceMethod ({ cls := "ToldByWitnessesModel", name := "text", desc := "()I" } : Jvm.MethodName)) ∈ lw_U := inU (List.mem_of_getElem? (i := 1398) (by decide +kernel)) (by decide +kernel)
theorem w_1399 : (Jvm.Cond.selects "ToldByWitnessesModel" ({ cls := "ToldByWitnessesModel", name := "text", desc := "()I" } : Jvm.MethodName) ({ cls := "ToldByWitnessesModel", name := "text", desc := "()I" } : Jvm.MethodName)) ∈ lw_U := inU (List.mem_of_getElem? (i := 1399) (by decide +kernel)) (by decide +kernel)
theorem w_1401 : (Jvm.Cond.methodLink "ToldByWitnessesLaw" (40 : Nat) ({ cls := "ToldByWitnessesModel", name := "force", desc := "(I)I" } : Jvm.MethodName)) ∈ lw_U := inU (List.mem_of_getElem? (i := 1401) (by decide +kernel)) (by decide +kernel)
theorem w_1402 : (Jvm.Cond.instanceMethod ({ cls := "ToldByWitnessesModel", name := "force", desc := "(I)I" } : Jvm.MethodName)) ∈ lw_U := inU (List.mem_of_getElem? (i := 1402) (by decide +kernel)) (by decide +kernel)
theorem w_1403 : (Jvm.Cond.selects "ToldByWitnessesModel" ({ cls := "ToldByWitnessesModel", name := "force", desc := "(I)I" } : Jvm.MethodName) ({ cls := "ToldByWitnessesModel", name := "force", desc := "(I)I" } : Jvm.MethodName)) ∈ lw_U := inU (List.mem_of_getElem? (i := 1403) (by decide +kernel)) (by decide +kernel)
theorem w_1405 : (Jvm.Cond.methodLink "ToldByWitnessesLaw" (44 : Nat) ({ cls := "ToldByWitnessesModel", name := "all", desc := "(I)I" } : Jvm.MethodName)) ∈ lw_U := inU (List.mem_of_getElem? (i := 1405) (by decide +kernel)) (by decide +kernel)
theorem w_1406 : (Jvm.Cond.instanceMethod ({ cls := "ToldByWitnessesModel", name := "all", desc := "(I)I" } : Jvm.MethodName)) ∈ lw_U := inU (List.mem_of_getElem? (i := 1406) (by decide +kernel)) (by decide +kernel)
theorem w_1407 : (Jvm.Cond.selects "ToldByWitnessesModel" ({ cls := "ToldByWitnessesModel", name := "all", desc := "(I)I" } : Jvm.MethodName) ({ cls := "ToldByWitnessesModel", name := "all", desc := "(I)I" } : Jvm.MethodName)) ∈ lw_U := inU (List.mem_of_getElem? (i := 1407) (by decide +kernel)) (by decide +kernel)
theorem w_1463 : (Jvm.Cond.methodLink "ToldByWitnessesLaw" (48 : Nat) ({ cls := "ToldByWitnessesModel", name := "canBe", desc := "(I)I" } : Jvm.MethodName)) ∈ lw_U := inU (List.mem_of_getElem? (i := 1463) (by decide +kernel)) (by decide +kernel)
theorem w_1464 : (Jvm.Cond.instanceMethod ({ cls := "ToldByWitnessesModel", name := "canBe", desc := "(I)I" } : Jvm.MethodName)) ∈ lw_U := inU (List.mem_of_getElem? (i := 1464) (by decide +kernel)) (by decide +kernel)
theorem w_1465 : (Jvm.Cond.selects "ToldByWitnessesModel" ({ cls := "ToldByWitnessesModel", name := "canBe", desc := "(I)I" } : Jvm.MethodName) ({ cls := "ToldByWitnessesModel", name := "canBe", desc := "(I)I" } : Jvm.MethodName)) ∈ lw_U := inU (List.mem_of_getElem? (i := 1465) (by decide +kernel)) (by decide +kernel)
theorem w_1467 : (Jvm.Cond.methodLink "ToldByWitnessesLaw" (52 : Nat) ({ cls := "ToldByWitnessesModel", name := "fit", desc := "(I)I" } : Jvm.MethodName)) ∈ lw_U := inU (List.mem_of_getElem? (i := 1467) (by decide +kernel)) (by decide +kernel)
theorem w_1468 : (Jvm.Cond.instanceMethod ({ cls := "ToldByWitnessesModel", name := "fit", desc := "(I)I" } : Jvm.MethodName)) ∈ lw_U := inU (List.mem_of_getElem? (i := 1468) (by decide +kernel)) (by decide +kernel)
theorem w_1469 : (Jvm.Cond.selects "ToldByWitnessesModel" ({ cls := "ToldByWitnessesModel", name := "fit", desc := "(I)I" } : Jvm.MethodName) ({ cls := "ToldByWitnessesModel", name := "fit", desc := "(I)I" } : Jvm.MethodName)) ∈ lw_U := inU (List.mem_of_getElem? (i := 1469) (by decide +kernel)) (by decide +kernel)
theorem w_1474 : (Jvm.Cond.methodLink "ToldByWitnessesLaw" (56 : Nat) ({ cls := "ToldByWitnessesModel", name := "life", desc := "(II)I" } : Jvm.MethodName)) ∈ lw_U := inU (List.mem_of_getElem? (i := 1474) (by decide +kernel)) (by decide +kernel)
theorem w_1475 : (Jvm.Cond.instanceMethod ({ cls := "ToldByWitnessesModel", name := "life", desc := "(II)I" } : Jvm.MethodName)) ∈ lw_U := inU (List.mem_of_getElem? (i := 1475) (by decide +kernel)) (by decide +kernel)
theorem w_1476 : (Jvm.Cond.selects "ToldByWitnessesModel" ({ cls := "ToldByWitnessesModel", name := "life", desc := "(II)I" } : Jvm.MethodName) ({ cls := "ToldByWitnessesModel", name := "life", desc := "(II)I" } : Jvm.MethodName)) ∈ lw_U := inU (List.mem_of_getElem? (i := 1476) (by decide +kernel)) (by decide +kernel)
theorem w_1478 : (Jvm.Cond.methodLink "ToldByWitnessesLaw" (60 : Nat) ({ cls := "ToldByWitnessesModel", name := "next", desc := "(I)I" } : Jvm.MethodName)) ∈ lw_U := inU (List.mem_of_getElem? (i := 1478) (by decide +kernel)) (by decide +kernel)
theorem w_1479 : (Jvm.Cond.instanceMethod ({ cls := "ToldByWitnessesModel", name := "next", desc := "(I)I" } : Jvm.MethodName)) ∈ lw_U := inU (List.mem_of_getElem? (i := 1479) (by decide +kernel)) (by decide +kernel)
theorem w_1480 : (Jvm.Cond.selects "ToldByWitnessesModel" ({ cls := "ToldByWitnessesModel", name := "next", desc := "(I)I" } : Jvm.MethodName) ({ cls := "ToldByWitnessesModel", name := "next", desc := "(I)I" } : Jvm.MethodName)) ∈ lw_U := inU (List.mem_of_getElem? (i := 1480) (by decide +kernel)) (by decide +kernel)
theorem w_1482 : (Jvm.Cond.methodLink "ToldByWitnessesLaw" (64 : Nat) ({ cls := "ToldByWitnessesModel", name := "safest", desc := "(I)I" } : Jvm.MethodName)) ∈ lw_U := inU (List.mem_of_getElem? (i := 1482) (by decide +kernel)) (by decide +kernel)
theorem w_1483 : (Jvm.Cond.instanceMethod ({ cls := "ToldByWitnessesModel", name := "safest", desc := "(I)I" } : Jvm.MethodName)) ∈ lw_U := inU (List.mem_of_getElem? (i := 1483) (by decide +kernel)) (by decide +kernel)
theorem w_1484 : (Jvm.Cond.selects "ToldByWitnessesModel" ({ cls := "ToldByWitnessesModel", name := "safest", desc := "(I)I" } : Jvm.MethodName) ({ cls := "ToldByWitnessesModel", name := "safest", desc := "(I)I" } : Jvm.MethodName)) ∈ lw_U := inU (List.mem_of_getElem? (i := 1484) (by decide +kernel)) (by decide +kernel)
theorem w_1498 : (Jvm.Cond.methodLink "ToldByWitnessesLaw" (68 : Nat) ({ cls := "ToldByWitnessesModel", name := "fewest", desc := "(I)I" } : Jvm.MethodName)) ∈ lw_U := inU (List.mem_of_getElem? (i := 1498) (by decide +kernel)) (by decide +kernel)
theorem w_1499 : (Jvm.Cond.instanceMethod ({ cls := "ToldByWitnessesModel", name := "fewest", desc := "(I)I" } : Jvm.MethodName)) ∈ lw_U := inU (List.mem_of_getElem? (i := 1499) (by decide +kernel)) (by decide +kernel)
theorem w_1500 : (Jvm.Cond.selects "ToldByWitnessesModel" ({ cls := "ToldByWitnessesModel", name := "fewest", desc := "(I)I" } : Jvm.MethodName) ({ cls := "ToldByWitnessesModel", name := "fewest", desc := "(I)I" } : Jvm.MethodName)) ∈ lw_U := inU (List.mem_of_getElem? (i := 1500) (by decide +kernel)) (by decide +kernel)
theorem w_1502 : (Jvm.Cond.methodLink "ToldByWitnessesLaw" (72 : Nat) ({ cls := "ToldByWitnessesModel", name := "wrong", desc := "()I" } : Jvm.MethodName)) ∈ lw_U := inU (List.mem_of_getElem? (i := 1502) (by decide +kernel)) (by decide +kernel)
theorem w_1503 : (Jvm.Cond.instanceMethod ({ cls := "ToldByWitnessesModel", name := "wrong", desc := "()I" } : Jvm.MethodName)) ∈ lw_U := inU (List.mem_of_getElem? (i := 1503) (by decide +kernel)) (by decide +kernel)
theorem w_1504 : (Jvm.Cond.selects "ToldByWitnessesModel" ({ cls := "ToldByWitnessesModel", name := "wrong", desc := "()I" } : Jvm.MethodName) ({ cls := "ToldByWitnessesModel", name := "wrong", desc := "()I" } : Jvm.MethodName)) ∈ lw_U := inU (List.mem_of_getElem? (i := 1504) (by decide +kernel)) (by decide +kernel)
theorem w_1507 : (Jvm.Cond.methodLink "ToldByWitnessesLaw" (76 : Nat) ({ cls := "ToldByWitnessesModel", name := "tells", desc := "(III)I" } : Jvm.MethodName)) ∈ lw_U := inU (List.mem_of_getElem? (i := 1507) (by decide +kernel)) (by decide +kernel)
theorem w_1508 : (Jvm.Cond.instanceMethod ({ cls := "ToldByWitnessesModel", name := "tells", desc := "(III)I" } : Jvm.MethodName)) ∈ lw_U := inU (List.mem_of_getElem? (i := 1508) (by decide +kernel)) (by decide +kernel)
theorem w_1509 : (Jvm.Cond.selects "ToldByWitnessesModel" ({ cls := "ToldByWitnessesModel", name := "tells", desc := "(III)I" } : Jvm.MethodName) ({ cls := "ToldByWitnessesModel", name := "tells", desc := "(III)I" } : Jvm.MethodName)) ∈ lw_U := inU (List.mem_of_getElem? (i := 1509) (by decide +kernel)) (by decide +kernel)
theorem w_1523 : (Jvm.Cond.methodLink "ToldByWitnessesLaw" (80 : Nat) ({ cls := "ToldByWitnessesModel", name := "film", desc := "(II)I" } : Jvm.MethodName)) ∈ lw_U := inU (List.mem_of_getElem? (i := 1523) (by decide +kernel)) (by decide +kernel)
theorem w_1524 : (Jvm.Cond.instanceMethod ({ cls := "ToldByWitnessesModel", name := "film", desc := "(II)I" } : Jvm.MethodName)) ∈ lw_U := inU (List.mem_of_getElem? (i := 1524) (by decide +kernel)) (by decide +kernel)
theorem w_1525 : (Jvm.Cond.selects "ToldByWitnessesModel" ({ cls := "ToldByWitnessesModel", name := "film", desc := "(II)I" } : Jvm.MethodName) ({ cls := "ToldByWitnessesModel", name := "film", desc := "(II)I" } : Jvm.MethodName)) ∈ lw_U := inU (List.mem_of_getElem? (i := 1525) (by decide +kernel)) (by decide +kernel)
theorem w_1533 : (Jvm.Cond.methodLink "ToldByWitnessesLaw" (84 : Nat) ({ cls := "ToldByWitnessesModel", name := "drawn", desc := "(I)I" } : Jvm.MethodName)) ∈ lw_U := inU (List.mem_of_getElem? (i := 1533) (by decide +kernel)) (by decide +kernel)
theorem w_1534 : (Jvm.Cond.instanceMethod ({ cls := "ToldByWitnessesModel", name := "drawn", desc := "(I)I" } : Jvm.MethodName)) ∈ lw_U := inU (List.mem_of_getElem? (i := 1534) (by decide +kernel)) (by decide +kernel)
theorem w_1535 : (Jvm.Cond.selects "ToldByWitnessesModel" ({ cls := "ToldByWitnessesModel", name := "drawn", desc := "(I)I" } : Jvm.MethodName) ({ cls := "ToldByWitnessesModel", name := "drawn", desc := "(I)I" } : Jvm.MethodName)) ∈ lw_U := inU (List.mem_of_getElem? (i := 1535) (by decide +kernel)) (by decide +kernel)
theorem w_1546 : (Jvm.Cond.methodLink "ToldByWitnessesLaw" (89 : Nat) ({ cls := "ToldByWitnessesModel", name := "chance", desc := "(IIII)J" } : Jvm.MethodName)) ∈ lw_U := inU (List.mem_of_getElem? (i := 1546) (by decide +kernel)) (by decide +kernel)
theorem w_1547 : (Jvm.Cond.instanceMethod ({ cls := "ToldByWitnessesModel", name := "chance", desc := "(IIII)J" } : Jvm.MethodName)) ∈ lw_U := inU (List.mem_of_getElem? (i := 1547) (by decide +kernel)) (by decide +kernel)
theorem w_1548 : (Jvm.Cond.selects "ToldByWitnessesModel" ({ cls := "ToldByWitnessesModel", name := "chance", desc := "(IIII)J" } : Jvm.MethodName) ({ cls := "ToldByWitnessesModel", name := "chance", desc := "(IIII)J" } : Jvm.MethodName)) ∈ lw_U := inU (List.mem_of_getElem? (i := 1548) (by decide +kernel)) (by decide +kernel)
theorem w_1552 : (Jvm.Cond.methodLink "ToldByWitnessesLaw" (93 : Nat) ({ cls := "ToldByWitnessesModel", name := "image", desc := "()I" } : Jvm.MethodName)) ∈ lw_U := inU (List.mem_of_getElem? (i := 1552) (by decide +kernel)) (by decide +kernel)
theorem w_1553 : (Jvm.Cond.instanceMethod ({ cls := "ToldByWitnessesModel", name := "image", desc := "()I" } : Jvm.MethodName)) ∈ lw_U := inU (List.mem_of_getElem? (i := 1553) (by decide +kernel)) (by decide +kernel)
theorem w_1554 : (Jvm.Cond.selects "ToldByWitnessesModel" ({ cls := "ToldByWitnessesModel", name := "image", desc := "()I" } : Jvm.MethodName) ({ cls := "ToldByWitnessesModel", name := "image", desc := "()I" } : Jvm.MethodName)) ∈ lw_U := inU (List.mem_of_getElem? (i := 1554) (by decide +kernel)) (by decide +kernel)
theorem w_1556 : (Jvm.Cond.methodLink "ToldByWitnessesLaw" (97 : Nat) ({ cls := "ToldByWitnessesModel", name := "back", desc := "()I" } : Jvm.MethodName)) ∈ lw_U := inU (List.mem_of_getElem? (i := 1556) (by decide +kernel)) (by decide +kernel)
theorem w_1557 : (Jvm.Cond.instanceMethod ({ cls := "ToldByWitnessesModel", name := "back", desc := "()I" } : Jvm.MethodName)) ∈ lw_U := inU (List.mem_of_getElem? (i := 1557) (by decide +kernel)) (by decide +kernel)
theorem w_1558 : (Jvm.Cond.selects "ToldByWitnessesModel" ({ cls := "ToldByWitnessesModel", name := "back", desc := "()I" } : Jvm.MethodName) ({ cls := "ToldByWitnessesModel", name := "back", desc := "()I" } : Jvm.MethodName)) ∈ lw_U := inU (List.mem_of_getElem? (i := 1558) (by decide +kernel)) (by decide +kernel)
theorem w_1560 : (Jvm.Cond.methodLink "ToldByWitnessesLaw" (101 : Nat) ({ cls := "ToldByWitnessesModel", name := "count", desc := "(I)I" } : Jvm.MethodName)) ∈ lw_U := inU (List.mem_of_getElem? (i := 1560) (by decide +kernel)) (by decide +kernel)
theorem w_1561 : (Jvm.Cond.instanceMethod ({ cls := "ToldByWitnessesModel", name := "count", desc := "(I)I" } : Jvm.MethodName)) ∈ lw_U := inU (List.mem_of_getElem? (i := 1561) (by decide +kernel)) (by decide +kernel)
theorem w_1562 : (Jvm.Cond.selects "ToldByWitnessesModel" ({ cls := "ToldByWitnessesModel", name := "count", desc := "(I)I" } : Jvm.MethodName) ({ cls := "ToldByWitnessesModel", name := "count", desc := "(I)I" } : Jvm.MethodName)) ∈ lw_U := inU (List.mem_of_getElem? (i := 1562) (by decide +kernel)) (by decide +kernel)
theorem w_1564 : (Jvm.Cond.methodLink "ToldByWitnessesLaw" (105 : Nat) ({ cls := "ToldByWitnessesModel", name := "sheet", desc := "(III)I" } : Jvm.MethodName)) ∈ lw_U := inU (List.mem_of_getElem? (i := 1564) (by decide +kernel)) (by decide +kernel)
theorem w_1565 : (Jvm.Cond.methodLink "ToldByWitnessesLaw" (109 : Nat) ({ cls := "ToldByWitnessesModel", name := "cell", desc := "(III)I" } : Jvm.MethodName)) ∈ lw_U := inU (List.mem_of_getElem? (i := 1565) (by decide +kernel)) (by decide +kernel)
theorem w_1566 : (Jvm.Cond.instanceMethod ({ cls := "ToldByWitnessesModel", name := "cell", desc := "(III)I" } : Jvm.MethodName)) ∈ lw_U := inU (List.mem_of_getElem? (i := 1566) (by decide +kernel)) (by decide +kernel)
theorem w_1567 : (Jvm.Cond.selects "ToldByWitnessesModel" ({ cls := "ToldByWitnessesModel", name := "cell", desc := "(III)I" } : Jvm.MethodName) ({ cls := "ToldByWitnessesModel", name := "cell", desc := "(III)I" } : Jvm.MethodName)) ∈ lw_U := inU (List.mem_of_getElem? (i := 1567) (by decide +kernel)) (by decide +kernel)
theorem w_1569 : (Jvm.Cond.methodLink "ToldByWitnessesLaw" (114 : Nat) ({ cls := "ToldByWitnessesModel", name := "copy", desc := "(IIIII)I" } : Jvm.MethodName)) ∈ lw_U := inU (List.mem_of_getElem? (i := 1569) (by decide +kernel)) (by decide +kernel)
theorem w_1570 : (Jvm.Cond.instanceMethod ({ cls := "ToldByWitnessesModel", name := "copy", desc := "(IIIII)I" } : Jvm.MethodName)) ∈ lw_U := inU (List.mem_of_getElem? (i := 1570) (by decide +kernel)) (by decide +kernel)
theorem w_1571 : (Jvm.Cond.selects "ToldByWitnessesModel" ({ cls := "ToldByWitnessesModel", name := "copy", desc := "(IIIII)I" } : Jvm.MethodName) ({ cls := "ToldByWitnessesModel", name := "copy", desc := "(IIIII)I" } : Jvm.MethodName)) ∈ lw_U := inU (List.mem_of_getElem? (i := 1571) (by decide +kernel)) (by decide +kernel)
theorem w_1573 : (Jvm.Cond.methodLink "ToldByWitnessesLaw" (119 : Nat) ({ cls := "ToldByWitnessesModel", name := "witnesses", desc := "(IIII)I" } : Jvm.MethodName)) ∈ lw_U := inU (List.mem_of_getElem? (i := 1573) (by decide +kernel)) (by decide +kernel)
theorem w_1574 : (Jvm.Cond.instanceMethod ({ cls := "ToldByWitnessesModel", name := "witnesses", desc := "(IIII)I" } : Jvm.MethodName)) ∈ lw_U := inU (List.mem_of_getElem? (i := 1574) (by decide +kernel)) (by decide +kernel)
theorem w_1575 : (Jvm.Cond.selects "ToldByWitnessesModel" ({ cls := "ToldByWitnessesModel", name := "witnesses", desc := "(IIII)I" } : Jvm.MethodName) ({ cls := "ToldByWitnessesModel", name := "witnesses", desc := "(IIII)I" } : Jvm.MethodName)) ∈ lw_U := inU (List.mem_of_getElem? (i := 1575) (by decide +kernel)) (by decide +kernel)
theorem w_1578 : (Jvm.Cond.methodLink "ToldByWitnessesLaw" (123 : Nat) ({ cls := "ToldByWitnessesModel", name := "taken", desc := "(II)I" } : Jvm.MethodName)) ∈ lw_U := inU (List.mem_of_getElem? (i := 1578) (by decide +kernel)) (by decide +kernel)
theorem w_1579 : (Jvm.Cond.instanceMethod ({ cls := "ToldByWitnessesModel", name := "taken", desc := "(II)I" } : Jvm.MethodName)) ∈ lw_U := inU (List.mem_of_getElem? (i := 1579) (by decide +kernel)) (by decide +kernel)
theorem w_1580 : (Jvm.Cond.selects "ToldByWitnessesModel" ({ cls := "ToldByWitnessesModel", name := "taken", desc := "(II)I" } : Jvm.MethodName) ({ cls := "ToldByWitnessesModel", name := "taken", desc := "(II)I" } : Jvm.MethodName)) ∈ lw_U := inU (List.mem_of_getElem? (i := 1580) (by decide +kernel)) (by decide +kernel)
theorem sndLN {M : MI} {b L : Nat} {xs : Nat → Int32} : ∀ q ∈ ([] : List (Nat × POp)), LSnd M b L xs q.1 q.2 := fun _ h => absurd h List.not_mem_nil
theorem sndLC {M : MI} {b L : Nat} {xs : Nat → Int32} {pc : Nat} {op : POp} {t : List (Nat × POp)} (h : LSnd M b L xs pc op) (ht : ∀ q ∈ t, LSnd M b L xs q.1 q.2) : ∀ q ∈ (pc, op) :: t, LSnd M b L xs q.1 q.2 := List.forall_mem_cons.mpr ⟨h, ht⟩
def tL_h (L : Nat) (xs : Nat → Int32) : List (Nat × POp) := [(0, oNew 7 18 [.null, .null, .null, .null, .null, .null, .null, .null, .null, .null, .null, .null, .int 0, .int 0, .int 0, .int 0, .int 0, .null]),
  (3, oDup),
  (7, oStA 1 1),
  (8, oNew 8 41 [.int 0, .null, .null, .int 0, .int 0, .null, .int 0, .int 0, .null, .null, .null, .int 0, .int 0, .int 0, .int 0, .int 0, .int 0, .int 0, .int 0, .int 0, .int 0, .int 0, .int 0, .long 0, .int 0, .int 0, .int 0, .null, .null, .null, .null, .null, .null, .null, .int 0, .int 0, .int 0, .null, .null, .null, .null]),
  (11, oDup),
  (15, oStA 2 1),
  (16, oPush (.int 0) 1),
  (17, oStI 3 1),
  (18, oLdI 3 1),
  (19, oLdA 0 1),
  (20, oSlen L),
  (21, oPush (.int 6) 2),
  (23, oBin (fun x y => x - y)),
  (24, oCmp 4 957),
  (27, oLdA 0 1),
  (28, oLdI 3 1),
  (29, oSld L xs),
  (30, oPush (.int 31) 2),
  (32, oBin (fun x y => x &&& y)),
  (33, oSw [(0, 152), (1, 195), (2, 238), (3, 271), (4, 294), (5, 307), (6, 330), (7, 353), (8, 376), (9, 399), (10, 432), (11, 455), (12, 478), (13, 501), (14, 514), (15, 557), (16, 590), (17, 613), (18, 667), (19, 680), (20, 693), (21, 716), (22, 759), (23, 802), (24, 865), (25, 918)] 951),
  (951, oInc 3 6),
  (954, oGoto 18),
  (957, oPush (.int 1) 1)]
abbrev mL_h (L : Nat) (xs : Nat → Int32) : MI := (x, code, 4, ret, tL_h L xs)
set_option maxRecDepth 20000 in
theorem GL_h {b L : Nat} {xs : Nat → Int32} : LGood (mL_h L xs) b L xs := show ∀ q ∈ tL_h L xs, LSnd (mL_h L xs) b L xs q.1 q.2 from
  sndLC (LSnd.of (sd_new (C := RX10) (T := TX10) (N := 18) (hc := rfl) (hin0 := iX10) (ty0 := tyX10) (hty := tyX10_ok) (hcl := w_139) (hinst := w_140) (hini := w_119) (hfs := fsX10) (hft := fun _ => rfl) (hd := (by decide +kernel : decode code 0 = .ok (.new 7, 3))))) (
   sndLC (LSnd.of (sd_dup (hd := (by decide +kernel : decode code 3 = .ok (.dup, 1))))) (
   sndLC (LSnd.of (sd_astore_n (hi := rfl) (hd := (by decide +kernel : decode code 7 = .ok (.astore_n 1, 1))))) (
   sndLC (LSnd.of (sd_new (C := RX11) (T := TX11) (N := 41) (hc := rfl) (hin0 := iX11) (ty0 := tyX11) (hty := tyX11_ok) (hcl := w_1005) (hinst := w_1006) (hini := w_136) (hfs := fsX11) (hft := fun _ => rfl) (hd := (by decide +kernel : decode code 8 = .ok (.new 10, 3))))) (
   sndLC (LSnd.of (sd_dup (hd := (by decide +kernel : decode code 11 = .ok (.dup, 1))))) (
   sndLC (LSnd.of (sd_astore_n (hi := rfl) (hd := (by decide +kernel : decode code 15 = .ok (.astore_n 2, 1))))) (
   sndLC (LSnd.of (sd_iconst (hd := (by decide +kernel : decode code 16 = .ok (.iconst 0, 1))) (hv := by decide))) (
   sndLC (LSnd.of (sd_istore_n (hi := rfl) (hd := (by decide +kernel : decode code 17 = .ok (.istore_n 3, 1))))) (
   sndLC (LSnd.of (sd_iload_n (hi := rfl) (hd := (by decide +kernel : decode code 18 = .ok (.iload_n 3, 1))))) (
   sndLC (LSnd.of (sd_aload_n (hi := rfl) (hd := (by decide +kernel : decode code 19 = .ok (.aload_n 0, 1))))) (
   sndLC (sd_slen (by decide +kernel : decode code 20 = .ok (.arraylength, 1))) (
   sndLC (LSnd.of (sd_bipush (hd := (by decide +kernel : decode code 21 = .ok (.bipush 6, 2))) (hv := by decide))) (
   sndLC (LSnd.of (sd_isub (hd := (by decide +kernel : decode code 23 = .ok (.isub, 1))))) (
   sndLC (LSnd.of (sd_cmp_gt (ht := by decide) (hd := (by decide +kernel : decode code 24 = .ok (.if_icmp .gt 933, 3))))) (
   sndLC (LSnd.of (sd_aload_n (hi := rfl) (hd := (by decide +kernel : decode code 27 = .ok (.aload_n 0, 1))))) (
   sndLC (LSnd.of (sd_iload_n (hi := rfl) (hd := (by decide +kernel : decode code 28 = .ok (.iload_n 3, 1))))) (
   sndLC (sd_sld (by decide +kernel : decode code 29 = .ok (.iaload, 1))) (
   sndLC (LSnd.of (sd_bipush (hd := (by decide +kernel : decode code 30 = .ok (.bipush 31, 2))) (hv := by decide))) (
   sndLC (LSnd.of (sd_iand (hd := (by decide +kernel : decode code 32 = .ok (.iand, 1))))) (
   sndLC (LSnd.of (sd_tsw (hd := (by decide +kernel : decode code 33 = .ok (.tableswitch 918 0 25 #[119, 162, 205, 238, 261, 274, 297, 320, 343, 366, 399, 422, 445, 468, 481, 524, 557, 580, 634, 647, 660, 683, 726, 769, 832, 885], 119))) (hok := by decide +kernel))) (
   sndLC (LSnd.of (sd_iinc (hv := by decide) (hd := (by decide +kernel : decode code 951 = .ok (.iinc 3 6, 3))))) (
   sndLC (LSnd.of (sd_goto (ht := by decide) (hd := (by decide +kernel : decode code 954 = .ok (.goto (-936), 3))))) (
   sndLC (LSnd.of (sd_iconst (hd := (by decide +kernel : decode code 957 = .ok (.iconst 1, 1))) (hv := by decide))) (
   sndLN)))))))))))))))))))))))
def tL_0 (L : Nat) (xs : Nat → Int32) : List (Nat × POp) := [(152, oLdA 1 1),
  (153, oLdA 0 1),
  (154, oLdI 3 1),
  (155, oPush (.int 1) 1),
  (156, oBin (fun x y => x + y)),
  (157, oSld L xs),
  (158, oLdA 0 1),
  (159, oLdI 3 1),
  (160, oPush (.int 2) 1),
  (161, oBin (fun x y => x + y)),
  (162, oSld L xs),
  (163, oLdA 0 1),
  (164, oLdI 3 1),
  (165, oPush (.int 3) 1),
  (166, oBin (fun x y => x + y)),
  (167, oSld L xs),
  (171, oLdA 2 1),
  (172, oLdA 0 1),
  (173, oLdI 3 1),
  (174, oPush (.int 1) 1),
  (175, oBin (fun x y => x + y)),
  (176, oSld L xs),
  (177, oLdA 0 1),
  (178, oLdI 3 1),
  (179, oPush (.int 2) 1),
  (180, oBin (fun x y => x + y)),
  (181, oSld L xs),
  (182, oLdA 0 1),
  (183, oLdI 3 1),
  (184, oPush (.int 3) 1),
  (185, oBin (fun x y => x + y)),
  (186, oSld L xs),
  (190, oCmp 0 951),
  (193, oPush (.int 0) 1)]
abbrev mL_0 (L : Nat) (xs : Nat → Int32) : MI := (x, code, 4, ret, tL_0 L xs)
set_option maxRecDepth 20000 in
theorem GL_0 {b L : Nat} {xs : Nat → Int32} : LGood (mL_0 L xs) b L xs := show ∀ q ∈ tL_0 L xs, LSnd (mL_0 L xs) b L xs q.1 q.2 from
  sndLC (LSnd.of (sd_aload_n (hi := rfl) (hd := (by decide +kernel : decode code 152 = .ok (.aload_n 1, 1))))) (
   sndLC (LSnd.of (sd_aload_n (hi := rfl) (hd := (by decide +kernel : decode code 153 = .ok (.aload_n 0, 1))))) (
   sndLC (LSnd.of (sd_iload_n (hi := rfl) (hd := (by decide +kernel : decode code 154 = .ok (.iload_n 3, 1))))) (
   sndLC (LSnd.of (sd_iconst (hd := (by decide +kernel : decode code 155 = .ok (.iconst 1, 1))) (hv := by decide))) (
   sndLC (LSnd.of (sd_iadd (hd := (by decide +kernel : decode code 156 = .ok (.iadd, 1))))) (
   sndLC (sd_sld (by decide +kernel : decode code 157 = .ok (.iaload, 1))) (
   sndLC (LSnd.of (sd_aload_n (hi := rfl) (hd := (by decide +kernel : decode code 158 = .ok (.aload_n 0, 1))))) (
   sndLC (LSnd.of (sd_iload_n (hi := rfl) (hd := (by decide +kernel : decode code 159 = .ok (.iload_n 3, 1))))) (
   sndLC (LSnd.of (sd_iconst (hd := (by decide +kernel : decode code 160 = .ok (.iconst 2, 1))) (hv := by decide))) (
   sndLC (LSnd.of (sd_iadd (hd := (by decide +kernel : decode code 161 = .ok (.iadd, 1))))) (
   sndLC (sd_sld (by decide +kernel : decode code 162 = .ok (.iaload, 1))) (
   sndLC (LSnd.of (sd_aload_n (hi := rfl) (hd := (by decide +kernel : decode code 163 = .ok (.aload_n 0, 1))))) (
   sndLC (LSnd.of (sd_iload_n (hi := rfl) (hd := (by decide +kernel : decode code 164 = .ok (.iload_n 3, 1))))) (
   sndLC (LSnd.of (sd_iconst (hd := (by decide +kernel : decode code 165 = .ok (.iconst 3, 1))) (hv := by decide))) (
   sndLC (LSnd.of (sd_iadd (hd := (by decide +kernel : decode code 166 = .ok (.iadd, 1))))) (
   sndLC (sd_sld (by decide +kernel : decode code 167 = .ok (.iaload, 1))) (
   sndLC (LSnd.of (sd_aload_n (hi := rfl) (hd := (by decide +kernel : decode code 171 = .ok (.aload_n 2, 1))))) (
   sndLC (LSnd.of (sd_aload_n (hi := rfl) (hd := (by decide +kernel : decode code 172 = .ok (.aload_n 0, 1))))) (
   sndLC (LSnd.of (sd_iload_n (hi := rfl) (hd := (by decide +kernel : decode code 173 = .ok (.iload_n 3, 1))))) (
   sndLC (LSnd.of (sd_iconst (hd := (by decide +kernel : decode code 174 = .ok (.iconst 1, 1))) (hv := by decide))) (
   sndLC (LSnd.of (sd_iadd (hd := (by decide +kernel : decode code 175 = .ok (.iadd, 1))))) (
   sndLC (sd_sld (by decide +kernel : decode code 176 = .ok (.iaload, 1))) (
   sndLC (LSnd.of (sd_aload_n (hi := rfl) (hd := (by decide +kernel : decode code 177 = .ok (.aload_n 0, 1))))) (
   sndLC (LSnd.of (sd_iload_n (hi := rfl) (hd := (by decide +kernel : decode code 178 = .ok (.iload_n 3, 1))))) (
   sndLC (LSnd.of (sd_iconst (hd := (by decide +kernel : decode code 179 = .ok (.iconst 2, 1))) (hv := by decide))) (
   sndLC (LSnd.of (sd_iadd (hd := (by decide +kernel : decode code 180 = .ok (.iadd, 1))))) (
   sndLC (sd_sld (by decide +kernel : decode code 181 = .ok (.iaload, 1))) (
   sndLC (LSnd.of (sd_aload_n (hi := rfl) (hd := (by decide +kernel : decode code 182 = .ok (.aload_n 0, 1))))) (
   sndLC (LSnd.of (sd_iload_n (hi := rfl) (hd := (by decide +kernel : decode code 183 = .ok (.iload_n 3, 1))))) (
   sndLC (LSnd.of (sd_iconst (hd := (by decide +kernel : decode code 184 = .ok (.iconst 3, 1))) (hv := by decide))) (
   sndLC (LSnd.of (sd_iadd (hd := (by decide +kernel : decode code 185 = .ok (.iadd, 1))))) (
   sndLC (sd_sld (by decide +kernel : decode code 186 = .ok (.iaload, 1))) (
   sndLC (LSnd.of (sd_cmp_eq (ht := by decide) (hd := (by decide +kernel : decode code 190 = .ok (.if_icmp .eq 761, 3))))) (
   sndLC (LSnd.of (sd_iconst (hd := (by decide +kernel : decode code 193 = .ok (.iconst 0, 1))) (hv := by decide))) (
   sndLN))))))))))))))))))))))))))))))))))
def tL_1 (L : Nat) (xs : Nat → Int32) : List (Nat × POp) := [(195, oLdA 1 1),
  (196, oLdA 0 1),
  (197, oLdI 3 1),
  (198, oPush (.int 1) 1),
  (199, oBin (fun x y => x + y)),
  (200, oSld L xs),
  (201, oLdA 0 1),
  (202, oLdI 3 1),
  (203, oPush (.int 2) 1),
  (204, oBin (fun x y => x + y)),
  (205, oSld L xs),
  (206, oLdA 0 1),
  (207, oLdI 3 1),
  (208, oPush (.int 3) 1),
  (209, oBin (fun x y => x + y)),
  (210, oSld L xs),
  (214, oLdA 2 1),
  (215, oLdA 0 1),
  (216, oLdI 3 1),
  (217, oPush (.int 1) 1),
  (218, oBin (fun x y => x + y)),
  (219, oSld L xs),
  (220, oLdA 0 1),
  (221, oLdI 3 1),
  (222, oPush (.int 2) 1),
  (223, oBin (fun x y => x + y)),
  (224, oSld L xs),
  (225, oLdA 0 1),
  (226, oLdI 3 1),
  (227, oPush (.int 3) 1),
  (228, oBin (fun x y => x + y)),
  (229, oSld L xs),
  (233, oCmp 0 951),
  (236, oPush (.int 0) 1)]
abbrev mL_1 (L : Nat) (xs : Nat → Int32) : MI := (x, code, 4, ret, tL_1 L xs)
set_option maxRecDepth 20000 in
theorem GL_1 {b L : Nat} {xs : Nat → Int32} : LGood (mL_1 L xs) b L xs := show ∀ q ∈ tL_1 L xs, LSnd (mL_1 L xs) b L xs q.1 q.2 from
  sndLC (LSnd.of (sd_aload_n (hi := rfl) (hd := (by decide +kernel : decode code 195 = .ok (.aload_n 1, 1))))) (
   sndLC (LSnd.of (sd_aload_n (hi := rfl) (hd := (by decide +kernel : decode code 196 = .ok (.aload_n 0, 1))))) (
   sndLC (LSnd.of (sd_iload_n (hi := rfl) (hd := (by decide +kernel : decode code 197 = .ok (.iload_n 3, 1))))) (
   sndLC (LSnd.of (sd_iconst (hd := (by decide +kernel : decode code 198 = .ok (.iconst 1, 1))) (hv := by decide))) (
   sndLC (LSnd.of (sd_iadd (hd := (by decide +kernel : decode code 199 = .ok (.iadd, 1))))) (
   sndLC (sd_sld (by decide +kernel : decode code 200 = .ok (.iaload, 1))) (
   sndLC (LSnd.of (sd_aload_n (hi := rfl) (hd := (by decide +kernel : decode code 201 = .ok (.aload_n 0, 1))))) (
   sndLC (LSnd.of (sd_iload_n (hi := rfl) (hd := (by decide +kernel : decode code 202 = .ok (.iload_n 3, 1))))) (
   sndLC (LSnd.of (sd_iconst (hd := (by decide +kernel : decode code 203 = .ok (.iconst 2, 1))) (hv := by decide))) (
   sndLC (LSnd.of (sd_iadd (hd := (by decide +kernel : decode code 204 = .ok (.iadd, 1))))) (
   sndLC (sd_sld (by decide +kernel : decode code 205 = .ok (.iaload, 1))) (
   sndLC (LSnd.of (sd_aload_n (hi := rfl) (hd := (by decide +kernel : decode code 206 = .ok (.aload_n 0, 1))))) (
   sndLC (LSnd.of (sd_iload_n (hi := rfl) (hd := (by decide +kernel : decode code 207 = .ok (.iload_n 3, 1))))) (
   sndLC (LSnd.of (sd_iconst (hd := (by decide +kernel : decode code 208 = .ok (.iconst 3, 1))) (hv := by decide))) (
   sndLC (LSnd.of (sd_iadd (hd := (by decide +kernel : decode code 209 = .ok (.iadd, 1))))) (
   sndLC (sd_sld (by decide +kernel : decode code 210 = .ok (.iaload, 1))) (
   sndLC (LSnd.of (sd_aload_n (hi := rfl) (hd := (by decide +kernel : decode code 214 = .ok (.aload_n 2, 1))))) (
   sndLC (LSnd.of (sd_aload_n (hi := rfl) (hd := (by decide +kernel : decode code 215 = .ok (.aload_n 0, 1))))) (
   sndLC (LSnd.of (sd_iload_n (hi := rfl) (hd := (by decide +kernel : decode code 216 = .ok (.iload_n 3, 1))))) (
   sndLC (LSnd.of (sd_iconst (hd := (by decide +kernel : decode code 217 = .ok (.iconst 1, 1))) (hv := by decide))) (
   sndLC (LSnd.of (sd_iadd (hd := (by decide +kernel : decode code 218 = .ok (.iadd, 1))))) (
   sndLC (sd_sld (by decide +kernel : decode code 219 = .ok (.iaload, 1))) (
   sndLC (LSnd.of (sd_aload_n (hi := rfl) (hd := (by decide +kernel : decode code 220 = .ok (.aload_n 0, 1))))) (
   sndLC (LSnd.of (sd_iload_n (hi := rfl) (hd := (by decide +kernel : decode code 221 = .ok (.iload_n 3, 1))))) (
   sndLC (LSnd.of (sd_iconst (hd := (by decide +kernel : decode code 222 = .ok (.iconst 2, 1))) (hv := by decide))) (
   sndLC (LSnd.of (sd_iadd (hd := (by decide +kernel : decode code 223 = .ok (.iadd, 1))))) (
   sndLC (sd_sld (by decide +kernel : decode code 224 = .ok (.iaload, 1))) (
   sndLC (LSnd.of (sd_aload_n (hi := rfl) (hd := (by decide +kernel : decode code 225 = .ok (.aload_n 0, 1))))) (
   sndLC (LSnd.of (sd_iload_n (hi := rfl) (hd := (by decide +kernel : decode code 226 = .ok (.iload_n 3, 1))))) (
   sndLC (LSnd.of (sd_iconst (hd := (by decide +kernel : decode code 227 = .ok (.iconst 3, 1))) (hv := by decide))) (
   sndLC (LSnd.of (sd_iadd (hd := (by decide +kernel : decode code 228 = .ok (.iadd, 1))))) (
   sndLC (sd_sld (by decide +kernel : decode code 229 = .ok (.iaload, 1))) (
   sndLC (LSnd.of (sd_cmp_eq (ht := by decide) (hd := (by decide +kernel : decode code 233 = .ok (.if_icmp .eq 718, 3))))) (
   sndLC (LSnd.of (sd_iconst (hd := (by decide +kernel : decode code 236 = .ok (.iconst 0, 1))) (hv := by decide))) (
   sndLN))))))))))))))))))))))))))))))))))
def tL_2 (L : Nat) (xs : Nat → Int32) : List (Nat × POp) := [(238, oLdA 1 1),
  (239, oLdA 0 1),
  (240, oLdI 3 1),
  (241, oPush (.int 1) 1),
  (242, oBin (fun x y => x + y)),
  (243, oSld L xs),
  (244, oLdA 0 1),
  (245, oLdI 3 1),
  (246, oPush (.int 2) 1),
  (247, oBin (fun x y => x + y)),
  (248, oSld L xs),
  (252, oLdA 2 1),
  (253, oLdA 0 1),
  (254, oLdI 3 1),
  (255, oPush (.int 1) 1),
  (256, oBin (fun x y => x + y)),
  (257, oSld L xs),
  (258, oLdA 0 1),
  (259, oLdI 3 1),
  (260, oPush (.int 2) 1),
  (261, oBin (fun x y => x + y)),
  (262, oSld L xs),
  (266, oCmp 0 951),
  (269, oPush (.int 0) 1)]
abbrev mL_2 (L : Nat) (xs : Nat → Int32) : MI := (x, code, 4, ret, tL_2 L xs)
set_option maxRecDepth 20000 in
theorem GL_2 {b L : Nat} {xs : Nat → Int32} : LGood (mL_2 L xs) b L xs := show ∀ q ∈ tL_2 L xs, LSnd (mL_2 L xs) b L xs q.1 q.2 from
  sndLC (LSnd.of (sd_aload_n (hi := rfl) (hd := (by decide +kernel : decode code 238 = .ok (.aload_n 1, 1))))) (
   sndLC (LSnd.of (sd_aload_n (hi := rfl) (hd := (by decide +kernel : decode code 239 = .ok (.aload_n 0, 1))))) (
   sndLC (LSnd.of (sd_iload_n (hi := rfl) (hd := (by decide +kernel : decode code 240 = .ok (.iload_n 3, 1))))) (
   sndLC (LSnd.of (sd_iconst (hd := (by decide +kernel : decode code 241 = .ok (.iconst 1, 1))) (hv := by decide))) (
   sndLC (LSnd.of (sd_iadd (hd := (by decide +kernel : decode code 242 = .ok (.iadd, 1))))) (
   sndLC (sd_sld (by decide +kernel : decode code 243 = .ok (.iaload, 1))) (
   sndLC (LSnd.of (sd_aload_n (hi := rfl) (hd := (by decide +kernel : decode code 244 = .ok (.aload_n 0, 1))))) (
   sndLC (LSnd.of (sd_iload_n (hi := rfl) (hd := (by decide +kernel : decode code 245 = .ok (.iload_n 3, 1))))) (
   sndLC (LSnd.of (sd_iconst (hd := (by decide +kernel : decode code 246 = .ok (.iconst 2, 1))) (hv := by decide))) (
   sndLC (LSnd.of (sd_iadd (hd := (by decide +kernel : decode code 247 = .ok (.iadd, 1))))) (
   sndLC (sd_sld (by decide +kernel : decode code 248 = .ok (.iaload, 1))) (
   sndLC (LSnd.of (sd_aload_n (hi := rfl) (hd := (by decide +kernel : decode code 252 = .ok (.aload_n 2, 1))))) (
   sndLC (LSnd.of (sd_aload_n (hi := rfl) (hd := (by decide +kernel : decode code 253 = .ok (.aload_n 0, 1))))) (
   sndLC (LSnd.of (sd_iload_n (hi := rfl) (hd := (by decide +kernel : decode code 254 = .ok (.iload_n 3, 1))))) (
   sndLC (LSnd.of (sd_iconst (hd := (by decide +kernel : decode code 255 = .ok (.iconst 1, 1))) (hv := by decide))) (
   sndLC (LSnd.of (sd_iadd (hd := (by decide +kernel : decode code 256 = .ok (.iadd, 1))))) (
   sndLC (sd_sld (by decide +kernel : decode code 257 = .ok (.iaload, 1))) (
   sndLC (LSnd.of (sd_aload_n (hi := rfl) (hd := (by decide +kernel : decode code 258 = .ok (.aload_n 0, 1))))) (
   sndLC (LSnd.of (sd_iload_n (hi := rfl) (hd := (by decide +kernel : decode code 259 = .ok (.iload_n 3, 1))))) (
   sndLC (LSnd.of (sd_iconst (hd := (by decide +kernel : decode code 260 = .ok (.iconst 2, 1))) (hv := by decide))) (
   sndLC (LSnd.of (sd_iadd (hd := (by decide +kernel : decode code 261 = .ok (.iadd, 1))))) (
   sndLC (sd_sld (by decide +kernel : decode code 262 = .ok (.iaload, 1))) (
   sndLC (LSnd.of (sd_cmp_eq (ht := by decide) (hd := (by decide +kernel : decode code 266 = .ok (.if_icmp .eq 685, 3))))) (
   sndLC (LSnd.of (sd_iconst (hd := (by decide +kernel : decode code 269 = .ok (.iconst 0, 1))) (hv := by decide))) (
   sndLN))))))))))))))))))))))))
def tL_3 (L : Nat) (xs : Nat → Int32) : List (Nat × POp) := [(271, oLdA 1 1),
  (272, oLdA 0 1),
  (273, oLdI 3 1),
  (274, oPush (.int 1) 1),
  (275, oBin (fun x y => x + y)),
  (276, oSld L xs),
  (280, oLdA 2 1),
  (281, oLdA 0 1),
  (282, oLdI 3 1),
  (283, oPush (.int 1) 1),
  (284, oBin (fun x y => x + y)),
  (285, oSld L xs),
  (289, oCmp 0 951),
  (292, oPush (.int 0) 1)]
abbrev mL_3 (L : Nat) (xs : Nat → Int32) : MI := (x, code, 4, ret, tL_3 L xs)
set_option maxRecDepth 20000 in
theorem GL_3 {b L : Nat} {xs : Nat → Int32} : LGood (mL_3 L xs) b L xs := show ∀ q ∈ tL_3 L xs, LSnd (mL_3 L xs) b L xs q.1 q.2 from
  sndLC (LSnd.of (sd_aload_n (hi := rfl) (hd := (by decide +kernel : decode code 271 = .ok (.aload_n 1, 1))))) (
   sndLC (LSnd.of (sd_aload_n (hi := rfl) (hd := (by decide +kernel : decode code 272 = .ok (.aload_n 0, 1))))) (
   sndLC (LSnd.of (sd_iload_n (hi := rfl) (hd := (by decide +kernel : decode code 273 = .ok (.iload_n 3, 1))))) (
   sndLC (LSnd.of (sd_iconst (hd := (by decide +kernel : decode code 274 = .ok (.iconst 1, 1))) (hv := by decide))) (
   sndLC (LSnd.of (sd_iadd (hd := (by decide +kernel : decode code 275 = .ok (.iadd, 1))))) (
   sndLC (sd_sld (by decide +kernel : decode code 276 = .ok (.iaload, 1))) (
   sndLC (LSnd.of (sd_aload_n (hi := rfl) (hd := (by decide +kernel : decode code 280 = .ok (.aload_n 2, 1))))) (
   sndLC (LSnd.of (sd_aload_n (hi := rfl) (hd := (by decide +kernel : decode code 281 = .ok (.aload_n 0, 1))))) (
   sndLC (LSnd.of (sd_iload_n (hi := rfl) (hd := (by decide +kernel : decode code 282 = .ok (.iload_n 3, 1))))) (
   sndLC (LSnd.of (sd_iconst (hd := (by decide +kernel : decode code 283 = .ok (.iconst 1, 1))) (hv := by decide))) (
   sndLC (LSnd.of (sd_iadd (hd := (by decide +kernel : decode code 284 = .ok (.iadd, 1))))) (
   sndLC (sd_sld (by decide +kernel : decode code 285 = .ok (.iaload, 1))) (
   sndLC (LSnd.of (sd_cmp_eq (ht := by decide) (hd := (by decide +kernel : decode code 289 = .ok (.if_icmp .eq 662, 3))))) (
   sndLC (LSnd.of (sd_iconst (hd := (by decide +kernel : decode code 292 = .ok (.iconst 0, 1))) (hv := by decide))) (
   sndLN))))))))))))))
def tL_4 (L : Nat) (xs : Nat → Int32) : List (Nat × POp) := [(294, oLdA 1 1),
  (298, oLdA 2 1),
  (302, oCmp 0 951),
  (305, oPush (.int 0) 1)]
abbrev mL_4 (L : Nat) (xs : Nat → Int32) : MI := (x, code, 4, ret, tL_4 L xs)
set_option maxRecDepth 20000 in
theorem GL_4 {b L : Nat} {xs : Nat → Int32} : LGood (mL_4 L xs) b L xs := show ∀ q ∈ tL_4 L xs, LSnd (mL_4 L xs) b L xs q.1 q.2 from
  sndLC (LSnd.of (sd_aload_n (hi := rfl) (hd := (by decide +kernel : decode code 294 = .ok (.aload_n 1, 1))))) (
   sndLC (LSnd.of (sd_aload_n (hi := rfl) (hd := (by decide +kernel : decode code 298 = .ok (.aload_n 2, 1))))) (
   sndLC (LSnd.of (sd_cmp_eq (ht := by decide) (hd := (by decide +kernel : decode code 302 = .ok (.if_icmp .eq 649, 3))))) (
   sndLC (LSnd.of (sd_iconst (hd := (by decide +kernel : decode code 305 = .ok (.iconst 0, 1))) (hv := by decide))) (
   sndLN))))
def tL_5 (L : Nat) (xs : Nat → Int32) : List (Nat × POp) := [(307, oLdA 1 1),
  (308, oLdA 0 1),
  (309, oLdI 3 1),
  (310, oPush (.int 1) 1),
  (311, oBin (fun x y => x + y)),
  (312, oSld L xs),
  (316, oLdA 2 1),
  (317, oLdA 0 1),
  (318, oLdI 3 1),
  (319, oPush (.int 1) 1),
  (320, oBin (fun x y => x + y)),
  (321, oSld L xs),
  (325, oCmp 0 951),
  (328, oPush (.int 0) 1)]
abbrev mL_5 (L : Nat) (xs : Nat → Int32) : MI := (x, code, 4, ret, tL_5 L xs)
set_option maxRecDepth 20000 in
theorem GL_5 {b L : Nat} {xs : Nat → Int32} : LGood (mL_5 L xs) b L xs := show ∀ q ∈ tL_5 L xs, LSnd (mL_5 L xs) b L xs q.1 q.2 from
  sndLC (LSnd.of (sd_aload_n (hi := rfl) (hd := (by decide +kernel : decode code 307 = .ok (.aload_n 1, 1))))) (
   sndLC (LSnd.of (sd_aload_n (hi := rfl) (hd := (by decide +kernel : decode code 308 = .ok (.aload_n 0, 1))))) (
   sndLC (LSnd.of (sd_iload_n (hi := rfl) (hd := (by decide +kernel : decode code 309 = .ok (.iload_n 3, 1))))) (
   sndLC (LSnd.of (sd_iconst (hd := (by decide +kernel : decode code 310 = .ok (.iconst 1, 1))) (hv := by decide))) (
   sndLC (LSnd.of (sd_iadd (hd := (by decide +kernel : decode code 311 = .ok (.iadd, 1))))) (
   sndLC (sd_sld (by decide +kernel : decode code 312 = .ok (.iaload, 1))) (
   sndLC (LSnd.of (sd_aload_n (hi := rfl) (hd := (by decide +kernel : decode code 316 = .ok (.aload_n 2, 1))))) (
   sndLC (LSnd.of (sd_aload_n (hi := rfl) (hd := (by decide +kernel : decode code 317 = .ok (.aload_n 0, 1))))) (
   sndLC (LSnd.of (sd_iload_n (hi := rfl) (hd := (by decide +kernel : decode code 318 = .ok (.iload_n 3, 1))))) (
   sndLC (LSnd.of (sd_iconst (hd := (by decide +kernel : decode code 319 = .ok (.iconst 1, 1))) (hv := by decide))) (
   sndLC (LSnd.of (sd_iadd (hd := (by decide +kernel : decode code 320 = .ok (.iadd, 1))))) (
   sndLC (sd_sld (by decide +kernel : decode code 321 = .ok (.iaload, 1))) (
   sndLC (LSnd.of (sd_cmp_eq (ht := by decide) (hd := (by decide +kernel : decode code 325 = .ok (.if_icmp .eq 626, 3))))) (
   sndLC (LSnd.of (sd_iconst (hd := (by decide +kernel : decode code 328 = .ok (.iconst 0, 1))) (hv := by decide))) (
   sndLN))))))))))))))
def tL_6 (L : Nat) (xs : Nat → Int32) : List (Nat × POp) := [(330, oLdA 1 1),
  (331, oLdA 0 1),
  (332, oLdI 3 1),
  (333, oPush (.int 1) 1),
  (334, oBin (fun x y => x + y)),
  (335, oSld L xs),
  (339, oLdA 2 1),
  (340, oLdA 0 1),
  (341, oLdI 3 1),
  (342, oPush (.int 1) 1),
  (343, oBin (fun x y => x + y)),
  (344, oSld L xs),
  (348, oCmp 0 951),
  (351, oPush (.int 0) 1)]
abbrev mL_6 (L : Nat) (xs : Nat → Int32) : MI := (x, code, 4, ret, tL_6 L xs)
set_option maxRecDepth 20000 in
theorem GL_6 {b L : Nat} {xs : Nat → Int32} : LGood (mL_6 L xs) b L xs := show ∀ q ∈ tL_6 L xs, LSnd (mL_6 L xs) b L xs q.1 q.2 from
  sndLC (LSnd.of (sd_aload_n (hi := rfl) (hd := (by decide +kernel : decode code 330 = .ok (.aload_n 1, 1))))) (
   sndLC (LSnd.of (sd_aload_n (hi := rfl) (hd := (by decide +kernel : decode code 331 = .ok (.aload_n 0, 1))))) (
   sndLC (LSnd.of (sd_iload_n (hi := rfl) (hd := (by decide +kernel : decode code 332 = .ok (.iload_n 3, 1))))) (
   sndLC (LSnd.of (sd_iconst (hd := (by decide +kernel : decode code 333 = .ok (.iconst 1, 1))) (hv := by decide))) (
   sndLC (LSnd.of (sd_iadd (hd := (by decide +kernel : decode code 334 = .ok (.iadd, 1))))) (
   sndLC (sd_sld (by decide +kernel : decode code 335 = .ok (.iaload, 1))) (
   sndLC (LSnd.of (sd_aload_n (hi := rfl) (hd := (by decide +kernel : decode code 339 = .ok (.aload_n 2, 1))))) (
   sndLC (LSnd.of (sd_aload_n (hi := rfl) (hd := (by decide +kernel : decode code 340 = .ok (.aload_n 0, 1))))) (
   sndLC (LSnd.of (sd_iload_n (hi := rfl) (hd := (by decide +kernel : decode code 341 = .ok (.iload_n 3, 1))))) (
   sndLC (LSnd.of (sd_iconst (hd := (by decide +kernel : decode code 342 = .ok (.iconst 1, 1))) (hv := by decide))) (
   sndLC (LSnd.of (sd_iadd (hd := (by decide +kernel : decode code 343 = .ok (.iadd, 1))))) (
   sndLC (sd_sld (by decide +kernel : decode code 344 = .ok (.iaload, 1))) (
   sndLC (LSnd.of (sd_cmp_eq (ht := by decide) (hd := (by decide +kernel : decode code 348 = .ok (.if_icmp .eq 603, 3))))) (
   sndLC (LSnd.of (sd_iconst (hd := (by decide +kernel : decode code 351 = .ok (.iconst 0, 1))) (hv := by decide))) (
   sndLN))))))))))))))
def tL_7 (L : Nat) (xs : Nat → Int32) : List (Nat × POp) := [(353, oLdA 1 1),
  (354, oLdA 0 1),
  (355, oLdI 3 1),
  (356, oPush (.int 1) 1),
  (357, oBin (fun x y => x + y)),
  (358, oSld L xs),
  (362, oLdA 2 1),
  (363, oLdA 0 1),
  (364, oLdI 3 1),
  (365, oPush (.int 1) 1),
  (366, oBin (fun x y => x + y)),
  (367, oSld L xs),
  (371, oCmp 0 951),
  (374, oPush (.int 0) 1)]
abbrev mL_7 (L : Nat) (xs : Nat → Int32) : MI := (x, code, 4, ret, tL_7 L xs)
set_option maxRecDepth 20000 in
theorem GL_7 {b L : Nat} {xs : Nat → Int32} : LGood (mL_7 L xs) b L xs := show ∀ q ∈ tL_7 L xs, LSnd (mL_7 L xs) b L xs q.1 q.2 from
  sndLC (LSnd.of (sd_aload_n (hi := rfl) (hd := (by decide +kernel : decode code 353 = .ok (.aload_n 1, 1))))) (
   sndLC (LSnd.of (sd_aload_n (hi := rfl) (hd := (by decide +kernel : decode code 354 = .ok (.aload_n 0, 1))))) (
   sndLC (LSnd.of (sd_iload_n (hi := rfl) (hd := (by decide +kernel : decode code 355 = .ok (.iload_n 3, 1))))) (
   sndLC (LSnd.of (sd_iconst (hd := (by decide +kernel : decode code 356 = .ok (.iconst 1, 1))) (hv := by decide))) (
   sndLC (LSnd.of (sd_iadd (hd := (by decide +kernel : decode code 357 = .ok (.iadd, 1))))) (
   sndLC (sd_sld (by decide +kernel : decode code 358 = .ok (.iaload, 1))) (
   sndLC (LSnd.of (sd_aload_n (hi := rfl) (hd := (by decide +kernel : decode code 362 = .ok (.aload_n 2, 1))))) (
   sndLC (LSnd.of (sd_aload_n (hi := rfl) (hd := (by decide +kernel : decode code 363 = .ok (.aload_n 0, 1))))) (
   sndLC (LSnd.of (sd_iload_n (hi := rfl) (hd := (by decide +kernel : decode code 364 = .ok (.iload_n 3, 1))))) (
   sndLC (LSnd.of (sd_iconst (hd := (by decide +kernel : decode code 365 = .ok (.iconst 1, 1))) (hv := by decide))) (
   sndLC (LSnd.of (sd_iadd (hd := (by decide +kernel : decode code 366 = .ok (.iadd, 1))))) (
   sndLC (sd_sld (by decide +kernel : decode code 367 = .ok (.iaload, 1))) (
   sndLC (LSnd.of (sd_cmp_eq (ht := by decide) (hd := (by decide +kernel : decode code 371 = .ok (.if_icmp .eq 580, 3))))) (
   sndLC (LSnd.of (sd_iconst (hd := (by decide +kernel : decode code 374 = .ok (.iconst 0, 1))) (hv := by decide))) (
   sndLN))))))))))))))
def tL_8 (L : Nat) (xs : Nat → Int32) : List (Nat × POp) := [(376, oLdA 1 1),
  (377, oLdA 0 1),
  (378, oLdI 3 1),
  (379, oPush (.int 1) 1),
  (380, oBin (fun x y => x + y)),
  (381, oSld L xs),
  (385, oLdA 2 1),
  (386, oLdA 0 1),
  (387, oLdI 3 1),
  (388, oPush (.int 1) 1),
  (389, oBin (fun x y => x + y)),
  (390, oSld L xs),
  (394, oCmp 0 951),
  (397, oPush (.int 0) 1)]
abbrev mL_8 (L : Nat) (xs : Nat → Int32) : MI := (x, code, 4, ret, tL_8 L xs)
set_option maxRecDepth 20000 in
theorem GL_8 {b L : Nat} {xs : Nat → Int32} : LGood (mL_8 L xs) b L xs := show ∀ q ∈ tL_8 L xs, LSnd (mL_8 L xs) b L xs q.1 q.2 from
  sndLC (LSnd.of (sd_aload_n (hi := rfl) (hd := (by decide +kernel : decode code 376 = .ok (.aload_n 1, 1))))) (
   sndLC (LSnd.of (sd_aload_n (hi := rfl) (hd := (by decide +kernel : decode code 377 = .ok (.aload_n 0, 1))))) (
   sndLC (LSnd.of (sd_iload_n (hi := rfl) (hd := (by decide +kernel : decode code 378 = .ok (.iload_n 3, 1))))) (
   sndLC (LSnd.of (sd_iconst (hd := (by decide +kernel : decode code 379 = .ok (.iconst 1, 1))) (hv := by decide))) (
   sndLC (LSnd.of (sd_iadd (hd := (by decide +kernel : decode code 380 = .ok (.iadd, 1))))) (
   sndLC (sd_sld (by decide +kernel : decode code 381 = .ok (.iaload, 1))) (
   sndLC (LSnd.of (sd_aload_n (hi := rfl) (hd := (by decide +kernel : decode code 385 = .ok (.aload_n 2, 1))))) (
   sndLC (LSnd.of (sd_aload_n (hi := rfl) (hd := (by decide +kernel : decode code 386 = .ok (.aload_n 0, 1))))) (
   sndLC (LSnd.of (sd_iload_n (hi := rfl) (hd := (by decide +kernel : decode code 387 = .ok (.iload_n 3, 1))))) (
   sndLC (LSnd.of (sd_iconst (hd := (by decide +kernel : decode code 388 = .ok (.iconst 1, 1))) (hv := by decide))) (
   sndLC (LSnd.of (sd_iadd (hd := (by decide +kernel : decode code 389 = .ok (.iadd, 1))))) (
   sndLC (sd_sld (by decide +kernel : decode code 390 = .ok (.iaload, 1))) (
   sndLC (LSnd.of (sd_cmp_eq (ht := by decide) (hd := (by decide +kernel : decode code 394 = .ok (.if_icmp .eq 557, 3))))) (
   sndLC (LSnd.of (sd_iconst (hd := (by decide +kernel : decode code 397 = .ok (.iconst 0, 1))) (hv := by decide))) (
   sndLN))))))))))))))
def tL_9 (L : Nat) (xs : Nat → Int32) : List (Nat × POp) := [(399, oLdA 1 1),
  (400, oLdA 0 1),
  (401, oLdI 3 1),
  (402, oPush (.int 1) 1),
  (403, oBin (fun x y => x + y)),
  (404, oSld L xs),
  (405, oLdA 0 1),
  (406, oLdI 3 1),
  (407, oPush (.int 2) 1),
  (408, oBin (fun x y => x + y)),
  (409, oSld L xs),
  (413, oLdA 2 1),
  (414, oLdA 0 1),
  (415, oLdI 3 1),
  (416, oPush (.int 1) 1),
  (417, oBin (fun x y => x + y)),
  (418, oSld L xs),
  (419, oLdA 0 1),
  (420, oLdI 3 1),
  (421, oPush (.int 2) 1),
  (422, oBin (fun x y => x + y)),
  (423, oSld L xs),
  (427, oCmp 0 951),
  (430, oPush (.int 0) 1)]
abbrev mL_9 (L : Nat) (xs : Nat → Int32) : MI := (x, code, 4, ret, tL_9 L xs)
set_option maxRecDepth 20000 in
theorem GL_9 {b L : Nat} {xs : Nat → Int32} : LGood (mL_9 L xs) b L xs := show ∀ q ∈ tL_9 L xs, LSnd (mL_9 L xs) b L xs q.1 q.2 from
  sndLC (LSnd.of (sd_aload_n (hi := rfl) (hd := (by decide +kernel : decode code 399 = .ok (.aload_n 1, 1))))) (
   sndLC (LSnd.of (sd_aload_n (hi := rfl) (hd := (by decide +kernel : decode code 400 = .ok (.aload_n 0, 1))))) (
   sndLC (LSnd.of (sd_iload_n (hi := rfl) (hd := (by decide +kernel : decode code 401 = .ok (.iload_n 3, 1))))) (
   sndLC (LSnd.of (sd_iconst (hd := (by decide +kernel : decode code 402 = .ok (.iconst 1, 1))) (hv := by decide))) (
   sndLC (LSnd.of (sd_iadd (hd := (by decide +kernel : decode code 403 = .ok (.iadd, 1))))) (
   sndLC (sd_sld (by decide +kernel : decode code 404 = .ok (.iaload, 1))) (
   sndLC (LSnd.of (sd_aload_n (hi := rfl) (hd := (by decide +kernel : decode code 405 = .ok (.aload_n 0, 1))))) (
   sndLC (LSnd.of (sd_iload_n (hi := rfl) (hd := (by decide +kernel : decode code 406 = .ok (.iload_n 3, 1))))) (
   sndLC (LSnd.of (sd_iconst (hd := (by decide +kernel : decode code 407 = .ok (.iconst 2, 1))) (hv := by decide))) (
   sndLC (LSnd.of (sd_iadd (hd := (by decide +kernel : decode code 408 = .ok (.iadd, 1))))) (
   sndLC (sd_sld (by decide +kernel : decode code 409 = .ok (.iaload, 1))) (
   sndLC (LSnd.of (sd_aload_n (hi := rfl) (hd := (by decide +kernel : decode code 413 = .ok (.aload_n 2, 1))))) (
   sndLC (LSnd.of (sd_aload_n (hi := rfl) (hd := (by decide +kernel : decode code 414 = .ok (.aload_n 0, 1))))) (
   sndLC (LSnd.of (sd_iload_n (hi := rfl) (hd := (by decide +kernel : decode code 415 = .ok (.iload_n 3, 1))))) (
   sndLC (LSnd.of (sd_iconst (hd := (by decide +kernel : decode code 416 = .ok (.iconst 1, 1))) (hv := by decide))) (
   sndLC (LSnd.of (sd_iadd (hd := (by decide +kernel : decode code 417 = .ok (.iadd, 1))))) (
   sndLC (sd_sld (by decide +kernel : decode code 418 = .ok (.iaload, 1))) (
   sndLC (LSnd.of (sd_aload_n (hi := rfl) (hd := (by decide +kernel : decode code 419 = .ok (.aload_n 0, 1))))) (
   sndLC (LSnd.of (sd_iload_n (hi := rfl) (hd := (by decide +kernel : decode code 420 = .ok (.iload_n 3, 1))))) (
   sndLC (LSnd.of (sd_iconst (hd := (by decide +kernel : decode code 421 = .ok (.iconst 2, 1))) (hv := by decide))) (
   sndLC (LSnd.of (sd_iadd (hd := (by decide +kernel : decode code 422 = .ok (.iadd, 1))))) (
   sndLC (sd_sld (by decide +kernel : decode code 423 = .ok (.iaload, 1))) (
   sndLC (LSnd.of (sd_cmp_eq (ht := by decide) (hd := (by decide +kernel : decode code 427 = .ok (.if_icmp .eq 524, 3))))) (
   sndLC (LSnd.of (sd_iconst (hd := (by decide +kernel : decode code 430 = .ok (.iconst 0, 1))) (hv := by decide))) (
   sndLN))))))))))))))))))))))))
def tL_10 (L : Nat) (xs : Nat → Int32) : List (Nat × POp) := [(432, oLdA 1 1),
  (433, oLdA 0 1),
  (434, oLdI 3 1),
  (435, oPush (.int 1) 1),
  (436, oBin (fun x y => x + y)),
  (437, oSld L xs),
  (441, oLdA 2 1),
  (442, oLdA 0 1),
  (443, oLdI 3 1),
  (444, oPush (.int 1) 1),
  (445, oBin (fun x y => x + y)),
  (446, oSld L xs),
  (450, oCmp 0 951),
  (453, oPush (.int 0) 1)]
abbrev mL_10 (L : Nat) (xs : Nat → Int32) : MI := (x, code, 4, ret, tL_10 L xs)
set_option maxRecDepth 20000 in
theorem GL_10 {b L : Nat} {xs : Nat → Int32} : LGood (mL_10 L xs) b L xs := show ∀ q ∈ tL_10 L xs, LSnd (mL_10 L xs) b L xs q.1 q.2 from
  sndLC (LSnd.of (sd_aload_n (hi := rfl) (hd := (by decide +kernel : decode code 432 = .ok (.aload_n 1, 1))))) (
   sndLC (LSnd.of (sd_aload_n (hi := rfl) (hd := (by decide +kernel : decode code 433 = .ok (.aload_n 0, 1))))) (
   sndLC (LSnd.of (sd_iload_n (hi := rfl) (hd := (by decide +kernel : decode code 434 = .ok (.iload_n 3, 1))))) (
   sndLC (LSnd.of (sd_iconst (hd := (by decide +kernel : decode code 435 = .ok (.iconst 1, 1))) (hv := by decide))) (
   sndLC (LSnd.of (sd_iadd (hd := (by decide +kernel : decode code 436 = .ok (.iadd, 1))))) (
   sndLC (sd_sld (by decide +kernel : decode code 437 = .ok (.iaload, 1))) (
   sndLC (LSnd.of (sd_aload_n (hi := rfl) (hd := (by decide +kernel : decode code 441 = .ok (.aload_n 2, 1))))) (
   sndLC (LSnd.of (sd_aload_n (hi := rfl) (hd := (by decide +kernel : decode code 442 = .ok (.aload_n 0, 1))))) (
   sndLC (LSnd.of (sd_iload_n (hi := rfl) (hd := (by decide +kernel : decode code 443 = .ok (.iload_n 3, 1))))) (
   sndLC (LSnd.of (sd_iconst (hd := (by decide +kernel : decode code 444 = .ok (.iconst 1, 1))) (hv := by decide))) (
   sndLC (LSnd.of (sd_iadd (hd := (by decide +kernel : decode code 445 = .ok (.iadd, 1))))) (
   sndLC (sd_sld (by decide +kernel : decode code 446 = .ok (.iaload, 1))) (
   sndLC (LSnd.of (sd_cmp_eq (ht := by decide) (hd := (by decide +kernel : decode code 450 = .ok (.if_icmp .eq 501, 3))))) (
   sndLC (LSnd.of (sd_iconst (hd := (by decide +kernel : decode code 453 = .ok (.iconst 0, 1))) (hv := by decide))) (
   sndLN))))))))))))))
def tL_11 (L : Nat) (xs : Nat → Int32) : List (Nat × POp) := [(455, oLdA 1 1),
  (456, oLdA 0 1),
  (457, oLdI 3 1),
  (458, oPush (.int 1) 1),
  (459, oBin (fun x y => x + y)),
  (460, oSld L xs),
  (464, oLdA 2 1),
  (465, oLdA 0 1),
  (466, oLdI 3 1),
  (467, oPush (.int 1) 1),
  (468, oBin (fun x y => x + y)),
  (469, oSld L xs),
  (473, oCmp 0 951),
  (476, oPush (.int 0) 1)]
abbrev mL_11 (L : Nat) (xs : Nat → Int32) : MI := (x, code, 4, ret, tL_11 L xs)
set_option maxRecDepth 20000 in
theorem GL_11 {b L : Nat} {xs : Nat → Int32} : LGood (mL_11 L xs) b L xs := show ∀ q ∈ tL_11 L xs, LSnd (mL_11 L xs) b L xs q.1 q.2 from
  sndLC (LSnd.of (sd_aload_n (hi := rfl) (hd := (by decide +kernel : decode code 455 = .ok (.aload_n 1, 1))))) (
   sndLC (LSnd.of (sd_aload_n (hi := rfl) (hd := (by decide +kernel : decode code 456 = .ok (.aload_n 0, 1))))) (
   sndLC (LSnd.of (sd_iload_n (hi := rfl) (hd := (by decide +kernel : decode code 457 = .ok (.iload_n 3, 1))))) (
   sndLC (LSnd.of (sd_iconst (hd := (by decide +kernel : decode code 458 = .ok (.iconst 1, 1))) (hv := by decide))) (
   sndLC (LSnd.of (sd_iadd (hd := (by decide +kernel : decode code 459 = .ok (.iadd, 1))))) (
   sndLC (sd_sld (by decide +kernel : decode code 460 = .ok (.iaload, 1))) (
   sndLC (LSnd.of (sd_aload_n (hi := rfl) (hd := (by decide +kernel : decode code 464 = .ok (.aload_n 2, 1))))) (
   sndLC (LSnd.of (sd_aload_n (hi := rfl) (hd := (by decide +kernel : decode code 465 = .ok (.aload_n 0, 1))))) (
   sndLC (LSnd.of (sd_iload_n (hi := rfl) (hd := (by decide +kernel : decode code 466 = .ok (.iload_n 3, 1))))) (
   sndLC (LSnd.of (sd_iconst (hd := (by decide +kernel : decode code 467 = .ok (.iconst 1, 1))) (hv := by decide))) (
   sndLC (LSnd.of (sd_iadd (hd := (by decide +kernel : decode code 468 = .ok (.iadd, 1))))) (
   sndLC (sd_sld (by decide +kernel : decode code 469 = .ok (.iaload, 1))) (
   sndLC (LSnd.of (sd_cmp_eq (ht := by decide) (hd := (by decide +kernel : decode code 473 = .ok (.if_icmp .eq 478, 3))))) (
   sndLC (LSnd.of (sd_iconst (hd := (by decide +kernel : decode code 476 = .ok (.iconst 0, 1))) (hv := by decide))) (
   sndLN))))))))))))))
def tL_12 (L : Nat) (xs : Nat → Int32) : List (Nat × POp) := [(478, oLdA 1 1),
  (479, oLdA 0 1),
  (480, oLdI 3 1),
  (481, oPush (.int 1) 1),
  (482, oBin (fun x y => x + y)),
  (483, oSld L xs),
  (487, oLdA 2 1),
  (488, oLdA 0 1),
  (489, oLdI 3 1),
  (490, oPush (.int 1) 1),
  (491, oBin (fun x y => x + y)),
  (492, oSld L xs),
  (496, oCmp 0 951),
  (499, oPush (.int 0) 1)]
abbrev mL_12 (L : Nat) (xs : Nat → Int32) : MI := (x, code, 4, ret, tL_12 L xs)
set_option maxRecDepth 20000 in
theorem GL_12 {b L : Nat} {xs : Nat → Int32} : LGood (mL_12 L xs) b L xs := show ∀ q ∈ tL_12 L xs, LSnd (mL_12 L xs) b L xs q.1 q.2 from
  sndLC (LSnd.of (sd_aload_n (hi := rfl) (hd := (by decide +kernel : decode code 478 = .ok (.aload_n 1, 1))))) (
   sndLC (LSnd.of (sd_aload_n (hi := rfl) (hd := (by decide +kernel : decode code 479 = .ok (.aload_n 0, 1))))) (
   sndLC (LSnd.of (sd_iload_n (hi := rfl) (hd := (by decide +kernel : decode code 480 = .ok (.iload_n 3, 1))))) (
   sndLC (LSnd.of (sd_iconst (hd := (by decide +kernel : decode code 481 = .ok (.iconst 1, 1))) (hv := by decide))) (
   sndLC (LSnd.of (sd_iadd (hd := (by decide +kernel : decode code 482 = .ok (.iadd, 1))))) (
   sndLC (sd_sld (by decide +kernel : decode code 483 = .ok (.iaload, 1))) (
   sndLC (LSnd.of (sd_aload_n (hi := rfl) (hd := (by decide +kernel : decode code 487 = .ok (.aload_n 2, 1))))) (
   sndLC (LSnd.of (sd_aload_n (hi := rfl) (hd := (by decide +kernel : decode code 488 = .ok (.aload_n 0, 1))))) (
   sndLC (LSnd.of (sd_iload_n (hi := rfl) (hd := (by decide +kernel : decode code 489 = .ok (.iload_n 3, 1))))) (
   sndLC (LSnd.of (sd_iconst (hd := (by decide +kernel : decode code 490 = .ok (.iconst 1, 1))) (hv := by decide))) (
   sndLC (LSnd.of (sd_iadd (hd := (by decide +kernel : decode code 491 = .ok (.iadd, 1))))) (
   sndLC (sd_sld (by decide +kernel : decode code 492 = .ok (.iaload, 1))) (
   sndLC (LSnd.of (sd_cmp_eq (ht := by decide) (hd := (by decide +kernel : decode code 496 = .ok (.if_icmp .eq 455, 3))))) (
   sndLC (LSnd.of (sd_iconst (hd := (by decide +kernel : decode code 499 = .ok (.iconst 0, 1))) (hv := by decide))) (
   sndLN))))))))))))))
def tL_13 (L : Nat) (xs : Nat → Int32) : List (Nat × POp) := [(501, oLdA 1 1),
  (505, oLdA 2 1),
  (509, oCmp 0 951),
  (512, oPush (.int 0) 1)]
abbrev mL_13 (L : Nat) (xs : Nat → Int32) : MI := (x, code, 4, ret, tL_13 L xs)
set_option maxRecDepth 20000 in
theorem GL_13 {b L : Nat} {xs : Nat → Int32} : LGood (mL_13 L xs) b L xs := show ∀ q ∈ tL_13 L xs, LSnd (mL_13 L xs) b L xs q.1 q.2 from
  sndLC (LSnd.of (sd_aload_n (hi := rfl) (hd := (by decide +kernel : decode code 501 = .ok (.aload_n 1, 1))))) (
   sndLC (LSnd.of (sd_aload_n (hi := rfl) (hd := (by decide +kernel : decode code 505 = .ok (.aload_n 2, 1))))) (
   sndLC (LSnd.of (sd_cmp_eq (ht := by decide) (hd := (by decide +kernel : decode code 509 = .ok (.if_icmp .eq 442, 3))))) (
   sndLC (LSnd.of (sd_iconst (hd := (by decide +kernel : decode code 512 = .ok (.iconst 0, 1))) (hv := by decide))) (
   sndLN))))
def tL_14 (L : Nat) (xs : Nat → Int32) : List (Nat × POp) := [(514, oLdA 1 1),
  (515, oLdA 0 1),
  (516, oLdI 3 1),
  (517, oPush (.int 1) 1),
  (518, oBin (fun x y => x + y)),
  (519, oSld L xs),
  (520, oLdA 0 1),
  (521, oLdI 3 1),
  (522, oPush (.int 2) 1),
  (523, oBin (fun x y => x + y)),
  (524, oSld L xs),
  (525, oLdA 0 1),
  (526, oLdI 3 1),
  (527, oPush (.int 3) 1),
  (528, oBin (fun x y => x + y)),
  (529, oSld L xs),
  (533, oLdA 2 1),
  (534, oLdA 0 1),
  (535, oLdI 3 1),
  (536, oPush (.int 1) 1),
  (537, oBin (fun x y => x + y)),
  (538, oSld L xs),
  (539, oLdA 0 1),
  (540, oLdI 3 1),
  (541, oPush (.int 2) 1),
  (542, oBin (fun x y => x + y)),
  (543, oSld L xs),
  (544, oLdA 0 1),
  (545, oLdI 3 1),
  (546, oPush (.int 3) 1),
  (547, oBin (fun x y => x + y)),
  (548, oSld L xs),
  (552, oCmp 0 951),
  (555, oPush (.int 0) 1)]
abbrev mL_14 (L : Nat) (xs : Nat → Int32) : MI := (x, code, 4, ret, tL_14 L xs)
set_option maxRecDepth 20000 in
theorem GL_14 {b L : Nat} {xs : Nat → Int32} : LGood (mL_14 L xs) b L xs := show ∀ q ∈ tL_14 L xs, LSnd (mL_14 L xs) b L xs q.1 q.2 from
  sndLC (LSnd.of (sd_aload_n (hi := rfl) (hd := (by decide +kernel : decode code 514 = .ok (.aload_n 1, 1))))) (
   sndLC (LSnd.of (sd_aload_n (hi := rfl) (hd := (by decide +kernel : decode code 515 = .ok (.aload_n 0, 1))))) (
   sndLC (LSnd.of (sd_iload_n (hi := rfl) (hd := (by decide +kernel : decode code 516 = .ok (.iload_n 3, 1))))) (
   sndLC (LSnd.of (sd_iconst (hd := (by decide +kernel : decode code 517 = .ok (.iconst 1, 1))) (hv := by decide))) (
   sndLC (LSnd.of (sd_iadd (hd := (by decide +kernel : decode code 518 = .ok (.iadd, 1))))) (
   sndLC (sd_sld (by decide +kernel : decode code 519 = .ok (.iaload, 1))) (
   sndLC (LSnd.of (sd_aload_n (hi := rfl) (hd := (by decide +kernel : decode code 520 = .ok (.aload_n 0, 1))))) (
   sndLC (LSnd.of (sd_iload_n (hi := rfl) (hd := (by decide +kernel : decode code 521 = .ok (.iload_n 3, 1))))) (
   sndLC (LSnd.of (sd_iconst (hd := (by decide +kernel : decode code 522 = .ok (.iconst 2, 1))) (hv := by decide))) (
   sndLC (LSnd.of (sd_iadd (hd := (by decide +kernel : decode code 523 = .ok (.iadd, 1))))) (
   sndLC (sd_sld (by decide +kernel : decode code 524 = .ok (.iaload, 1))) (
   sndLC (LSnd.of (sd_aload_n (hi := rfl) (hd := (by decide +kernel : decode code 525 = .ok (.aload_n 0, 1))))) (
   sndLC (LSnd.of (sd_iload_n (hi := rfl) (hd := (by decide +kernel : decode code 526 = .ok (.iload_n 3, 1))))) (
   sndLC (LSnd.of (sd_iconst (hd := (by decide +kernel : decode code 527 = .ok (.iconst 3, 1))) (hv := by decide))) (
   sndLC (LSnd.of (sd_iadd (hd := (by decide +kernel : decode code 528 = .ok (.iadd, 1))))) (
   sndLC (sd_sld (by decide +kernel : decode code 529 = .ok (.iaload, 1))) (
   sndLC (LSnd.of (sd_aload_n (hi := rfl) (hd := (by decide +kernel : decode code 533 = .ok (.aload_n 2, 1))))) (
   sndLC (LSnd.of (sd_aload_n (hi := rfl) (hd := (by decide +kernel : decode code 534 = .ok (.aload_n 0, 1))))) (
   sndLC (LSnd.of (sd_iload_n (hi := rfl) (hd := (by decide +kernel : decode code 535 = .ok (.iload_n 3, 1))))) (
   sndLC (LSnd.of (sd_iconst (hd := (by decide +kernel : decode code 536 = .ok (.iconst 1, 1))) (hv := by decide))) (
   sndLC (LSnd.of (sd_iadd (hd := (by decide +kernel : decode code 537 = .ok (.iadd, 1))))) (
   sndLC (sd_sld (by decide +kernel : decode code 538 = .ok (.iaload, 1))) (
   sndLC (LSnd.of (sd_aload_n (hi := rfl) (hd := (by decide +kernel : decode code 539 = .ok (.aload_n 0, 1))))) (
   sndLC (LSnd.of (sd_iload_n (hi := rfl) (hd := (by decide +kernel : decode code 540 = .ok (.iload_n 3, 1))))) (
   sndLC (LSnd.of (sd_iconst (hd := (by decide +kernel : decode code 541 = .ok (.iconst 2, 1))) (hv := by decide))) (
   sndLC (LSnd.of (sd_iadd (hd := (by decide +kernel : decode code 542 = .ok (.iadd, 1))))) (
   sndLC (sd_sld (by decide +kernel : decode code 543 = .ok (.iaload, 1))) (
   sndLC (LSnd.of (sd_aload_n (hi := rfl) (hd := (by decide +kernel : decode code 544 = .ok (.aload_n 0, 1))))) (
   sndLC (LSnd.of (sd_iload_n (hi := rfl) (hd := (by decide +kernel : decode code 545 = .ok (.iload_n 3, 1))))) (
   sndLC (LSnd.of (sd_iconst (hd := (by decide +kernel : decode code 546 = .ok (.iconst 3, 1))) (hv := by decide))) (
   sndLC (LSnd.of (sd_iadd (hd := (by decide +kernel : decode code 547 = .ok (.iadd, 1))))) (
   sndLC (sd_sld (by decide +kernel : decode code 548 = .ok (.iaload, 1))) (
   sndLC (LSnd.of (sd_cmp_eq (ht := by decide) (hd := (by decide +kernel : decode code 552 = .ok (.if_icmp .eq 399, 3))))) (
   sndLC (LSnd.of (sd_iconst (hd := (by decide +kernel : decode code 555 = .ok (.iconst 0, 1))) (hv := by decide))) (
   sndLN))))))))))))))))))))))))))))))))))
def tL_15 (L : Nat) (xs : Nat → Int32) : List (Nat × POp) := [(557, oLdA 1 1),
  (558, oLdA 0 1),
  (559, oLdI 3 1),
  (560, oPush (.int 1) 1),
  (561, oBin (fun x y => x + y)),
  (562, oSld L xs),
  (563, oLdA 0 1),
  (564, oLdI 3 1),
  (565, oPush (.int 2) 1),
  (566, oBin (fun x y => x + y)),
  (567, oSld L xs),
  (571, oLdA 2 1),
  (572, oLdA 0 1),
  (573, oLdI 3 1),
  (574, oPush (.int 1) 1),
  (575, oBin (fun x y => x + y)),
  (576, oSld L xs),
  (577, oLdA 0 1),
  (578, oLdI 3 1),
  (579, oPush (.int 2) 1),
  (580, oBin (fun x y => x + y)),
  (581, oSld L xs),
  (585, oCmp 0 951),
  (588, oPush (.int 0) 1)]
abbrev mL_15 (L : Nat) (xs : Nat → Int32) : MI := (x, code, 4, ret, tL_15 L xs)
set_option maxRecDepth 20000 in
theorem GL_15 {b L : Nat} {xs : Nat → Int32} : LGood (mL_15 L xs) b L xs := show ∀ q ∈ tL_15 L xs, LSnd (mL_15 L xs) b L xs q.1 q.2 from
  sndLC (LSnd.of (sd_aload_n (hi := rfl) (hd := (by decide +kernel : decode code 557 = .ok (.aload_n 1, 1))))) (
   sndLC (LSnd.of (sd_aload_n (hi := rfl) (hd := (by decide +kernel : decode code 558 = .ok (.aload_n 0, 1))))) (
   sndLC (LSnd.of (sd_iload_n (hi := rfl) (hd := (by decide +kernel : decode code 559 = .ok (.iload_n 3, 1))))) (
   sndLC (LSnd.of (sd_iconst (hd := (by decide +kernel : decode code 560 = .ok (.iconst 1, 1))) (hv := by decide))) (
   sndLC (LSnd.of (sd_iadd (hd := (by decide +kernel : decode code 561 = .ok (.iadd, 1))))) (
   sndLC (sd_sld (by decide +kernel : decode code 562 = .ok (.iaload, 1))) (
   sndLC (LSnd.of (sd_aload_n (hi := rfl) (hd := (by decide +kernel : decode code 563 = .ok (.aload_n 0, 1))))) (
   sndLC (LSnd.of (sd_iload_n (hi := rfl) (hd := (by decide +kernel : decode code 564 = .ok (.iload_n 3, 1))))) (
   sndLC (LSnd.of (sd_iconst (hd := (by decide +kernel : decode code 565 = .ok (.iconst 2, 1))) (hv := by decide))) (
   sndLC (LSnd.of (sd_iadd (hd := (by decide +kernel : decode code 566 = .ok (.iadd, 1))))) (
   sndLC (sd_sld (by decide +kernel : decode code 567 = .ok (.iaload, 1))) (
   sndLC (LSnd.of (sd_aload_n (hi := rfl) (hd := (by decide +kernel : decode code 571 = .ok (.aload_n 2, 1))))) (
   sndLC (LSnd.of (sd_aload_n (hi := rfl) (hd := (by decide +kernel : decode code 572 = .ok (.aload_n 0, 1))))) (
   sndLC (LSnd.of (sd_iload_n (hi := rfl) (hd := (by decide +kernel : decode code 573 = .ok (.iload_n 3, 1))))) (
   sndLC (LSnd.of (sd_iconst (hd := (by decide +kernel : decode code 574 = .ok (.iconst 1, 1))) (hv := by decide))) (
   sndLC (LSnd.of (sd_iadd (hd := (by decide +kernel : decode code 575 = .ok (.iadd, 1))))) (
   sndLC (sd_sld (by decide +kernel : decode code 576 = .ok (.iaload, 1))) (
   sndLC (LSnd.of (sd_aload_n (hi := rfl) (hd := (by decide +kernel : decode code 577 = .ok (.aload_n 0, 1))))) (
   sndLC (LSnd.of (sd_iload_n (hi := rfl) (hd := (by decide +kernel : decode code 578 = .ok (.iload_n 3, 1))))) (
   sndLC (LSnd.of (sd_iconst (hd := (by decide +kernel : decode code 579 = .ok (.iconst 2, 1))) (hv := by decide))) (
   sndLC (LSnd.of (sd_iadd (hd := (by decide +kernel : decode code 580 = .ok (.iadd, 1))))) (
   sndLC (sd_sld (by decide +kernel : decode code 581 = .ok (.iaload, 1))) (
   sndLC (LSnd.of (sd_cmp_eq (ht := by decide) (hd := (by decide +kernel : decode code 585 = .ok (.if_icmp .eq 366, 3))))) (
   sndLC (LSnd.of (sd_iconst (hd := (by decide +kernel : decode code 588 = .ok (.iconst 0, 1))) (hv := by decide))) (
   sndLN))))))))))))))))))))))))
def tL_16 (L : Nat) (xs : Nat → Int32) : List (Nat × POp) := [(590, oLdA 1 1),
  (591, oLdA 0 1),
  (592, oLdI 3 1),
  (593, oPush (.int 1) 1),
  (594, oBin (fun x y => x + y)),
  (595, oSld L xs),
  (599, oLdA 2 1),
  (600, oLdA 0 1),
  (601, oLdI 3 1),
  (602, oPush (.int 1) 1),
  (603, oBin (fun x y => x + y)),
  (604, oSld L xs),
  (608, oCmp 0 951),
  (611, oPush (.int 0) 1)]
abbrev mL_16 (L : Nat) (xs : Nat → Int32) : MI := (x, code, 4, ret, tL_16 L xs)
set_option maxRecDepth 20000 in
theorem GL_16 {b L : Nat} {xs : Nat → Int32} : LGood (mL_16 L xs) b L xs := show ∀ q ∈ tL_16 L xs, LSnd (mL_16 L xs) b L xs q.1 q.2 from
  sndLC (LSnd.of (sd_aload_n (hi := rfl) (hd := (by decide +kernel : decode code 590 = .ok (.aload_n 1, 1))))) (
   sndLC (LSnd.of (sd_aload_n (hi := rfl) (hd := (by decide +kernel : decode code 591 = .ok (.aload_n 0, 1))))) (
   sndLC (LSnd.of (sd_iload_n (hi := rfl) (hd := (by decide +kernel : decode code 592 = .ok (.iload_n 3, 1))))) (
   sndLC (LSnd.of (sd_iconst (hd := (by decide +kernel : decode code 593 = .ok (.iconst 1, 1))) (hv := by decide))) (
   sndLC (LSnd.of (sd_iadd (hd := (by decide +kernel : decode code 594 = .ok (.iadd, 1))))) (
   sndLC (sd_sld (by decide +kernel : decode code 595 = .ok (.iaload, 1))) (
   sndLC (LSnd.of (sd_aload_n (hi := rfl) (hd := (by decide +kernel : decode code 599 = .ok (.aload_n 2, 1))))) (
   sndLC (LSnd.of (sd_aload_n (hi := rfl) (hd := (by decide +kernel : decode code 600 = .ok (.aload_n 0, 1))))) (
   sndLC (LSnd.of (sd_iload_n (hi := rfl) (hd := (by decide +kernel : decode code 601 = .ok (.iload_n 3, 1))))) (
   sndLC (LSnd.of (sd_iconst (hd := (by decide +kernel : decode code 602 = .ok (.iconst 1, 1))) (hv := by decide))) (
   sndLC (LSnd.of (sd_iadd (hd := (by decide +kernel : decode code 603 = .ok (.iadd, 1))))) (
   sndLC (sd_sld (by decide +kernel : decode code 604 = .ok (.iaload, 1))) (
   sndLC (LSnd.of (sd_cmp_eq (ht := by decide) (hd := (by decide +kernel : decode code 608 = .ok (.if_icmp .eq 343, 3))))) (
   sndLC (LSnd.of (sd_iconst (hd := (by decide +kernel : decode code 611 = .ok (.iconst 0, 1))) (hv := by decide))) (
   sndLN))))))))))))))
def tL_17 (L : Nat) (xs : Nat → Int32) : List (Nat × POp) := [(613, oLdA 1 1),
  (614, oLdA 0 1),
  (615, oLdI 3 1),
  (616, oPush (.int 1) 1),
  (617, oBin (fun x y => x + y)),
  (618, oSld L xs),
  (619, oLdA 0 1),
  (620, oLdI 3 1),
  (621, oPush (.int 2) 1),
  (622, oBin (fun x y => x + y)),
  (623, oSld L xs),
  (624, oLdA 0 1),
  (625, oLdI 3 1),
  (626, oPush (.int 3) 1),
  (627, oBin (fun x y => x + y)),
  (628, oSld L xs),
  (629, oLdA 0 1),
  (630, oLdI 3 1),
  (631, oPush (.int 4) 1),
  (632, oBin (fun x y => x + y)),
  (633, oSld L xs),
  (637, oLdA 2 1),
  (638, oLdA 0 1),
  (639, oLdI 3 1),
  (640, oPush (.int 1) 1),
  (641, oBin (fun x y => x + y)),
  (642, oSld L xs),
  (643, oLdA 0 1),
  (644, oLdI 3 1),
  (645, oPush (.int 2) 1),
  (646, oBin (fun x y => x + y)),
  (647, oSld L xs),
  (648, oLdA 0 1),
  (649, oLdI 3 1),
  (650, oPush (.int 3) 1),
  (651, oBin (fun x y => x + y)),
  (652, oSld L xs),
  (653, oLdA 0 1),
  (654, oLdI 3 1),
  (655, oPush (.int 4) 1),
  (656, oBin (fun x y => x + y)),
  (657, oSld L xs),
  (661, oLcmp),
  (662, oIf 0 951),
  (665, oPush (.int 0) 1)]
abbrev mL_17 (L : Nat) (xs : Nat → Int32) : MI := (x, code, 4, ret, tL_17 L xs)
set_option maxRecDepth 20000 in
theorem GL_17 {b L : Nat} {xs : Nat → Int32} : LGood (mL_17 L xs) b L xs := show ∀ q ∈ tL_17 L xs, LSnd (mL_17 L xs) b L xs q.1 q.2 from
  sndLC (LSnd.of (sd_aload_n (hi := rfl) (hd := (by decide +kernel : decode code 613 = .ok (.aload_n 1, 1))))) (
   sndLC (LSnd.of (sd_aload_n (hi := rfl) (hd := (by decide +kernel : decode code 614 = .ok (.aload_n 0, 1))))) (
   sndLC (LSnd.of (sd_iload_n (hi := rfl) (hd := (by decide +kernel : decode code 615 = .ok (.iload_n 3, 1))))) (
   sndLC (LSnd.of (sd_iconst (hd := (by decide +kernel : decode code 616 = .ok (.iconst 1, 1))) (hv := by decide))) (
   sndLC (LSnd.of (sd_iadd (hd := (by decide +kernel : decode code 617 = .ok (.iadd, 1))))) (
   sndLC (sd_sld (by decide +kernel : decode code 618 = .ok (.iaload, 1))) (
   sndLC (LSnd.of (sd_aload_n (hi := rfl) (hd := (by decide +kernel : decode code 619 = .ok (.aload_n 0, 1))))) (
   sndLC (LSnd.of (sd_iload_n (hi := rfl) (hd := (by decide +kernel : decode code 620 = .ok (.iload_n 3, 1))))) (
   sndLC (LSnd.of (sd_iconst (hd := (by decide +kernel : decode code 621 = .ok (.iconst 2, 1))) (hv := by decide))) (
   sndLC (LSnd.of (sd_iadd (hd := (by decide +kernel : decode code 622 = .ok (.iadd, 1))))) (
   sndLC (sd_sld (by decide +kernel : decode code 623 = .ok (.iaload, 1))) (
   sndLC (LSnd.of (sd_aload_n (hi := rfl) (hd := (by decide +kernel : decode code 624 = .ok (.aload_n 0, 1))))) (
   sndLC (LSnd.of (sd_iload_n (hi := rfl) (hd := (by decide +kernel : decode code 625 = .ok (.iload_n 3, 1))))) (
   sndLC (LSnd.of (sd_iconst (hd := (by decide +kernel : decode code 626 = .ok (.iconst 3, 1))) (hv := by decide))) (
   sndLC (LSnd.of (sd_iadd (hd := (by decide +kernel : decode code 627 = .ok (.iadd, 1))))) (
   sndLC (sd_sld (by decide +kernel : decode code 628 = .ok (.iaload, 1))) (
   sndLC (LSnd.of (sd_aload_n (hi := rfl) (hd := (by decide +kernel : decode code 629 = .ok (.aload_n 0, 1))))) (
   sndLC (LSnd.of (sd_iload_n (hi := rfl) (hd := (by decide +kernel : decode code 630 = .ok (.iload_n 3, 1))))) (
   sndLC (LSnd.of (sd_iconst (hd := (by decide +kernel : decode code 631 = .ok (.iconst 4, 1))) (hv := by decide))) (
   sndLC (LSnd.of (sd_iadd (hd := (by decide +kernel : decode code 632 = .ok (.iadd, 1))))) (
   sndLC (sd_sld (by decide +kernel : decode code 633 = .ok (.iaload, 1))) (
   sndLC (LSnd.of (sd_aload_n (hi := rfl) (hd := (by decide +kernel : decode code 637 = .ok (.aload_n 2, 1))))) (
   sndLC (LSnd.of (sd_aload_n (hi := rfl) (hd := (by decide +kernel : decode code 638 = .ok (.aload_n 0, 1))))) (
   sndLC (LSnd.of (sd_iload_n (hi := rfl) (hd := (by decide +kernel : decode code 639 = .ok (.iload_n 3, 1))))) (
   sndLC (LSnd.of (sd_iconst (hd := (by decide +kernel : decode code 640 = .ok (.iconst 1, 1))) (hv := by decide))) (
   sndLC (LSnd.of (sd_iadd (hd := (by decide +kernel : decode code 641 = .ok (.iadd, 1))))) (
   sndLC (sd_sld (by decide +kernel : decode code 642 = .ok (.iaload, 1))) (
   sndLC (LSnd.of (sd_aload_n (hi := rfl) (hd := (by decide +kernel : decode code 643 = .ok (.aload_n 0, 1))))) (
   sndLC (LSnd.of (sd_iload_n (hi := rfl) (hd := (by decide +kernel : decode code 644 = .ok (.iload_n 3, 1))))) (
   sndLC (LSnd.of (sd_iconst (hd := (by decide +kernel : decode code 645 = .ok (.iconst 2, 1))) (hv := by decide))) (
   sndLC (LSnd.of (sd_iadd (hd := (by decide +kernel : decode code 646 = .ok (.iadd, 1))))) (
   sndLC (sd_sld (by decide +kernel : decode code 647 = .ok (.iaload, 1))) (
   sndLC (LSnd.of (sd_aload_n (hi := rfl) (hd := (by decide +kernel : decode code 648 = .ok (.aload_n 0, 1))))) (
   sndLC (LSnd.of (sd_iload_n (hi := rfl) (hd := (by decide +kernel : decode code 649 = .ok (.iload_n 3, 1))))) (
   sndLC (LSnd.of (sd_iconst (hd := (by decide +kernel : decode code 650 = .ok (.iconst 3, 1))) (hv := by decide))) (
   sndLC (LSnd.of (sd_iadd (hd := (by decide +kernel : decode code 651 = .ok (.iadd, 1))))) (
   sndLC (sd_sld (by decide +kernel : decode code 652 = .ok (.iaload, 1))) (
   sndLC (LSnd.of (sd_aload_n (hi := rfl) (hd := (by decide +kernel : decode code 653 = .ok (.aload_n 0, 1))))) (
   sndLC (LSnd.of (sd_iload_n (hi := rfl) (hd := (by decide +kernel : decode code 654 = .ok (.iload_n 3, 1))))) (
   sndLC (LSnd.of (sd_iconst (hd := (by decide +kernel : decode code 655 = .ok (.iconst 4, 1))) (hv := by decide))) (
   sndLC (LSnd.of (sd_iadd (hd := (by decide +kernel : decode code 656 = .ok (.iadd, 1))))) (
   sndLC (sd_sld (by decide +kernel : decode code 657 = .ok (.iaload, 1))) (
   sndLC (LSnd.of (sd_lcmp (hd := (by decide +kernel : decode code 661 = .ok (.lcmp, 1))))) (
   sndLC (LSnd.of (sd_if_eq (ht := by decide) (hd := (by decide +kernel : decode code 662 = .ok (.ifCond .eq 289, 3))))) (
   sndLC (LSnd.of (sd_iconst (hd := (by decide +kernel : decode code 665 = .ok (.iconst 0, 1))) (hv := by decide))) (
   sndLN)))))))))))))))))))))))))))))))))))))))))))))
def tL_18 (L : Nat) (xs : Nat → Int32) : List (Nat × POp) := [(667, oLdA 1 1),
  (671, oLdA 2 1),
  (675, oCmp 0 951),
  (678, oPush (.int 0) 1)]
abbrev mL_18 (L : Nat) (xs : Nat → Int32) : MI := (x, code, 4, ret, tL_18 L xs)
set_option maxRecDepth 20000 in
theorem GL_18 {b L : Nat} {xs : Nat → Int32} : LGood (mL_18 L xs) b L xs := show ∀ q ∈ tL_18 L xs, LSnd (mL_18 L xs) b L xs q.1 q.2 from
  sndLC (LSnd.of (sd_aload_n (hi := rfl) (hd := (by decide +kernel : decode code 667 = .ok (.aload_n 1, 1))))) (
   sndLC (LSnd.of (sd_aload_n (hi := rfl) (hd := (by decide +kernel : decode code 671 = .ok (.aload_n 2, 1))))) (
   sndLC (LSnd.of (sd_cmp_eq (ht := by decide) (hd := (by decide +kernel : decode code 675 = .ok (.if_icmp .eq 276, 3))))) (
   sndLC (LSnd.of (sd_iconst (hd := (by decide +kernel : decode code 678 = .ok (.iconst 0, 1))) (hv := by decide))) (
   sndLN))))
def tL_19 (L : Nat) (xs : Nat → Int32) : List (Nat × POp) := [(680, oLdA 1 1),
  (684, oLdA 2 1),
  (688, oCmp 0 951),
  (691, oPush (.int 0) 1)]
abbrev mL_19 (L : Nat) (xs : Nat → Int32) : MI := (x, code, 4, ret, tL_19 L xs)
set_option maxRecDepth 20000 in
theorem GL_19 {b L : Nat} {xs : Nat → Int32} : LGood (mL_19 L xs) b L xs := show ∀ q ∈ tL_19 L xs, LSnd (mL_19 L xs) b L xs q.1 q.2 from
  sndLC (LSnd.of (sd_aload_n (hi := rfl) (hd := (by decide +kernel : decode code 680 = .ok (.aload_n 1, 1))))) (
   sndLC (LSnd.of (sd_aload_n (hi := rfl) (hd := (by decide +kernel : decode code 684 = .ok (.aload_n 2, 1))))) (
   sndLC (LSnd.of (sd_cmp_eq (ht := by decide) (hd := (by decide +kernel : decode code 688 = .ok (.if_icmp .eq 263, 3))))) (
   sndLC (LSnd.of (sd_iconst (hd := (by decide +kernel : decode code 691 = .ok (.iconst 0, 1))) (hv := by decide))) (
   sndLN))))
def tL_20 (L : Nat) (xs : Nat → Int32) : List (Nat × POp) := [(693, oLdA 1 1),
  (694, oLdA 0 1),
  (695, oLdI 3 1),
  (696, oPush (.int 1) 1),
  (697, oBin (fun x y => x + y)),
  (698, oSld L xs),
  (702, oLdA 2 1),
  (703, oLdA 0 1),
  (704, oLdI 3 1),
  (705, oPush (.int 1) 1),
  (706, oBin (fun x y => x + y)),
  (707, oSld L xs),
  (711, oCmp 0 951),
  (714, oPush (.int 0) 1)]
abbrev mL_20 (L : Nat) (xs : Nat → Int32) : MI := (x, code, 4, ret, tL_20 L xs)
set_option maxRecDepth 20000 in
theorem GL_20 {b L : Nat} {xs : Nat → Int32} : LGood (mL_20 L xs) b L xs := show ∀ q ∈ tL_20 L xs, LSnd (mL_20 L xs) b L xs q.1 q.2 from
  sndLC (LSnd.of (sd_aload_n (hi := rfl) (hd := (by decide +kernel : decode code 693 = .ok (.aload_n 1, 1))))) (
   sndLC (LSnd.of (sd_aload_n (hi := rfl) (hd := (by decide +kernel : decode code 694 = .ok (.aload_n 0, 1))))) (
   sndLC (LSnd.of (sd_iload_n (hi := rfl) (hd := (by decide +kernel : decode code 695 = .ok (.iload_n 3, 1))))) (
   sndLC (LSnd.of (sd_iconst (hd := (by decide +kernel : decode code 696 = .ok (.iconst 1, 1))) (hv := by decide))) (
   sndLC (LSnd.of (sd_iadd (hd := (by decide +kernel : decode code 697 = .ok (.iadd, 1))))) (
   sndLC (sd_sld (by decide +kernel : decode code 698 = .ok (.iaload, 1))) (
   sndLC (LSnd.of (sd_aload_n (hi := rfl) (hd := (by decide +kernel : decode code 702 = .ok (.aload_n 2, 1))))) (
   sndLC (LSnd.of (sd_aload_n (hi := rfl) (hd := (by decide +kernel : decode code 703 = .ok (.aload_n 0, 1))))) (
   sndLC (LSnd.of (sd_iload_n (hi := rfl) (hd := (by decide +kernel : decode code 704 = .ok (.iload_n 3, 1))))) (
   sndLC (LSnd.of (sd_iconst (hd := (by decide +kernel : decode code 705 = .ok (.iconst 1, 1))) (hv := by decide))) (
   sndLC (LSnd.of (sd_iadd (hd := (by decide +kernel : decode code 706 = .ok (.iadd, 1))))) (
   sndLC (sd_sld (by decide +kernel : decode code 707 = .ok (.iaload, 1))) (
   sndLC (LSnd.of (sd_cmp_eq (ht := by decide) (hd := (by decide +kernel : decode code 711 = .ok (.if_icmp .eq 240, 3))))) (
   sndLC (LSnd.of (sd_iconst (hd := (by decide +kernel : decode code 714 = .ok (.iconst 0, 1))) (hv := by decide))) (
   sndLN))))))))))))))
def tL_21 (L : Nat) (xs : Nat → Int32) : List (Nat × POp) := [(716, oLdA 1 1),
  (717, oLdA 0 1),
  (718, oLdI 3 1),
  (719, oPush (.int 1) 1),
  (720, oBin (fun x y => x + y)),
  (721, oSld L xs),
  (722, oLdA 0 1),
  (723, oLdI 3 1),
  (724, oPush (.int 2) 1),
  (725, oBin (fun x y => x + y)),
  (726, oSld L xs),
  (727, oLdA 0 1),
  (728, oLdI 3 1),
  (729, oPush (.int 3) 1),
  (730, oBin (fun x y => x + y)),
  (731, oSld L xs),
  (735, oLdA 2 1),
  (736, oLdA 0 1),
  (737, oLdI 3 1),
  (738, oPush (.int 1) 1),
  (739, oBin (fun x y => x + y)),
  (740, oSld L xs),
  (741, oLdA 0 1),
  (742, oLdI 3 1),
  (743, oPush (.int 2) 1),
  (744, oBin (fun x y => x + y)),
  (745, oSld L xs),
  (746, oLdA 0 1),
  (747, oLdI 3 1),
  (748, oPush (.int 3) 1),
  (749, oBin (fun x y => x + y)),
  (750, oSld L xs),
  (754, oCmp 0 951),
  (757, oPush (.int 0) 1)]
abbrev mL_21 (L : Nat) (xs : Nat → Int32) : MI := (x, code, 4, ret, tL_21 L xs)
set_option maxRecDepth 20000 in
theorem GL_21 {b L : Nat} {xs : Nat → Int32} : LGood (mL_21 L xs) b L xs := show ∀ q ∈ tL_21 L xs, LSnd (mL_21 L xs) b L xs q.1 q.2 from
  sndLC (LSnd.of (sd_aload_n (hi := rfl) (hd := (by decide +kernel : decode code 716 = .ok (.aload_n 1, 1))))) (
   sndLC (LSnd.of (sd_aload_n (hi := rfl) (hd := (by decide +kernel : decode code 717 = .ok (.aload_n 0, 1))))) (
   sndLC (LSnd.of (sd_iload_n (hi := rfl) (hd := (by decide +kernel : decode code 718 = .ok (.iload_n 3, 1))))) (
   sndLC (LSnd.of (sd_iconst (hd := (by decide +kernel : decode code 719 = .ok (.iconst 1, 1))) (hv := by decide))) (
   sndLC (LSnd.of (sd_iadd (hd := (by decide +kernel : decode code 720 = .ok (.iadd, 1))))) (
   sndLC (sd_sld (by decide +kernel : decode code 721 = .ok (.iaload, 1))) (
   sndLC (LSnd.of (sd_aload_n (hi := rfl) (hd := (by decide +kernel : decode code 722 = .ok (.aload_n 0, 1))))) (
   sndLC (LSnd.of (sd_iload_n (hi := rfl) (hd := (by decide +kernel : decode code 723 = .ok (.iload_n 3, 1))))) (
   sndLC (LSnd.of (sd_iconst (hd := (by decide +kernel : decode code 724 = .ok (.iconst 2, 1))) (hv := by decide))) (
   sndLC (LSnd.of (sd_iadd (hd := (by decide +kernel : decode code 725 = .ok (.iadd, 1))))) (
   sndLC (sd_sld (by decide +kernel : decode code 726 = .ok (.iaload, 1))) (
   sndLC (LSnd.of (sd_aload_n (hi := rfl) (hd := (by decide +kernel : decode code 727 = .ok (.aload_n 0, 1))))) (
   sndLC (LSnd.of (sd_iload_n (hi := rfl) (hd := (by decide +kernel : decode code 728 = .ok (.iload_n 3, 1))))) (
   sndLC (LSnd.of (sd_iconst (hd := (by decide +kernel : decode code 729 = .ok (.iconst 3, 1))) (hv := by decide))) (
   sndLC (LSnd.of (sd_iadd (hd := (by decide +kernel : decode code 730 = .ok (.iadd, 1))))) (
   sndLC (sd_sld (by decide +kernel : decode code 731 = .ok (.iaload, 1))) (
   sndLC (LSnd.of (sd_aload_n (hi := rfl) (hd := (by decide +kernel : decode code 735 = .ok (.aload_n 2, 1))))) (
   sndLC (LSnd.of (sd_aload_n (hi := rfl) (hd := (by decide +kernel : decode code 736 = .ok (.aload_n 0, 1))))) (
   sndLC (LSnd.of (sd_iload_n (hi := rfl) (hd := (by decide +kernel : decode code 737 = .ok (.iload_n 3, 1))))) (
   sndLC (LSnd.of (sd_iconst (hd := (by decide +kernel : decode code 738 = .ok (.iconst 1, 1))) (hv := by decide))) (
   sndLC (LSnd.of (sd_iadd (hd := (by decide +kernel : decode code 739 = .ok (.iadd, 1))))) (
   sndLC (sd_sld (by decide +kernel : decode code 740 = .ok (.iaload, 1))) (
   sndLC (LSnd.of (sd_aload_n (hi := rfl) (hd := (by decide +kernel : decode code 741 = .ok (.aload_n 0, 1))))) (
   sndLC (LSnd.of (sd_iload_n (hi := rfl) (hd := (by decide +kernel : decode code 742 = .ok (.iload_n 3, 1))))) (
   sndLC (LSnd.of (sd_iconst (hd := (by decide +kernel : decode code 743 = .ok (.iconst 2, 1))) (hv := by decide))) (
   sndLC (LSnd.of (sd_iadd (hd := (by decide +kernel : decode code 744 = .ok (.iadd, 1))))) (
   sndLC (sd_sld (by decide +kernel : decode code 745 = .ok (.iaload, 1))) (
   sndLC (LSnd.of (sd_aload_n (hi := rfl) (hd := (by decide +kernel : decode code 746 = .ok (.aload_n 0, 1))))) (
   sndLC (LSnd.of (sd_iload_n (hi := rfl) (hd := (by decide +kernel : decode code 747 = .ok (.iload_n 3, 1))))) (
   sndLC (LSnd.of (sd_iconst (hd := (by decide +kernel : decode code 748 = .ok (.iconst 3, 1))) (hv := by decide))) (
   sndLC (LSnd.of (sd_iadd (hd := (by decide +kernel : decode code 749 = .ok (.iadd, 1))))) (
   sndLC (sd_sld (by decide +kernel : decode code 750 = .ok (.iaload, 1))) (
   sndLC (LSnd.of (sd_cmp_eq (ht := by decide) (hd := (by decide +kernel : decode code 754 = .ok (.if_icmp .eq 197, 3))))) (
   sndLC (LSnd.of (sd_iconst (hd := (by decide +kernel : decode code 757 = .ok (.iconst 0, 1))) (hv := by decide))) (
   sndLN))))))))))))))))))))))))))))))))))
def tL_22 (L : Nat) (xs : Nat → Int32) : List (Nat × POp) := [(759, oLdA 1 1),
  (760, oLdA 0 1),
  (761, oLdI 3 1),
  (762, oPush (.int 1) 1),
  (763, oBin (fun x y => x + y)),
  (764, oSld L xs),
  (765, oLdA 0 1),
  (766, oLdI 3 1),
  (767, oPush (.int 2) 1),
  (768, oBin (fun x y => x + y)),
  (769, oSld L xs),
  (770, oLdA 0 1),
  (771, oLdI 3 1),
  (772, oPush (.int 3) 1),
  (773, oBin (fun x y => x + y)),
  (774, oSld L xs),
  (778, oLdA 2 1),
  (779, oLdA 0 1),
  (780, oLdI 3 1),
  (781, oPush (.int 1) 1),
  (782, oBin (fun x y => x + y)),
  (783, oSld L xs),
  (784, oLdA 0 1),
  (785, oLdI 3 1),
  (786, oPush (.int 2) 1),
  (787, oBin (fun x y => x + y)),
  (788, oSld L xs),
  (789, oLdA 0 1),
  (790, oLdI 3 1),
  (791, oPush (.int 3) 1),
  (792, oBin (fun x y => x + y)),
  (793, oSld L xs),
  (797, oCmp 0 951),
  (800, oPush (.int 0) 1)]
abbrev mL_22 (L : Nat) (xs : Nat → Int32) : MI := (x, code, 4, ret, tL_22 L xs)
set_option maxRecDepth 20000 in
theorem GL_22 {b L : Nat} {xs : Nat → Int32} : LGood (mL_22 L xs) b L xs := show ∀ q ∈ tL_22 L xs, LSnd (mL_22 L xs) b L xs q.1 q.2 from
  sndLC (LSnd.of (sd_aload_n (hi := rfl) (hd := (by decide +kernel : decode code 759 = .ok (.aload_n 1, 1))))) (
   sndLC (LSnd.of (sd_aload_n (hi := rfl) (hd := (by decide +kernel : decode code 760 = .ok (.aload_n 0, 1))))) (
   sndLC (LSnd.of (sd_iload_n (hi := rfl) (hd := (by decide +kernel : decode code 761 = .ok (.iload_n 3, 1))))) (
   sndLC (LSnd.of (sd_iconst (hd := (by decide +kernel : decode code 762 = .ok (.iconst 1, 1))) (hv := by decide))) (
   sndLC (LSnd.of (sd_iadd (hd := (by decide +kernel : decode code 763 = .ok (.iadd, 1))))) (
   sndLC (sd_sld (by decide +kernel : decode code 764 = .ok (.iaload, 1))) (
   sndLC (LSnd.of (sd_aload_n (hi := rfl) (hd := (by decide +kernel : decode code 765 = .ok (.aload_n 0, 1))))) (
   sndLC (LSnd.of (sd_iload_n (hi := rfl) (hd := (by decide +kernel : decode code 766 = .ok (.iload_n 3, 1))))) (
   sndLC (LSnd.of (sd_iconst (hd := (by decide +kernel : decode code 767 = .ok (.iconst 2, 1))) (hv := by decide))) (
   sndLC (LSnd.of (sd_iadd (hd := (by decide +kernel : decode code 768 = .ok (.iadd, 1))))) (
   sndLC (sd_sld (by decide +kernel : decode code 769 = .ok (.iaload, 1))) (
   sndLC (LSnd.of (sd_aload_n (hi := rfl) (hd := (by decide +kernel : decode code 770 = .ok (.aload_n 0, 1))))) (
   sndLC (LSnd.of (sd_iload_n (hi := rfl) (hd := (by decide +kernel : decode code 771 = .ok (.iload_n 3, 1))))) (
   sndLC (LSnd.of (sd_iconst (hd := (by decide +kernel : decode code 772 = .ok (.iconst 3, 1))) (hv := by decide))) (
   sndLC (LSnd.of (sd_iadd (hd := (by decide +kernel : decode code 773 = .ok (.iadd, 1))))) (
   sndLC (sd_sld (by decide +kernel : decode code 774 = .ok (.iaload, 1))) (
   sndLC (LSnd.of (sd_aload_n (hi := rfl) (hd := (by decide +kernel : decode code 778 = .ok (.aload_n 2, 1))))) (
   sndLC (LSnd.of (sd_aload_n (hi := rfl) (hd := (by decide +kernel : decode code 779 = .ok (.aload_n 0, 1))))) (
   sndLC (LSnd.of (sd_iload_n (hi := rfl) (hd := (by decide +kernel : decode code 780 = .ok (.iload_n 3, 1))))) (
   sndLC (LSnd.of (sd_iconst (hd := (by decide +kernel : decode code 781 = .ok (.iconst 1, 1))) (hv := by decide))) (
   sndLC (LSnd.of (sd_iadd (hd := (by decide +kernel : decode code 782 = .ok (.iadd, 1))))) (
   sndLC (sd_sld (by decide +kernel : decode code 783 = .ok (.iaload, 1))) (
   sndLC (LSnd.of (sd_aload_n (hi := rfl) (hd := (by decide +kernel : decode code 784 = .ok (.aload_n 0, 1))))) (
   sndLC (LSnd.of (sd_iload_n (hi := rfl) (hd := (by decide +kernel : decode code 785 = .ok (.iload_n 3, 1))))) (
   sndLC (LSnd.of (sd_iconst (hd := (by decide +kernel : decode code 786 = .ok (.iconst 2, 1))) (hv := by decide))) (
   sndLC (LSnd.of (sd_iadd (hd := (by decide +kernel : decode code 787 = .ok (.iadd, 1))))) (
   sndLC (sd_sld (by decide +kernel : decode code 788 = .ok (.iaload, 1))) (
   sndLC (LSnd.of (sd_aload_n (hi := rfl) (hd := (by decide +kernel : decode code 789 = .ok (.aload_n 0, 1))))) (
   sndLC (LSnd.of (sd_iload_n (hi := rfl) (hd := (by decide +kernel : decode code 790 = .ok (.iload_n 3, 1))))) (
   sndLC (LSnd.of (sd_iconst (hd := (by decide +kernel : decode code 791 = .ok (.iconst 3, 1))) (hv := by decide))) (
   sndLC (LSnd.of (sd_iadd (hd := (by decide +kernel : decode code 792 = .ok (.iadd, 1))))) (
   sndLC (sd_sld (by decide +kernel : decode code 793 = .ok (.iaload, 1))) (
   sndLC (LSnd.of (sd_cmp_eq (ht := by decide) (hd := (by decide +kernel : decode code 797 = .ok (.if_icmp .eq 154, 3))))) (
   sndLC (LSnd.of (sd_iconst (hd := (by decide +kernel : decode code 800 = .ok (.iconst 0, 1))) (hv := by decide))) (
   sndLN))))))))))))))))))))))))))))))))))
def tL_23 (L : Nat) (xs : Nat → Int32) : List (Nat × POp) := [(802, oLdA 1 1),
  (803, oLdA 0 1),
  (804, oLdI 3 1),
  (805, oPush (.int 1) 1),
  (806, oBin (fun x y => x + y)),
  (807, oSld L xs),
  (808, oLdA 0 1),
  (809, oLdI 3 1),
  (810, oPush (.int 2) 1),
  (811, oBin (fun x y => x + y)),
  (812, oSld L xs),
  (813, oLdA 0 1),
  (814, oLdI 3 1),
  (815, oPush (.int 3) 1),
  (816, oBin (fun x y => x + y)),
  (817, oSld L xs),
  (818, oLdA 0 1),
  (819, oLdI 3 1),
  (820, oPush (.int 4) 1),
  (821, oBin (fun x y => x + y)),
  (822, oSld L xs),
  (823, oLdA 0 1),
  (824, oLdI 3 1),
  (825, oPush (.int 5) 1),
  (826, oBin (fun x y => x + y)),
  (827, oSld L xs),
  (831, oLdA 2 1),
  (832, oLdA 0 1),
  (833, oLdI 3 1),
  (834, oPush (.int 1) 1),
  (835, oBin (fun x y => x + y)),
  (836, oSld L xs),
  (837, oLdA 0 1),
  (838, oLdI 3 1),
  (839, oPush (.int 2) 1),
  (840, oBin (fun x y => x + y)),
  (841, oSld L xs),
  (842, oLdA 0 1),
  (843, oLdI 3 1),
  (844, oPush (.int 3) 1),
  (845, oBin (fun x y => x + y)),
  (846, oSld L xs),
  (847, oLdA 0 1),
  (848, oLdI 3 1),
  (849, oPush (.int 4) 1),
  (850, oBin (fun x y => x + y)),
  (851, oSld L xs),
  (852, oLdA 0 1),
  (853, oLdI 3 1),
  (854, oPush (.int 5) 1),
  (855, oBin (fun x y => x + y)),
  (856, oSld L xs),
  (860, oCmp 0 951),
  (863, oPush (.int 0) 1)]
abbrev mL_23 (L : Nat) (xs : Nat → Int32) : MI := (x, code, 4, ret, tL_23 L xs)
set_option maxRecDepth 20000 in
theorem GL_23 {b L : Nat} {xs : Nat → Int32} : LGood (mL_23 L xs) b L xs := show ∀ q ∈ tL_23 L xs, LSnd (mL_23 L xs) b L xs q.1 q.2 from
  sndLC (LSnd.of (sd_aload_n (hi := rfl) (hd := (by decide +kernel : decode code 802 = .ok (.aload_n 1, 1))))) (
   sndLC (LSnd.of (sd_aload_n (hi := rfl) (hd := (by decide +kernel : decode code 803 = .ok (.aload_n 0, 1))))) (
   sndLC (LSnd.of (sd_iload_n (hi := rfl) (hd := (by decide +kernel : decode code 804 = .ok (.iload_n 3, 1))))) (
   sndLC (LSnd.of (sd_iconst (hd := (by decide +kernel : decode code 805 = .ok (.iconst 1, 1))) (hv := by decide))) (
   sndLC (LSnd.of (sd_iadd (hd := (by decide +kernel : decode code 806 = .ok (.iadd, 1))))) (
   sndLC (sd_sld (by decide +kernel : decode code 807 = .ok (.iaload, 1))) (
   sndLC (LSnd.of (sd_aload_n (hi := rfl) (hd := (by decide +kernel : decode code 808 = .ok (.aload_n 0, 1))))) (
   sndLC (LSnd.of (sd_iload_n (hi := rfl) (hd := (by decide +kernel : decode code 809 = .ok (.iload_n 3, 1))))) (
   sndLC (LSnd.of (sd_iconst (hd := (by decide +kernel : decode code 810 = .ok (.iconst 2, 1))) (hv := by decide))) (
   sndLC (LSnd.of (sd_iadd (hd := (by decide +kernel : decode code 811 = .ok (.iadd, 1))))) (
   sndLC (sd_sld (by decide +kernel : decode code 812 = .ok (.iaload, 1))) (
   sndLC (LSnd.of (sd_aload_n (hi := rfl) (hd := (by decide +kernel : decode code 813 = .ok (.aload_n 0, 1))))) (
   sndLC (LSnd.of (sd_iload_n (hi := rfl) (hd := (by decide +kernel : decode code 814 = .ok (.iload_n 3, 1))))) (
   sndLC (LSnd.of (sd_iconst (hd := (by decide +kernel : decode code 815 = .ok (.iconst 3, 1))) (hv := by decide))) (
   sndLC (LSnd.of (sd_iadd (hd := (by decide +kernel : decode code 816 = .ok (.iadd, 1))))) (
   sndLC (sd_sld (by decide +kernel : decode code 817 = .ok (.iaload, 1))) (
   sndLC (LSnd.of (sd_aload_n (hi := rfl) (hd := (by decide +kernel : decode code 818 = .ok (.aload_n 0, 1))))) (
   sndLC (LSnd.of (sd_iload_n (hi := rfl) (hd := (by decide +kernel : decode code 819 = .ok (.iload_n 3, 1))))) (
   sndLC (LSnd.of (sd_iconst (hd := (by decide +kernel : decode code 820 = .ok (.iconst 4, 1))) (hv := by decide))) (
   sndLC (LSnd.of (sd_iadd (hd := (by decide +kernel : decode code 821 = .ok (.iadd, 1))))) (
   sndLC (sd_sld (by decide +kernel : decode code 822 = .ok (.iaload, 1))) (
   sndLC (LSnd.of (sd_aload_n (hi := rfl) (hd := (by decide +kernel : decode code 823 = .ok (.aload_n 0, 1))))) (
   sndLC (LSnd.of (sd_iload_n (hi := rfl) (hd := (by decide +kernel : decode code 824 = .ok (.iload_n 3, 1))))) (
   sndLC (LSnd.of (sd_iconst (hd := (by decide +kernel : decode code 825 = .ok (.iconst 5, 1))) (hv := by decide))) (
   sndLC (LSnd.of (sd_iadd (hd := (by decide +kernel : decode code 826 = .ok (.iadd, 1))))) (
   sndLC (sd_sld (by decide +kernel : decode code 827 = .ok (.iaload, 1))) (
   sndLC (LSnd.of (sd_aload_n (hi := rfl) (hd := (by decide +kernel : decode code 831 = .ok (.aload_n 2, 1))))) (
   sndLC (LSnd.of (sd_aload_n (hi := rfl) (hd := (by decide +kernel : decode code 832 = .ok (.aload_n 0, 1))))) (
   sndLC (LSnd.of (sd_iload_n (hi := rfl) (hd := (by decide +kernel : decode code 833 = .ok (.iload_n 3, 1))))) (
   sndLC (LSnd.of (sd_iconst (hd := (by decide +kernel : decode code 834 = .ok (.iconst 1, 1))) (hv := by decide))) (
   sndLC (LSnd.of (sd_iadd (hd := (by decide +kernel : decode code 835 = .ok (.iadd, 1))))) (
   sndLC (sd_sld (by decide +kernel : decode code 836 = .ok (.iaload, 1))) (
   sndLC (LSnd.of (sd_aload_n (hi := rfl) (hd := (by decide +kernel : decode code 837 = .ok (.aload_n 0, 1))))) (
   sndLC (LSnd.of (sd_iload_n (hi := rfl) (hd := (by decide +kernel : decode code 838 = .ok (.iload_n 3, 1))))) (
   sndLC (LSnd.of (sd_iconst (hd := (by decide +kernel : decode code 839 = .ok (.iconst 2, 1))) (hv := by decide))) (
   sndLC (LSnd.of (sd_iadd (hd := (by decide +kernel : decode code 840 = .ok (.iadd, 1))))) (
   sndLC (sd_sld (by decide +kernel : decode code 841 = .ok (.iaload, 1))) (
   sndLC (LSnd.of (sd_aload_n (hi := rfl) (hd := (by decide +kernel : decode code 842 = .ok (.aload_n 0, 1))))) (
   sndLC (LSnd.of (sd_iload_n (hi := rfl) (hd := (by decide +kernel : decode code 843 = .ok (.iload_n 3, 1))))) (
   sndLC (LSnd.of (sd_iconst (hd := (by decide +kernel : decode code 844 = .ok (.iconst 3, 1))) (hv := by decide))) (
   sndLC (LSnd.of (sd_iadd (hd := (by decide +kernel : decode code 845 = .ok (.iadd, 1))))) (
   sndLC (sd_sld (by decide +kernel : decode code 846 = .ok (.iaload, 1))) (
   sndLC (LSnd.of (sd_aload_n (hi := rfl) (hd := (by decide +kernel : decode code 847 = .ok (.aload_n 0, 1))))) (
   sndLC (LSnd.of (sd_iload_n (hi := rfl) (hd := (by decide +kernel : decode code 848 = .ok (.iload_n 3, 1))))) (
   sndLC (LSnd.of (sd_iconst (hd := (by decide +kernel : decode code 849 = .ok (.iconst 4, 1))) (hv := by decide))) (
   sndLC (LSnd.of (sd_iadd (hd := (by decide +kernel : decode code 850 = .ok (.iadd, 1))))) (
   sndLC (sd_sld (by decide +kernel : decode code 851 = .ok (.iaload, 1))) (
   sndLC (LSnd.of (sd_aload_n (hi := rfl) (hd := (by decide +kernel : decode code 852 = .ok (.aload_n 0, 1))))) (
   sndLC (LSnd.of (sd_iload_n (hi := rfl) (hd := (by decide +kernel : decode code 853 = .ok (.iload_n 3, 1))))) (
   sndLC (LSnd.of (sd_iconst (hd := (by decide +kernel : decode code 854 = .ok (.iconst 5, 1))) (hv := by decide))) (
   sndLC (LSnd.of (sd_iadd (hd := (by decide +kernel : decode code 855 = .ok (.iadd, 1))))) (
   sndLC (sd_sld (by decide +kernel : decode code 856 = .ok (.iaload, 1))) (
   sndLC (LSnd.of (sd_cmp_eq (ht := by decide) (hd := (by decide +kernel : decode code 860 = .ok (.if_icmp .eq 91, 3))))) (
   sndLC (LSnd.of (sd_iconst (hd := (by decide +kernel : decode code 863 = .ok (.iconst 0, 1))) (hv := by decide))) (
   sndLN))))))))))))))))))))))))))))))))))))))))))))))))))))))
def tL_24 (L : Nat) (xs : Nat → Int32) : List (Nat × POp) := [(865, oLdA 1 1),
  (866, oLdA 0 1),
  (867, oLdI 3 1),
  (868, oPush (.int 1) 1),
  (869, oBin (fun x y => x + y)),
  (870, oSld L xs),
  (871, oLdA 0 1),
  (872, oLdI 3 1),
  (873, oPush (.int 2) 1),
  (874, oBin (fun x y => x + y)),
  (875, oSld L xs),
  (876, oLdA 0 1),
  (877, oLdI 3 1),
  (878, oPush (.int 3) 1),
  (879, oBin (fun x y => x + y)),
  (880, oSld L xs),
  (881, oLdA 0 1),
  (882, oLdI 3 1),
  (883, oPush (.int 4) 1),
  (884, oBin (fun x y => x + y)),
  (885, oSld L xs),
  (889, oLdA 2 1),
  (890, oLdA 0 1),
  (891, oLdI 3 1),
  (892, oPush (.int 1) 1),
  (893, oBin (fun x y => x + y)),
  (894, oSld L xs),
  (895, oLdA 0 1),
  (896, oLdI 3 1),
  (897, oPush (.int 2) 1),
  (898, oBin (fun x y => x + y)),
  (899, oSld L xs),
  (900, oLdA 0 1),
  (901, oLdI 3 1),
  (902, oPush (.int 3) 1),
  (903, oBin (fun x y => x + y)),
  (904, oSld L xs),
  (905, oLdA 0 1),
  (906, oLdI 3 1),
  (907, oPush (.int 4) 1),
  (908, oBin (fun x y => x + y)),
  (909, oSld L xs),
  (913, oCmp 0 951),
  (916, oPush (.int 0) 1)]
abbrev mL_24 (L : Nat) (xs : Nat → Int32) : MI := (x, code, 4, ret, tL_24 L xs)
set_option maxRecDepth 20000 in
theorem GL_24 {b L : Nat} {xs : Nat → Int32} : LGood (mL_24 L xs) b L xs := show ∀ q ∈ tL_24 L xs, LSnd (mL_24 L xs) b L xs q.1 q.2 from
  sndLC (LSnd.of (sd_aload_n (hi := rfl) (hd := (by decide +kernel : decode code 865 = .ok (.aload_n 1, 1))))) (
   sndLC (LSnd.of (sd_aload_n (hi := rfl) (hd := (by decide +kernel : decode code 866 = .ok (.aload_n 0, 1))))) (
   sndLC (LSnd.of (sd_iload_n (hi := rfl) (hd := (by decide +kernel : decode code 867 = .ok (.iload_n 3, 1))))) (
   sndLC (LSnd.of (sd_iconst (hd := (by decide +kernel : decode code 868 = .ok (.iconst 1, 1))) (hv := by decide))) (
   sndLC (LSnd.of (sd_iadd (hd := (by decide +kernel : decode code 869 = .ok (.iadd, 1))))) (
   sndLC (sd_sld (by decide +kernel : decode code 870 = .ok (.iaload, 1))) (
   sndLC (LSnd.of (sd_aload_n (hi := rfl) (hd := (by decide +kernel : decode code 871 = .ok (.aload_n 0, 1))))) (
   sndLC (LSnd.of (sd_iload_n (hi := rfl) (hd := (by decide +kernel : decode code 872 = .ok (.iload_n 3, 1))))) (
   sndLC (LSnd.of (sd_iconst (hd := (by decide +kernel : decode code 873 = .ok (.iconst 2, 1))) (hv := by decide))) (
   sndLC (LSnd.of (sd_iadd (hd := (by decide +kernel : decode code 874 = .ok (.iadd, 1))))) (
   sndLC (sd_sld (by decide +kernel : decode code 875 = .ok (.iaload, 1))) (
   sndLC (LSnd.of (sd_aload_n (hi := rfl) (hd := (by decide +kernel : decode code 876 = .ok (.aload_n 0, 1))))) (
   sndLC (LSnd.of (sd_iload_n (hi := rfl) (hd := (by decide +kernel : decode code 877 = .ok (.iload_n 3, 1))))) (
   sndLC (LSnd.of (sd_iconst (hd := (by decide +kernel : decode code 878 = .ok (.iconst 3, 1))) (hv := by decide))) (
   sndLC (LSnd.of (sd_iadd (hd := (by decide +kernel : decode code 879 = .ok (.iadd, 1))))) (
   sndLC (sd_sld (by decide +kernel : decode code 880 = .ok (.iaload, 1))) (
   sndLC (LSnd.of (sd_aload_n (hi := rfl) (hd := (by decide +kernel : decode code 881 = .ok (.aload_n 0, 1))))) (
   sndLC (LSnd.of (sd_iload_n (hi := rfl) (hd := (by decide +kernel : decode code 882 = .ok (.iload_n 3, 1))))) (
   sndLC (LSnd.of (sd_iconst (hd := (by decide +kernel : decode code 883 = .ok (.iconst 4, 1))) (hv := by decide))) (
   sndLC (LSnd.of (sd_iadd (hd := (by decide +kernel : decode code 884 = .ok (.iadd, 1))))) (
   sndLC (sd_sld (by decide +kernel : decode code 885 = .ok (.iaload, 1))) (
   sndLC (LSnd.of (sd_aload_n (hi := rfl) (hd := (by decide +kernel : decode code 889 = .ok (.aload_n 2, 1))))) (
   sndLC (LSnd.of (sd_aload_n (hi := rfl) (hd := (by decide +kernel : decode code 890 = .ok (.aload_n 0, 1))))) (
   sndLC (LSnd.of (sd_iload_n (hi := rfl) (hd := (by decide +kernel : decode code 891 = .ok (.iload_n 3, 1))))) (
   sndLC (LSnd.of (sd_iconst (hd := (by decide +kernel : decode code 892 = .ok (.iconst 1, 1))) (hv := by decide))) (
   sndLC (LSnd.of (sd_iadd (hd := (by decide +kernel : decode code 893 = .ok (.iadd, 1))))) (
   sndLC (sd_sld (by decide +kernel : decode code 894 = .ok (.iaload, 1))) (
   sndLC (LSnd.of (sd_aload_n (hi := rfl) (hd := (by decide +kernel : decode code 895 = .ok (.aload_n 0, 1))))) (
   sndLC (LSnd.of (sd_iload_n (hi := rfl) (hd := (by decide +kernel : decode code 896 = .ok (.iload_n 3, 1))))) (
   sndLC (LSnd.of (sd_iconst (hd := (by decide +kernel : decode code 897 = .ok (.iconst 2, 1))) (hv := by decide))) (
   sndLC (LSnd.of (sd_iadd (hd := (by decide +kernel : decode code 898 = .ok (.iadd, 1))))) (
   sndLC (sd_sld (by decide +kernel : decode code 899 = .ok (.iaload, 1))) (
   sndLC (LSnd.of (sd_aload_n (hi := rfl) (hd := (by decide +kernel : decode code 900 = .ok (.aload_n 0, 1))))) (
   sndLC (LSnd.of (sd_iload_n (hi := rfl) (hd := (by decide +kernel : decode code 901 = .ok (.iload_n 3, 1))))) (
   sndLC (LSnd.of (sd_iconst (hd := (by decide +kernel : decode code 902 = .ok (.iconst 3, 1))) (hv := by decide))) (
   sndLC (LSnd.of (sd_iadd (hd := (by decide +kernel : decode code 903 = .ok (.iadd, 1))))) (
   sndLC (sd_sld (by decide +kernel : decode code 904 = .ok (.iaload, 1))) (
   sndLC (LSnd.of (sd_aload_n (hi := rfl) (hd := (by decide +kernel : decode code 905 = .ok (.aload_n 0, 1))))) (
   sndLC (LSnd.of (sd_iload_n (hi := rfl) (hd := (by decide +kernel : decode code 906 = .ok (.iload_n 3, 1))))) (
   sndLC (LSnd.of (sd_iconst (hd := (by decide +kernel : decode code 907 = .ok (.iconst 4, 1))) (hv := by decide))) (
   sndLC (LSnd.of (sd_iadd (hd := (by decide +kernel : decode code 908 = .ok (.iadd, 1))))) (
   sndLC (sd_sld (by decide +kernel : decode code 909 = .ok (.iaload, 1))) (
   sndLC (LSnd.of (sd_cmp_eq (ht := by decide) (hd := (by decide +kernel : decode code 913 = .ok (.if_icmp .eq 38, 3))))) (
   sndLC (LSnd.of (sd_iconst (hd := (by decide +kernel : decode code 916 = .ok (.iconst 0, 1))) (hv := by decide))) (
   sndLN))))))))))))))))))))))))))))))))))))))))))))
def tL_25 (L : Nat) (xs : Nat → Int32) : List (Nat × POp) := [(918, oLdA 1 1),
  (919, oLdA 0 1),
  (920, oLdI 3 1),
  (921, oPush (.int 1) 1),
  (922, oBin (fun x y => x + y)),
  (923, oSld L xs),
  (924, oLdA 0 1),
  (925, oLdI 3 1),
  (926, oPush (.int 2) 1),
  (927, oBin (fun x y => x + y)),
  (928, oSld L xs),
  (932, oLdA 2 1),
  (933, oLdA 0 1),
  (934, oLdI 3 1),
  (935, oPush (.int 1) 1),
  (936, oBin (fun x y => x + y)),
  (937, oSld L xs),
  (938, oLdA 0 1),
  (939, oLdI 3 1),
  (940, oPush (.int 2) 1),
  (941, oBin (fun x y => x + y)),
  (942, oSld L xs),
  (946, oCmp 0 951),
  (949, oPush (.int 0) 1)]
abbrev mL_25 (L : Nat) (xs : Nat → Int32) : MI := (x, code, 4, ret, tL_25 L xs)
set_option maxRecDepth 20000 in
theorem GL_25 {b L : Nat} {xs : Nat → Int32} : LGood (mL_25 L xs) b L xs := show ∀ q ∈ tL_25 L xs, LSnd (mL_25 L xs) b L xs q.1 q.2 from
  sndLC (LSnd.of (sd_aload_n (hi := rfl) (hd := (by decide +kernel : decode code 918 = .ok (.aload_n 1, 1))))) (
   sndLC (LSnd.of (sd_aload_n (hi := rfl) (hd := (by decide +kernel : decode code 919 = .ok (.aload_n 0, 1))))) (
   sndLC (LSnd.of (sd_iload_n (hi := rfl) (hd := (by decide +kernel : decode code 920 = .ok (.iload_n 3, 1))))) (
   sndLC (LSnd.of (sd_iconst (hd := (by decide +kernel : decode code 921 = .ok (.iconst 1, 1))) (hv := by decide))) (
   sndLC (LSnd.of (sd_iadd (hd := (by decide +kernel : decode code 922 = .ok (.iadd, 1))))) (
   sndLC (sd_sld (by decide +kernel : decode code 923 = .ok (.iaload, 1))) (
   sndLC (LSnd.of (sd_aload_n (hi := rfl) (hd := (by decide +kernel : decode code 924 = .ok (.aload_n 0, 1))))) (
   sndLC (LSnd.of (sd_iload_n (hi := rfl) (hd := (by decide +kernel : decode code 925 = .ok (.iload_n 3, 1))))) (
   sndLC (LSnd.of (sd_iconst (hd := (by decide +kernel : decode code 926 = .ok (.iconst 2, 1))) (hv := by decide))) (
   sndLC (LSnd.of (sd_iadd (hd := (by decide +kernel : decode code 927 = .ok (.iadd, 1))))) (
   sndLC (sd_sld (by decide +kernel : decode code 928 = .ok (.iaload, 1))) (
   sndLC (LSnd.of (sd_aload_n (hi := rfl) (hd := (by decide +kernel : decode code 932 = .ok (.aload_n 2, 1))))) (
   sndLC (LSnd.of (sd_aload_n (hi := rfl) (hd := (by decide +kernel : decode code 933 = .ok (.aload_n 0, 1))))) (
   sndLC (LSnd.of (sd_iload_n (hi := rfl) (hd := (by decide +kernel : decode code 934 = .ok (.iload_n 3, 1))))) (
   sndLC (LSnd.of (sd_iconst (hd := (by decide +kernel : decode code 935 = .ok (.iconst 1, 1))) (hv := by decide))) (
   sndLC (LSnd.of (sd_iadd (hd := (by decide +kernel : decode code 936 = .ok (.iadd, 1))))) (
   sndLC (sd_sld (by decide +kernel : decode code 937 = .ok (.iaload, 1))) (
   sndLC (LSnd.of (sd_aload_n (hi := rfl) (hd := (by decide +kernel : decode code 938 = .ok (.aload_n 0, 1))))) (
   sndLC (LSnd.of (sd_iload_n (hi := rfl) (hd := (by decide +kernel : decode code 939 = .ok (.iload_n 3, 1))))) (
   sndLC (LSnd.of (sd_iconst (hd := (by decide +kernel : decode code 940 = .ok (.iconst 2, 1))) (hv := by decide))) (
   sndLC (LSnd.of (sd_iadd (hd := (by decide +kernel : decode code 941 = .ok (.iadd, 1))))) (
   sndLC (sd_sld (by decide +kernel : decode code 942 = .ok (.iaload, 1))) (
   sndLC (LSnd.of (sd_cmp_eq (ht := by decide) (hd := (by decide +kernel : decode code 946 = .ok (.if_icmp .eq 5, 3))))) (
   sndLC (LSnd.of (sd_iconst (hd := (by decide +kernel : decode code 949 = .ok (.iconst 0, 1))) (hv := by decide))) (
   sndLN))))))))))))))))))))))))
theorem kL_law_4 {L : Nat} {xs : Nat → Int32} : CallAt (mL_h L xs) 4 2 mX10_init 0 := ⟨by decide +kernel, ⟨_, (by decide +kernel : decode code 4 = .ok (.invokespecial 9, 3)), w_141, w_142, rfl, rfl⟩⟩
theorem kL_law_12 {L : Nat} {xs : Nat → Int32} : CallAt (mL_h L xs) 12 2 mX11_init 0 := ⟨by decide +kernel, ⟨_, (by decide +kernel : decode code 12 = .ok (.invokespecial 12, 3)), w_1007, w_1008, rfl, rfl⟩⟩
theorem kL_law_168 {L : Nat} {xs : Nat → Int32} : CallAt (mL_0 L xs) 168 0 mX10_set 3 := ⟨by decide +kernel, ⟨_, (by decide +kernel : decode code 168 = .ok (.invokevirtual 13, 3)), w_566, w_567, w_568⟩⟩
theorem kL_law_187 {L : Nat} {xs : Nat → Int32} : CallAt (mL_0 L xs) 187 0 mX11_set 3 := ⟨by decide +kernel, ⟨_, (by decide +kernel : decode code 187 = .ok (.invokevirtual 17, 3)), w_1139, w_1140, w_1141⟩⟩
theorem kL_law_211 {L : Nat} {xs : Nat → Int32} : CallAt (mL_1 L xs) 211 0 mX10_witness 3 := ⟨by decide +kernel, ⟨_, (by decide +kernel : decode code 211 = .ok (.invokevirtual 18, 3)), w_593, w_594, w_595⟩⟩
theorem kL_law_230 {L : Nat} {xs : Nat → Int32} : CallAt (mL_1 L xs) 230 0 mX11_witness 3 := ⟨by decide +kernel, ⟨_, (by decide +kernel : decode code 230 = .ok (.invokevirtual 21, 3)), w_1385, w_1386, w_1387⟩⟩
theorem kL_law_249 {L : Nat} {xs : Nat → Int32} : CallAt (mL_2 L xs) 249 0 mX10_told 2 := ⟨by decide +kernel, ⟨_, (by decide +kernel : decode code 249 = .ok (.invokevirtual 22, 3)), w_604, w_605, w_606⟩⟩
theorem kL_law_263 {L : Nat} {xs : Nat → Int32} : CallAt (mL_2 L xs) 263 0 mX11_told 2 := ⟨by decide +kernel, ⟨_, (by decide +kernel : decode code 263 = .ok (.invokevirtual 26, 3)), w_1391, w_1163, w_1164⟩⟩
theorem kL_law_277 {L : Nat} {xs : Nat → Int32} : CallAt (mL_3 L xs) 277 0 mX10_feed 1 := ⟨by decide +kernel, ⟨_, (by decide +kernel : decode code 277 = .ok (.invokevirtual 27, 3)), w_663, w_664, w_665⟩⟩
theorem kL_law_286 {L : Nat} {xs : Nat → Int32} : CallAt (mL_3 L xs) 286 0 mX11_feed 1 := ⟨by decide +kernel, ⟨_, (by decide +kernel : decode code 286 = .ok (.invokevirtual 31, 3)), w_1392, w_1393, w_1394⟩⟩
theorem kL_law_295 {L : Nat} {xs : Nat → Int32} : CallAt (mL_4 L xs) 295 0 mX10_text 0 := ⟨by decide +kernel, ⟨_, (by decide +kernel : decode code 295 = .ok (.invokevirtual 32, 3)), w_667, w_668, w_669⟩⟩
theorem kL_law_299 {L : Nat} {xs : Nat → Int32} : CallAt (mL_4 L xs) 299 0 mX11_text 0 := ⟨by decide +kernel, ⟨_, (by decide +kernel : decode code 299 = .ok (.invokevirtual 36, 3)), w_1397, w_1398, w_1399⟩⟩
theorem kL_law_313 {L : Nat} {xs : Nat → Int32} : CallAt (mL_5 L xs) 313 0 mX10_force 1 := ⟨by decide +kernel, ⟨_, (by decide +kernel : decode code 313 = .ok (.invokevirtual 37, 3)), w_671, w_672, w_673⟩⟩
theorem kL_law_322 {L : Nat} {xs : Nat → Int32} : CallAt (mL_5 L xs) 322 0 mX11_force 1 := ⟨by decide +kernel, ⟨_, (by decide +kernel : decode code 322 = .ok (.invokevirtual 40, 3)), w_1401, w_1402, w_1403⟩⟩
theorem kL_law_336 {L : Nat} {xs : Nat → Int32} : CallAt (mL_6 L xs) 336 0 mX10_all 1 := ⟨by decide +kernel, ⟨_, (by decide +kernel : decode code 336 = .ok (.invokevirtual 41, 3)), w_679, w_680, w_681⟩⟩
theorem kL_law_345 {L : Nat} {xs : Nat → Int32} : CallAt (mL_6 L xs) 345 0 mX11_all 1 := ⟨by decide +kernel, ⟨_, (by decide +kernel : decode code 345 = .ok (.invokevirtual 44, 3)), w_1405, w_1406, w_1407⟩⟩
theorem kL_law_359 {L : Nat} {xs : Nat → Int32} : CallAt (mL_7 L xs) 359 0 mX10_canBe 1 := ⟨by decide +kernel, ⟨_, (by decide +kernel : decode code 359 = .ok (.invokevirtual 45, 3)), w_773, w_774, w_775⟩⟩
theorem kL_law_368 {L : Nat} {xs : Nat → Int32} : CallAt (mL_7 L xs) 368 0 mX11_canBe 1 := ⟨by decide +kernel, ⟨_, (by decide +kernel : decode code 368 = .ok (.invokevirtual 48, 3)), w_1463, w_1464, w_1465⟩⟩
theorem kL_law_382 {L : Nat} {xs : Nat → Int32} : CallAt (mL_8 L xs) 382 0 mX10_fit 1 := ⟨by decide +kernel, ⟨_, (by decide +kernel : decode code 382 = .ok (.invokevirtual 49, 3)), w_781, w_782, w_783⟩⟩
theorem kL_law_391 {L : Nat} {xs : Nat → Int32} : CallAt (mL_8 L xs) 391 0 mX11_fit 1 := ⟨by decide +kernel, ⟨_, (by decide +kernel : decode code 391 = .ok (.invokevirtual 52, 3)), w_1467, w_1468, w_1469⟩⟩
theorem kL_law_410 {L : Nat} {xs : Nat → Int32} : CallAt (mL_9 L xs) 410 0 mX10_life 2 := ⟨by decide +kernel, ⟨_, (by decide +kernel : decode code 410 = .ok (.invokevirtual 53, 3)), w_789, w_790, w_791⟩⟩
theorem kL_law_424 {L : Nat} {xs : Nat → Int32} : CallAt (mL_9 L xs) 424 0 mX11_life 2 := ⟨by decide +kernel, ⟨_, (by decide +kernel : decode code 424 = .ok (.invokevirtual 56, 3)), w_1474, w_1475, w_1476⟩⟩
theorem kL_law_438 {L : Nat} {xs : Nat → Int32} : CallAt (mL_10 L xs) 438 0 mX10_next 1 := ⟨by decide +kernel, ⟨_, (by decide +kernel : decode code 438 = .ok (.invokevirtual 57, 3)), w_817, w_818, w_819⟩⟩
theorem kL_law_447 {L : Nat} {xs : Nat → Int32} : CallAt (mL_10 L xs) 447 0 mX11_next 1 := ⟨by decide +kernel, ⟨_, (by decide +kernel : decode code 447 = .ok (.invokevirtual 60, 3)), w_1478, w_1479, w_1480⟩⟩
theorem kL_law_461 {L : Nat} {xs : Nat → Int32} : CallAt (mL_11 L xs) 461 0 mX10_safest 1 := ⟨by decide +kernel, ⟨_, (by decide +kernel : decode code 461 = .ok (.invokevirtual 61, 3)), w_853, w_854, w_855⟩⟩
theorem kL_law_470 {L : Nat} {xs : Nat → Int32} : CallAt (mL_11 L xs) 470 0 mX11_safest 1 := ⟨by decide +kernel, ⟨_, (by decide +kernel : decode code 470 = .ok (.invokevirtual 64, 3)), w_1482, w_1483, w_1484⟩⟩
theorem kL_law_484 {L : Nat} {xs : Nat → Int32} : CallAt (mL_12 L xs) 484 0 mX10_fewest 1 := ⟨by decide +kernel, ⟨_, (by decide +kernel : decode code 484 = .ok (.invokevirtual 65, 3)), w_857, w_858, w_859⟩⟩
theorem kL_law_493 {L : Nat} {xs : Nat → Int32} : CallAt (mL_12 L xs) 493 0 mX11_fewest 1 := ⟨by decide +kernel, ⟨_, (by decide +kernel : decode code 493 = .ok (.invokevirtual 68, 3)), w_1498, w_1499, w_1500⟩⟩
theorem kL_law_502 {L : Nat} {xs : Nat → Int32} : CallAt (mL_13 L xs) 502 0 mX10_wrong 0 := ⟨by decide +kernel, ⟨_, (by decide +kernel : decode code 502 = .ok (.invokevirtual 69, 3)), w_865, w_866, w_867⟩⟩
theorem kL_law_506 {L : Nat} {xs : Nat → Int32} : CallAt (mL_13 L xs) 506 0 mX11_wrong 0 := ⟨by decide +kernel, ⟨_, (by decide +kernel : decode code 506 = .ok (.invokevirtual 72, 3)), w_1502, w_1503, w_1504⟩⟩
theorem kL_law_530 {L : Nat} {xs : Nat → Int32} : CallAt (mL_14 L xs) 530 0 mX10_tells 3 := ⟨by decide +kernel, ⟨_, (by decide +kernel : decode code 530 = .ok (.invokevirtual 73, 3)), w_873, w_874, w_875⟩⟩
theorem kL_law_549 {L : Nat} {xs : Nat → Int32} : CallAt (mL_14 L xs) 549 0 mX11_tells 3 := ⟨by decide +kernel, ⟨_, (by decide +kernel : decode code 549 = .ok (.invokevirtual 76, 3)), w_1507, w_1508, w_1509⟩⟩
theorem kL_law_568 {L : Nat} {xs : Nat → Int32} : CallAt (mL_15 L xs) 568 0 mX10_film 2 := ⟨by decide +kernel, ⟨_, (by decide +kernel : decode code 568 = .ok (.invokevirtual 77, 3)), w_915, w_916, w_917⟩⟩
theorem kL_law_582 {L : Nat} {xs : Nat → Int32} : CallAt (mL_15 L xs) 582 0 mX11_film 2 := ⟨by decide +kernel, ⟨_, (by decide +kernel : decode code 582 = .ok (.invokevirtual 80, 3)), w_1523, w_1524, w_1525⟩⟩
theorem kL_law_596 {L : Nat} {xs : Nat → Int32} : CallAt (mL_16 L xs) 596 0 mX10_drawn 1 := ⟨by decide +kernel, ⟨_, (by decide +kernel : decode code 596 = .ok (.invokevirtual 81, 3)), w_929, w_930, w_931⟩⟩
theorem kL_law_605 {L : Nat} {xs : Nat → Int32} : CallAt (mL_16 L xs) 605 0 mX11_drawn 1 := ⟨by decide +kernel, ⟨_, (by decide +kernel : decode code 605 = .ok (.invokevirtual 84, 3)), w_1533, w_1534, w_1535⟩⟩
theorem kL_law_634 {L : Nat} {xs : Nat → Int32} : CallAt (mL_17 L xs) 634 0 mX10_chance 4 := ⟨by decide +kernel, ⟨_, (by decide +kernel : decode code 634 = .ok (.invokevirtual 85, 3)), w_938, w_939, w_940⟩⟩
theorem kL_law_658 {L : Nat} {xs : Nat → Int32} : CallAt (mL_17 L xs) 658 0 mX11_chance 4 := ⟨by decide +kernel, ⟨_, (by decide +kernel : decode code 658 = .ok (.invokevirtual 89, 3)), w_1546, w_1547, w_1548⟩⟩
theorem kL_law_668 {L : Nat} {xs : Nat → Int32} : CallAt (mL_18 L xs) 668 0 mX10_image 0 := ⟨by decide +kernel, ⟨_, (by decide +kernel : decode code 668 = .ok (.invokevirtual 90, 3)), w_946, w_947, w_948⟩⟩
theorem kL_law_672 {L : Nat} {xs : Nat → Int32} : CallAt (mL_18 L xs) 672 0 mX11_image 0 := ⟨by decide +kernel, ⟨_, (by decide +kernel : decode code 672 = .ok (.invokevirtual 93, 3)), w_1552, w_1553, w_1554⟩⟩
theorem kL_law_681 {L : Nat} {xs : Nat → Int32} : CallAt (mL_19 L xs) 681 0 mX10_back 0 := ⟨by decide +kernel, ⟨_, (by decide +kernel : decode code 681 = .ok (.invokevirtual 94, 3)), w_956, w_957, w_958⟩⟩
theorem kL_law_685 {L : Nat} {xs : Nat → Int32} : CallAt (mL_19 L xs) 685 0 mX11_back 0 := ⟨by decide +kernel, ⟨_, (by decide +kernel : decode code 685 = .ok (.invokevirtual 97, 3)), w_1556, w_1557, w_1558⟩⟩
theorem kL_law_699 {L : Nat} {xs : Nat → Int32} : CallAt (mL_20 L xs) 699 0 mX10_count 1 := ⟨by decide +kernel, ⟨_, (by decide +kernel : decode code 699 = .ok (.invokevirtual 98, 3)), w_965, w_966, w_967⟩⟩
theorem kL_law_708 {L : Nat} {xs : Nat → Int32} : CallAt (mL_20 L xs) 708 0 mX11_count 1 := ⟨by decide +kernel, ⟨_, (by decide +kernel : decode code 708 = .ok (.invokevirtual 101, 3)), w_1560, w_1561, w_1562⟩⟩
theorem kL_law_732 {L : Nat} {xs : Nat → Int32} : CallAt (mL_21 L xs) 732 0 mX10_sheet 3 := ⟨by decide +kernel, ⟨_, (by decide +kernel : decode code 732 = .ok (.invokevirtual 102, 3)), w_969, w_970, w_971⟩⟩
theorem kL_law_751 {L : Nat} {xs : Nat → Int32} : CallAt (mL_21 L xs) 751 0 mX11_sheet 3 := ⟨by decide +kernel, ⟨_, (by decide +kernel : decode code 751 = .ok (.invokevirtual 105, 3)), w_1564, w_1528, w_1529⟩⟩
theorem kL_law_775 {L : Nat} {xs : Nat → Int32} : CallAt (mL_22 L xs) 775 0 mX10_cell 3 := ⟨by decide +kernel, ⟨_, (by decide +kernel : decode code 775 = .ok (.invokevirtual 106, 3)), w_973, w_974, w_975⟩⟩
theorem kL_law_794 {L : Nat} {xs : Nat → Int32} : CallAt (mL_22 L xs) 794 0 mX11_cell 3 := ⟨by decide +kernel, ⟨_, (by decide +kernel : decode code 794 = .ok (.invokevirtual 109, 3)), w_1565, w_1566, w_1567⟩⟩
theorem kL_law_828 {L : Nat} {xs : Nat → Int32} : CallAt (mL_23 L xs) 828 0 mX10_copy 5 := ⟨by decide +kernel, ⟨_, (by decide +kernel : decode code 828 = .ok (.invokevirtual 110, 3)), w_981, w_982, w_983⟩⟩
theorem kL_law_857 {L : Nat} {xs : Nat → Int32} : CallAt (mL_23 L xs) 857 0 mX11_copy 5 := ⟨by decide +kernel, ⟨_, (by decide +kernel : decode code 857 = .ok (.invokevirtual 114, 3)), w_1569, w_1570, w_1571⟩⟩
theorem kL_law_886 {L : Nat} {xs : Nat → Int32} : CallAt (mL_24 L xs) 886 0 mX10_witnesses 4 := ⟨by decide +kernel, ⟨_, (by decide +kernel : decode code 886 = .ok (.invokevirtual 115, 3)), w_990, w_991, w_992⟩⟩
theorem kL_law_910 {L : Nat} {xs : Nat → Int32} : CallAt (mL_24 L xs) 910 0 mX11_witnesses 4 := ⟨by decide +kernel, ⟨_, (by decide +kernel : decode code 910 = .ok (.invokevirtual 119, 3)), w_1573, w_1574, w_1575⟩⟩
theorem kL_law_929 {L : Nat} {xs : Nat → Int32} : CallAt (mL_25 L xs) 929 0 mX10_taken 2 := ⟨by decide +kernel, ⟨_, (by decide +kernel : decode code 929 = .ok (.invokevirtual 120, 3)), w_995, w_996, w_997⟩⟩
theorem kL_law_943 {L : Nat} {xs : Nat → Int32} : CallAt (mL_25 L xs) 943 0 mX11_taken 2 := ⟨by decide +kernel, ⟨_, (by decide +kernel : decode code 943 = .ok (.invokevirtual 123, 3)), w_1578, w_1579, w_1580⟩⟩
