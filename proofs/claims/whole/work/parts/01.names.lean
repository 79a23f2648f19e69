-- ===== PART A: goes FIRST, ahead of the names: the tables' words, and 'selects' of the private methods out of them =====
/-- a private method of a class that the tables say can be made, by its rows of tables_1 -/
def lw_okq (q : MethodName × Nat) : Prop := (q.1.cls ≠ "java/lang/invoke/MethodHandle" ∧ q.1.cls ≠ "java/lang/invoke/VarHandle") ∧ Cond.instantiable q.1.cls q.2 ∈ tables_1 ∧ Cond.privateMethod q.1 ∈ tables_1 ∧ Cond.instanceMethod q.1 ∈ tables_1
theorem lw_p0 : lw_okq (⟨"TowerFaces$Face", "slip", "()V"⟩, 7) := ⟨⟨by decide +kernel, by decide +kernel⟩, List.mem_of_getElem? (i := 47) (by decide +kernel), List.mem_of_getElem? (i := 289) (by decide +kernel), List.mem_of_getElem? (i := 290) (by decide +kernel)⟩
theorem lw_p1 : lw_okq (⟨"TowerFaces$Tower", "strainShaft", "()V"⟩, 7) := ⟨⟨by decide +kernel, by decide +kernel⟩, List.mem_of_getElem? (i := 19) (by decide +kernel), List.mem_of_getElem? (i := 297) (by decide +kernel), List.mem_of_getElem? (i := 298) (by decide +kernel)⟩
theorem lw_p2 : lw_okq (⟨"TowerFaces", "errorAfterOil", "(I)I"⟩, 6) := ⟨⟨by decide +kernel, by decide +kernel⟩, List.mem_of_getElem? (i := 11) (by decide +kernel), List.mem_of_getElem? (i := 434) (by decide +kernel), List.mem_of_getElem? (i := 435) (by decide +kernel)⟩
theorem lw_p3 : lw_okq (⟨"TowerFaces$WorkText", "readFace", "()Z"⟩, 7) := ⟨⟨by decide +kernel, by decide +kernel⟩, List.mem_of_getElem? (i := 142) (by decide +kernel), List.mem_of_getElem? (i := 470) (by decide +kernel), List.mem_of_getElem? (i := 471) (by decide +kernel)⟩
theorem lw_p4 : lw_okq (⟨"TowerFaces$WorkText", "readDigit", "(II)I"⟩, 7) := ⟨⟨by decide +kernel, by decide +kernel⟩, List.mem_of_getElem? (i := 142) (by decide +kernel), List.mem_of_getElem? (i := 474) (by decide +kernel), List.mem_of_getElem? (i := 475) (by decide +kernel)⟩
theorem lw_p5 : lw_okq (⟨"TowerFaces$WorkText", "readClock", "()Z"⟩, 7) := ⟨⟨by decide +kernel, by decide +kernel⟩, List.mem_of_getElem? (i := 142) (by decide +kernel), List.mem_of_getElem? (i := 479) (by decide +kernel), List.mem_of_getElem? (i := 480) (by decide +kernel)⟩
theorem lw_p6 : lw_okq (⟨"TowerFaces$WorkText", "readWrong", "()Z"⟩, 7) := ⟨⟨by decide +kernel, by decide +kernel⟩, List.mem_of_getElem? (i := 142) (by decide +kernel), List.mem_of_getElem? (i := 487) (by decide +kernel), List.mem_of_getElem? (i := 488) (by decide +kernel)⟩
theorem lw_p7 : lw_okq (⟨"TowerFaces$WorkText", "readNumber", "(II)Z"⟩, 7) := ⟨⟨by decide +kernel, by decide +kernel⟩, List.mem_of_getElem? (i := 142) (by decide +kernel), List.mem_of_getElem? (i := 491) (by decide +kernel), List.mem_of_getElem? (i := 492) (by decide +kernel)⟩
theorem lw_p8 : lw_okq (⟨"TowerFaces", "doWork", "()Z"⟩, 6) := ⟨⟨by decide +kernel, by decide +kernel⟩, List.mem_of_getElem? (i := 11) (by decide +kernel), List.mem_of_getElem? (i := 502) (by decide +kernel), List.mem_of_getElem? (i := 503) (by decide +kernel)⟩
theorem lw_p9 : lw_okq (⟨"TowerFaces", "workOnFace", "(LTowerFaces$Face;)Z"⟩, 6) := ⟨⟨by decide +kernel, by decide +kernel⟩, List.mem_of_getElem? (i := 11) (by decide +kernel), List.mem_of_getElem? (i := 506) (by decide +kernel), List.mem_of_getElem? (i := 507) (by decide +kernel)⟩
theorem lw_p10 : lw_okq (⟨"TowerFacesModel", "lays", "(III)V"⟩, 12) := ⟨⟨by decide +kernel, by decide +kernel⟩, List.mem_of_getElem? (i := 527) (by decide +kernel), List.mem_of_getElem? (i := 533) (by decide +kernel), List.mem_of_getElem? (i := 534) (by decide +kernel)⟩
theorem lw_p11 : lw_okq (⟨"TowerFacesModel", "record", "()V"⟩, 12) := ⟨⟨by decide +kernel, by decide +kernel⟩, List.mem_of_getElem? (i := 527) (by decide +kernel), List.mem_of_getElem? (i := 586) (by decide +kernel), List.mem_of_getElem? (i := 587) (by decide +kernel)⟩
theorem lw_p12 : lw_okq (⟨"TowerFacesModel", "of", "(II)I"⟩, 12) := ⟨⟨by decide +kernel, by decide +kernel⟩, List.mem_of_getElem? (i := 527) (by decide +kernel), List.mem_of_getElem? (i := 611) (by decide +kernel), List.mem_of_getElem? (i := 612) (by decide +kernel)⟩
theorem lw_p13 : lw_okq (⟨"TowerFacesModel", "oils", "(I)I"⟩, 12) := ⟨⟨by decide +kernel, by decide +kernel⟩, List.mem_of_getElem? (i := 527) (by decide +kernel), List.mem_of_getElem? (i := 619) (by decide +kernel), List.mem_of_getElem? (i := 620) (by decide +kernel)⟩
theorem lw_p14 : lw_okq (⟨"TowerFacesModel", "dials", "(II)I"⟩, 12) := ⟨⟨by decide +kernel, by decide +kernel⟩, List.mem_of_getElem? (i := 527) (by decide +kernel), List.mem_of_getElem? (i := 627) (by decide +kernel), List.mem_of_getElem? (i := 628) (by decide +kernel)⟩
theorem lw_p15 : lw_okq (⟨"TowerFacesModel", "hangs", "(I)I"⟩, 12) := ⟨⟨by decide +kernel, by decide +kernel⟩, List.mem_of_getElem? (i := 527) (by decide +kernel), List.mem_of_getElem? (i := 638) (by decide +kernel), List.mem_of_getElem? (i := 639) (by decide +kernel)⟩
def lw_privs_1 : List (MethodName × Nat) := [(⟨"TowerFaces$Face", "slip", "()V"⟩, 7), (⟨"TowerFaces$Tower", "strainShaft", "()V"⟩, 7), (⟨"TowerFaces", "errorAfterOil", "(I)I"⟩, 6), (⟨"TowerFaces$WorkText", "readFace", "()Z"⟩, 7), (⟨"TowerFaces$WorkText", "readDigit", "(II)I"⟩, 7), (⟨"TowerFaces$WorkText", "readClock", "()Z"⟩, 7), (⟨"TowerFaces$WorkText", "readWrong", "()Z"⟩, 7), (⟨"TowerFaces$WorkText", "readNumber", "(II)Z"⟩, 7), (⟨"TowerFaces", "doWork", "()Z"⟩, 6), (⟨"TowerFaces", "workOnFace", "(LTowerFaces$Face;)Z"⟩, 6), (⟨"TowerFacesModel", "lays", "(III)V"⟩, 12), (⟨"TowerFacesModel", "record", "()V"⟩, 12), (⟨"TowerFacesModel", "of", "(II)I"⟩, 12), (⟨"TowerFacesModel", "oils", "(I)I"⟩, 12), (⟨"TowerFacesModel", "dials", "(II)I"⟩, 12), (⟨"TowerFacesModel", "hangs", "(I)I"⟩, 12)]
theorem lw_r1 : ∀ q ∈ lw_privs_1, lw_okq q := List.forall_mem_cons.mpr ⟨lw_p0, List.forall_mem_cons.mpr ⟨lw_p1, List.forall_mem_cons.mpr ⟨lw_p2, List.forall_mem_cons.mpr ⟨lw_p3, List.forall_mem_cons.mpr ⟨lw_p4, List.forall_mem_cons.mpr ⟨lw_p5, List.forall_mem_cons.mpr ⟨lw_p6, List.forall_mem_cons.mpr ⟨lw_p7, List.forall_mem_cons.mpr ⟨lw_p8, List.forall_mem_cons.mpr ⟨lw_p9, List.forall_mem_cons.mpr ⟨lw_p10, List.forall_mem_cons.mpr ⟨lw_p11, List.forall_mem_cons.mpr ⟨lw_p12, List.forall_mem_cons.mpr ⟨lw_p13, List.forall_mem_cons.mpr ⟨lw_p14, List.forall_mem_cons.mpr ⟨lw_p15, fun _ h => absurd h List.not_mem_nil⟩⟩⟩⟩⟩⟩⟩⟩⟩⟩⟩⟩⟩⟩⟩⟩
theorem lw_p16 : lw_okq (⟨"TowerFacesModel", "whyNotPass", "(I)I"⟩, 12) := ⟨⟨by decide +kernel, by decide +kernel⟩, List.mem_of_getElem? (i := 527) (by decide +kernel), List.mem_of_getElem? (i := 646) (by decide +kernel), List.mem_of_getElem? (i := 647) (by decide +kernel)⟩
theorem lw_p17 : lw_okq (⟨"TowerFacesModel", "passes", "(I)I"⟩, 12) := ⟨⟨by decide +kernel, by decide +kernel⟩, List.mem_of_getElem? (i := 527) (by decide +kernel), List.mem_of_getElem? (i := 651) (by decide +kernel), List.mem_of_getElem? (i := 652) (by decide +kernel)⟩
theorem lw_p18 : lw_okq (⟨"TowerFacesModel", "minute", "()I"⟩, 12) := ⟨⟨by decide +kernel, by decide +kernel⟩, List.mem_of_getElem? (i := 527) (by decide +kernel), List.mem_of_getElem? (i := 655) (by decide +kernel), List.mem_of_getElem? (i := 656) (by decide +kernel)⟩
theorem lw_p19 : lw_okq (⟨"TowerFacesModel", "turns", "(I)I"⟩, 12) := ⟨⟨by decide +kernel, by decide +kernel⟩, List.mem_of_getElem? (i := 527) (by decide +kernel), List.mem_of_getElem? (i := 659) (by decide +kernel), List.mem_of_getElem? (i := 660) (by decide +kernel)⟩
theorem lw_p20 : lw_okq (⟨"TowerFacesModel", "minuteOfDay", "()I"⟩, 12) := ⟨⟨by decide +kernel, by decide +kernel⟩, List.mem_of_getElem? (i := 527) (by decide +kernel), List.mem_of_getElem? (i := 666) (by decide +kernel), List.mem_of_getElem? (i := 667) (by decide +kernel)⟩
theorem lw_p21 : lw_okq (⟨"TowerFacesModel", "resets", "()I"⟩, 12) := ⟨⟨by decide +kernel, by decide +kernel⟩, List.mem_of_getElem? (i := 527) (by decide +kernel), List.mem_of_getElem? (i := 670) (by decide +kernel), List.mem_of_getElem? (i := 671) (by decide +kernel)⟩
theorem lw_p22 : lw_okq (⟨"TowerFacesModel", "onWatch", "(I)I"⟩, 12) := ⟨⟨by decide +kernel, by decide +kernel⟩, List.mem_of_getElem? (i := 527) (by decide +kernel), List.mem_of_getElem? (i := 674) (by decide +kernel), List.mem_of_getElem? (i := 675) (by decide +kernel)⟩
theorem lw_p23 : lw_okq (⟨"TowerFacesModel", "since", "(II)I"⟩, 12) := ⟨⟨by decide +kernel, by decide +kernel⟩, List.mem_of_getElem? (i := 527) (by decide +kernel), List.mem_of_getElem? (i := 678) (by decide +kernel), List.mem_of_getElem? (i := 679) (by decide +kernel)⟩
theorem lw_p24 : lw_okq (⟨"TowerFacesModel", "startOf", "(I)I"⟩, 12) := ⟨⟨by decide +kernel, by decide +kernel⟩, List.mem_of_getElem? (i := 527) (by decide +kernel), List.mem_of_getElem? (i := 682) (by decide +kernel), List.mem_of_getElem? (i := 683) (by decide +kernel)⟩
theorem lw_p25 : lw_okq (⟨"TowerFacesModel", "timeOf", "(I)I"⟩, 12) := ⟨⟨by decide +kernel, by decide +kernel⟩, List.mem_of_getElem? (i := 527) (by decide +kernel), List.mem_of_getElem? (i := 686) (by decide +kernel), List.mem_of_getElem? (i := 687) (by decide +kernel)⟩
theorem lw_p26 : lw_okq (⟨"TowerFacesModel", "wrongOf", "(I)I"⟩, 12) := ⟨⟨by decide +kernel, by decide +kernel⟩, List.mem_of_getElem? (i := 527) (by decide +kernel), List.mem_of_getElem? (i := 690) (by decide +kernel), List.mem_of_getElem? (i := 691) (by decide +kernel)⟩
theorem lw_p27 : lw_okq (⟨"TowerFacesModel", "whyNotHire", "(II)I"⟩, 12) := ⟨⟨by decide +kernel, by decide +kernel⟩, List.mem_of_getElem? (i := 527) (by decide +kernel), List.mem_of_getElem? (i := 698) (by decide +kernel), List.mem_of_getElem? (i := 699) (by decide +kernel)⟩
theorem lw_p28 : lw_okq (⟨"TowerFacesModel", "keeperBy", "(I)I"⟩, 12) := ⟨⟨by decide +kernel, by decide +kernel⟩, List.mem_of_getElem? (i := 527) (by decide +kernel), List.mem_of_getElem? (i := 702) (by decide +kernel), List.mem_of_getElem? (i := 703) (by decide +kernel)⟩
theorem lw_p29 : lw_okq (⟨"TowerFacesModel", "hires", "(II)I"⟩, 12) := ⟨⟨by decide +kernel, by decide +kernel⟩, List.mem_of_getElem? (i := 527) (by decide +kernel), List.mem_of_getElem? (i := 706) (by decide +kernel), List.mem_of_getElem? (i := 707) (by decide +kernel)⟩
theorem lw_p30 : lw_okq (⟨"TowerFacesModel", "sum", "(I)I"⟩, 12) := ⟨⟨by decide +kernel, by decide +kernel⟩, List.mem_of_getElem? (i := 527) (by decide +kernel), List.mem_of_getElem? (i := 734) (by decide +kernel), List.mem_of_getElem? (i := 735) (by decide +kernel)⟩
theorem lw_p31 : lw_okq (⟨"TowerFacesModel", "spread", "()I"⟩, 12) := ⟨⟨by decide +kernel, by decide +kernel⟩, List.mem_of_getElem? (i := 527) (by decide +kernel), List.mem_of_getElem? (i := 738) (by decide +kernel), List.mem_of_getElem? (i := 739) (by decide +kernel)⟩
def lw_privs_2 : List (MethodName × Nat) := [(⟨"TowerFacesModel", "whyNotPass", "(I)I"⟩, 12), (⟨"TowerFacesModel", "passes", "(I)I"⟩, 12), (⟨"TowerFacesModel", "minute", "()I"⟩, 12), (⟨"TowerFacesModel", "turns", "(I)I"⟩, 12), (⟨"TowerFacesModel", "minuteOfDay", "()I"⟩, 12), (⟨"TowerFacesModel", "resets", "()I"⟩, 12), (⟨"TowerFacesModel", "onWatch", "(I)I"⟩, 12), (⟨"TowerFacesModel", "since", "(II)I"⟩, 12), (⟨"TowerFacesModel", "startOf", "(I)I"⟩, 12), (⟨"TowerFacesModel", "timeOf", "(I)I"⟩, 12), (⟨"TowerFacesModel", "wrongOf", "(I)I"⟩, 12), (⟨"TowerFacesModel", "whyNotHire", "(II)I"⟩, 12), (⟨"TowerFacesModel", "keeperBy", "(I)I"⟩, 12), (⟨"TowerFacesModel", "hires", "(II)I"⟩, 12), (⟨"TowerFacesModel", "sum", "(I)I"⟩, 12), (⟨"TowerFacesModel", "spread", "()I"⟩, 12)]
theorem lw_r2 : ∀ q ∈ lw_privs_2, lw_okq q := List.forall_mem_cons.mpr ⟨lw_p16, List.forall_mem_cons.mpr ⟨lw_p17, List.forall_mem_cons.mpr ⟨lw_p18, List.forall_mem_cons.mpr ⟨lw_p19, List.forall_mem_cons.mpr ⟨lw_p20, List.forall_mem_cons.mpr ⟨lw_p21, List.forall_mem_cons.mpr ⟨lw_p22, List.forall_mem_cons.mpr ⟨lw_p23, List.forall_mem_cons.mpr ⟨lw_p24, List.forall_mem_cons.mpr ⟨lw_p25, List.forall_mem_cons.mpr ⟨lw_p26, List.forall_mem_cons.mpr ⟨lw_p27, List.forall_mem_cons.mpr ⟨lw_p28, List.forall_mem_cons.mpr ⟨lw_p29, List.forall_mem_cons.mpr ⟨lw_p30, List.forall_mem_cons.mpr ⟨lw_p31, fun _ h => absurd h List.not_mem_nil⟩⟩⟩⟩⟩⟩⟩⟩⟩⟩⟩⟩⟩⟩⟩⟩
theorem lw_p32 : lw_okq (⟨"TowerFacesModel", "putAside", "()V"⟩, 12) := ⟨⟨by decide +kernel, by decide +kernel⟩, List.mem_of_getElem? (i := 527) (by decide +kernel), List.mem_of_getElem? (i := 754) (by decide +kernel), List.mem_of_getElem? (i := 755) (by decide +kernel)⟩
theorem lw_p33 : lw_okq (⟨"TowerFacesModel", "takeBack", "()V"⟩, 12) := ⟨⟨by decide +kernel, by decide +kernel⟩, List.mem_of_getElem? (i := 527) (by decide +kernel), List.mem_of_getElem? (i := 758) (by decide +kernel), List.mem_of_getElem? (i := 759) (by decide +kernel)⟩
theorem lw_p34 : lw_okq (⟨"TowerFacesModel", "readWork", "()V"⟩, 12) := ⟨⟨by decide +kernel, by decide +kernel⟩, List.mem_of_getElem? (i := 527) (by decide +kernel), List.mem_of_getElem? (i := 782) (by decide +kernel), List.mem_of_getElem? (i := 783) (by decide +kernel)⟩
theorem lw_p35 : lw_okq (⟨"TowerFacesModel", "letter", "()I"⟩, 12) := ⟨⟨by decide +kernel, by decide +kernel⟩, List.mem_of_getElem? (i := 527) (by decide +kernel), List.mem_of_getElem? (i := 786) (by decide +kernel), List.mem_of_getElem? (i := 787) (by decide +kernel)⟩
theorem lw_p36 : lw_okq (⟨"TowerFacesModel", "wants", "(Z)V"⟩, 12) := ⟨⟨by decide +kernel, by decide +kernel⟩, List.mem_of_getElem? (i := 527) (by decide +kernel), List.mem_of_getElem? (i := 790) (by decide +kernel), List.mem_of_getElem? (i := 791) (by decide +kernel)⟩
theorem lw_p37 : lw_okq (⟨"TowerFacesModel", "figure", "(I)I"⟩, 12) := ⟨⟨by decide +kernel, by decide +kernel⟩, List.mem_of_getElem? (i := 527) (by decide +kernel), List.mem_of_getElem? (i := 794) (by decide +kernel), List.mem_of_getElem? (i := 795) (by decide +kernel)⟩
theorem lw_p38 : lw_okq (⟨"TowerFacesModel", "clock", "()I"⟩, 12) := ⟨⟨by decide +kernel, by decide +kernel⟩, List.mem_of_getElem? (i := 527) (by decide +kernel), List.mem_of_getElem? (i := 798) (by decide +kernel), List.mem_of_getElem? (i := 799) (by decide +kernel)⟩
theorem lw_p39 : lw_okq (⟨"TowerFacesModel", "number", "(II)I"⟩, 12) := ⟨⟨by decide +kernel, by decide +kernel⟩, List.mem_of_getElem? (i := 527) (by decide +kernel), List.mem_of_getElem? (i := 802) (by decide +kernel), List.mem_of_getElem? (i := 803) (by decide +kernel)⟩
theorem lw_p40 : lw_okq (⟨"TowerFacesModel", "doOne", "(I)I"⟩, 12) := ⟨⟨by decide +kernel, by decide +kernel⟩, List.mem_of_getElem? (i := 527) (by decide +kernel), List.mem_of_getElem? (i := 811) (by decide +kernel), List.mem_of_getElem? (i := 812) (by decide +kernel)⟩
def lw_privs_3 : List (MethodName × Nat) := [(⟨"TowerFacesModel", "putAside", "()V"⟩, 12), (⟨"TowerFacesModel", "takeBack", "()V"⟩, 12), (⟨"TowerFacesModel", "readWork", "()V"⟩, 12), (⟨"TowerFacesModel", "letter", "()I"⟩, 12), (⟨"TowerFacesModel", "wants", "(Z)V"⟩, 12), (⟨"TowerFacesModel", "figure", "(I)I"⟩, 12), (⟨"TowerFacesModel", "clock", "()I"⟩, 12), (⟨"TowerFacesModel", "number", "(II)I"⟩, 12), (⟨"TowerFacesModel", "doOne", "(I)I"⟩, 12)]
theorem lw_r3 : ∀ q ∈ lw_privs_3, lw_okq q := List.forall_mem_cons.mpr ⟨lw_p32, List.forall_mem_cons.mpr ⟨lw_p33, List.forall_mem_cons.mpr ⟨lw_p34, List.forall_mem_cons.mpr ⟨lw_p35, List.forall_mem_cons.mpr ⟨lw_p36, List.forall_mem_cons.mpr ⟨lw_p37, List.forall_mem_cons.mpr ⟨lw_p38, List.forall_mem_cons.mpr ⟨lw_p39, List.forall_mem_cons.mpr ⟨lw_p40, fun _ h => absurd h List.not_mem_nil⟩⟩⟩⟩⟩⟩⟩⟩⟩
def lw_privs : List (MethodName × Nat) := lw_privs_1 ++ (lw_privs_2 ++ (lw_privs_3))
def lw_tbl : List Cond := k2_sels lw_privs ++ tables_1
theorem lw_privs_ok : ∀ q ∈ lw_privs, lw_okq q := by
  show ∀ q ∈ lw_privs_1 ++ (lw_privs_2 ++ (lw_privs_3)), lw_okq q
  exact List.forall_mem_append.mpr ⟨lw_r1, List.forall_mem_append.mpr ⟨lw_r2, lw_r3⟩⟩

def RX0 : String := "TowerFaces$Face"
def TX0 : u_T := fun k => match k with
  | 0 => ("TowerFaces$Face", "dial", "I", false)
  | 1 => ("TowerFaces$Face", "teeth", "I", false)
  | 2 => ("TowerFaces$Face", "strain", "I", false)
  | 3 => ("TowerFaces$Face", "wear", "I", false)
  | 4 => ("TowerFaces$Face", "slips", "I", false)
  | 5 => ("TowerFaces$Face", "hasBell", "Z", false)
  | _ => ("TowerFaces$Face", "strikes", "I", false)
def tyX0 : Nat → FieldType := fun k => match k with
  | 0 => .int
  | 1 => .int
  | 2 => .int
  | 3 => .int
  | 4 => .int
  | 5 => .boolean
  | _ => .int
abbrev wsX00 : List Cond := u_ws RX0 TX0 7
theorem nmX0 : ∀ a, a < 7 → ∀ b, b < 7 → a ≠ b → (TX0 a).2.1 ≠ (TX0 b).2.1 := by decide +kernel
theorem tyX0_ok : ∀ k, k < 7 → parseFieldDescriptor (TX0 k).2.2.1 = some (tyX0 k) := by decide +kernel
abbrev cX0_init : ByteArray := prog_2_method_1_code
def yX0_init : MethodName := ⟨RX0, "<init>", "(I)V"⟩
abbrev cX0_copyFrom : ByteArray := prog_2_method_2_code
def yX0_copyFrom : MethodName := ⟨RX0, "copyFrom", "(LTowerFaces$Face;)V"⟩
abbrev cX0_takeOil : ByteArray := prog_2_method_3_code
def yX0_takeOil : MethodName := ⟨RX0, "takeOil", "()V"⟩
abbrev cX0_minutesToHour : ByteArray := prog_2_method_4_code
def yX0_minutesToHour : MethodName := ⟨RX0, "minutesToHour", "()I"⟩
abbrev cX0_passMinute : ByteArray := prog_2_method_5_code
def yX0_passMinute : MethodName := ⟨RX0, "passMinute", "(I)I"⟩
abbrev cX0_slip : ByteArray := prog_2_method_6_code
def yX0_slip : MethodName := ⟨RX0, "slip", "()V"⟩
abbrev cX0_goBack : ByteArray := prog_2_method_7_code
def yX0_goBack : MethodName := ⟨RX0, "goBack", "()V"⟩
def RX1 : String := "TowerFaces$History"
def TX1 : u_T := fun k => match k with
  | 0 => ("TowerFaces$History", "states", "[LTowerFaces$Tower;", true)
  | 1 => ("TowerFaces$History", "latest", "I", false)
  | _ => ("TowerFaces$History", "count", "I", false)
def tyX1 : Nat → FieldType := fun k => match k with
  | 0 => .array (.object "TowerFaces$Tower")
  | 1 => .int
  | _ => .int
abbrev wsX10 : List Cond := u_ws RX1 TX1 3
theorem nmX1 : ∀ a, a < 3 → ∀ b, b < 3 → a ≠ b → (TX1 a).2.1 ≠ (TX1 b).2.1 := by decide +kernel
theorem tyX1_ok : ∀ k, k < 3 → parseFieldDescriptor (TX1 k).2.2.1 = some (tyX1 k) := by decide +kernel
abbrev cX1_init : ByteArray := prog_3_method_1_code
def yX1_init : MethodName := ⟨RX1, "<init>", "()V"⟩
abbrev cX1_record : ByteArray := prog_3_method_2_code
def yX1_record : MethodName := ⟨RX1, "record", "(LTowerFaces$Tower;)V"⟩
abbrev cX1_takeBack : ByteArray := prog_3_method_3_code
def yX1_takeBack : MethodName := ⟨RX1, "takeBack", "(LTowerFaces$Tower;)V"⟩
def RX2 : String := "TowerFaces$Keepers"
def TX2 : u_T := fun k => match k with
  | 0 => ("TowerFaces$Keepers", "starts", "[I", true)
  | 1 => ("TowerFaces$Keepers", "wrongs", "[I", true)
  | _ => ("TowerFaces$Keepers", "count", "I", false)
def tyX2 : Nat → FieldType := fun k => match k with
  | 0 => .array .int
  | 1 => .array .int
  | _ => .int
abbrev wsX20 : List Cond := u_ws RX2 TX2 3
theorem nmX2 : ∀ a, a < 3 → ∀ b, b < 3 → a ≠ b → (TX2 a).2.1 ≠ (TX2 b).2.1 := by decide +kernel
theorem tyX2_ok : ∀ k, k < 3 → parseFieldDescriptor (TX2 k).2.2.1 = some (tyX2 k) := by decide +kernel
abbrev cX2_init : ByteArray := prog_4_method_1_code
def yX2_init : MethodName := ⟨RX2, "<init>", "()V"⟩
abbrev cX2_copyFrom : ByteArray := prog_4_method_2_code
def yX2_copyFrom : MethodName := ⟨RX2, "copyFrom", "(LTowerFaces$Keepers;)V"⟩
abbrev cX2_hasStart : ByteArray := prog_4_method_3_code
def yX2_hasStart : MethodName := ⟨RX2, "hasStart", "(I)Z"⟩
abbrev cX2_errorOfAdding : ByteArray := prog_4_method_4_code
def yX2_errorOfAdding : MethodName := ⟨RX2, "errorOfAdding", "(II)I"⟩
abbrev cX2_add : ByteArray := prog_4_method_5_code
def yX2_add : MethodName := ⟨RX2, "add", "(II)V"⟩
abbrev cX2_remove : ByteArray := prog_4_method_6_code
def yX2_remove : MethodName := ⟨RX2, "remove", "(I)I"⟩
abbrev cX2_placeAt : ByteArray := prog_4_method_7_code
def yX2_placeAt : MethodName := ⟨RX2, "placeAt", "(I)I"⟩
abbrev cX2_minutesToNext : ByteArray := prog_4_method_8_code
def yX2_minutesToNext : MethodName := ⟨RX2, "minutesToNext", "(I)I"⟩
def RX3 : String := "TowerFaces$Tower"
def TX3 : u_T := fun k => match k with
  | 0 => ("TowerFaces$Tower", "faces", "[LTowerFaces$Face;", true)
  | 1 => ("TowerFaces$Tower", "keepers", "LTowerFaces$Keepers;", true)
  | 2 => ("TowerFaces$Tower", "settings", "[I", true)
  | 3 => ("TowerFaces$Tower", "time", "I", false)
  | 4 => ("TowerFaces$Tower", "shaftStrain", "I", false)
  | 5 => ("TowerFaces$Tower", "shaftSlips", "I", false)
  | _ => ("TowerFaces$Tower", "facesSet", "I", false)
def tyX3 : Nat → FieldType := fun k => match k with
  | 0 => .array (.object "TowerFaces$Face")
  | 1 => .object "TowerFaces$Keepers"
  | 2 => .array .int
  | 3 => .int
  | 4 => .int
  | 5 => .int
  | _ => .int
abbrev wsX30 : List Cond := u_ws RX3 TX3 7
theorem nmX3 : ∀ a, a < 7 → ∀ b, b < 7 → a ≠ b → (TX3 a).2.1 ≠ (TX3 b).2.1 := by decide +kernel
theorem tyX3_ok : ∀ k, k < 7 → parseFieldDescriptor (TX3 k).2.2.1 = some (tyX3 k) := by decide +kernel
abbrev cX3_init : ByteArray := prog_5_method_1_code
def yX3_init : MethodName := ⟨RX3, "<init>", "()V"⟩
abbrev cX3_copyFrom : ByteArray := prog_5_method_2_code
def yX3_copyFrom : MethodName := ⟨RX3, "copyFrom", "(LTowerFaces$Tower;)V"⟩
abbrev cX3_faceAt : ByteArray := prog_5_method_3_code
def yX3_faceAt : MethodName := ⟨RX3, "faceAt", "(I)LTowerFaces$Face;"⟩
abbrev cX3_minuteOfDay : ByteArray := prog_5_method_4_code
def yX3_minuteOfDay : MethodName := ⟨RX3, "minuteOfDay", "()I"⟩
abbrev cX3_errorOfPassing : ByteArray := prog_5_method_5_code
def yX3_errorOfPassing : MethodName := ⟨RX3, "errorOfPassing", "(I)I"⟩
abbrev cX3_passMinutes : ByteArray := prog_5_method_6_code
def yX3_passMinutes : MethodName := ⟨RX3, "passMinutes", "(I)I"⟩
abbrev cX3_passMinute : ByteArray := prog_5_method_7_code
def yX3_passMinute : MethodName := ⟨RX3, "passMinute", "()I"⟩
abbrev cX3_strainShaft : ByteArray := prog_5_method_8_code
def yX3_strainShaft : MethodName := ⟨RX3, "strainShaft", "()V"⟩
abbrev cX3_timeOfKeeper : ByteArray := prog_5_method_9_code
def yX3_timeOfKeeper : MethodName := ⟨RX3, "timeOfKeeper", "()I"⟩
abbrev cX3_resetFaces : ByteArray := prog_5_method_10_code
def yX3_resetFaces : MethodName := ⟨RX3, "resetFaces", "()I"⟩
abbrev cX3_slipsOfGears : ByteArray := prog_5_method_11_code
def yX3_slipsOfGears : MethodName := ⟨RX3, "slipsOfGears", "()I"⟩
abbrev cX3_strikesOfBells : ByteArray := prog_5_method_12_code
def yX3_strikesOfBells : MethodName := ⟨RX3, "strikesOfBells", "()I"⟩
abbrev cX3_spread : ByteArray := prog_5_method_13_code
def yX3_spread : MethodName := ⟨RX3, "spread", "()I"⟩
abbrev cX3_distancesFromTime : ByteArray := prog_5_method_14_code
def yX3_distancesFromTime : MethodName := ⟨RX3, "distancesFromTime", "()I"⟩
abbrev cX3_facesWithDial : ByteArray := prog_5_method_15_code
def yX3_facesWithDial : MethodName := ⟨RX3, "facesWithDial", "(I)I"⟩
abbrev cX3_bells : ByteArray := prog_5_method_16_code
def yX3_bells : MethodName := ⟨RX3, "bells", "()I"⟩
abbrev cX3_faceOfBellInRound : ByteArray := prog_5_method_17_code
def yX3_faceOfBellInRound : MethodName := ⟨RX3, "faceOfBellInRound", "(I)I"⟩
def RX4 : String := "TowerFaces$WorkText"
def TX4 : u_T := fun k => match k with
  | 0 => ("TowerFaces$WorkText", "signs", "[C", true)
  | 1 => ("TowerFaces$WorkText", "length", "I", false)
  | 2 => ("TowerFaces$WorkText", "place", "I", false)
  | 3 => ("TowerFaces$WorkText", "kind", "I", false)
  | 4 => ("TowerFaces$WorkText", "face", "I", false)
  | 5 => ("TowerFaces$WorkText", "clock", "I", false)
  | _ => ("TowerFaces$WorkText", "number", "I", false)
def tyX4 : Nat → FieldType := fun k => match k with
  | 0 => .array .char
  | 1 => .int
  | 2 => .int
  | 3 => .int
  | 4 => .int
  | 5 => .int
  | _ => .int
abbrev wsX40 : List Cond := u_ws RX4 TX4 7
theorem nmX4 : ∀ a, a < 7 → ∀ b, b < 7 → a ≠ b → (TX4 a).2.1 ≠ (TX4 b).2.1 := by decide +kernel
theorem tyX4_ok : ∀ k, k < 7 → parseFieldDescriptor (TX4 k).2.2.1 = some (tyX4 k) := by decide +kernel
abbrev cX4_init : ByteArray := prog_6_method_1_code
def yX4_init : MethodName := ⟨RX4, "<init>", "()V"⟩
abbrev cX4_add : ByteArray := prog_6_method_2_code
def yX4_add : MethodName := ⟨RX4, "add", "(C)V"⟩
abbrev cX4_goToStart : ByteArray := prog_6_method_3_code
def yX4_goToStart : MethodName := ⟨RX4, "goToStart", "()V"⟩
abbrev cX4_firstError : ByteArray := prog_6_method_4_code
def yX4_firstError : MethodName := ⟨RX4, "firstError", "()I"⟩
abbrev cX4_readWork : ByteArray := prog_6_method_5_code
def yX4_readWork : MethodName := ⟨RX4, "readWork", "()Z"⟩
abbrev cX4_readSign : ByteArray := prog_6_method_6_code
def yX4_readSign : MethodName := ⟨RX4, "readSign", "(C)Z"⟩
abbrev cX4_readDigit : ByteArray := prog_6_method_7_code
def yX4_readDigit : MethodName := ⟨RX4, "readDigit", "(II)I"⟩
abbrev cX4_readFace : ByteArray := prog_6_method_8_code
def yX4_readFace : MethodName := ⟨RX4, "readFace", "()Z"⟩
abbrev cX4_readClock : ByteArray := prog_6_method_9_code
def yX4_readClock : MethodName := ⟨RX4, "readClock", "()Z"⟩
abbrev cX4_readWrong : ByteArray := prog_6_method_10_code
def yX4_readWrong : MethodName := ⟨RX4, "readWrong", "()Z"⟩
abbrev cX4_readNumber : ByteArray := prog_6_method_11_code
def yX4_readNumber : MethodName := ⟨RX4, "readNumber", "(II)Z"⟩
def RX5 : String := "TowerFaces"
def TX5 : u_T := fun k => match k with
  | 0 => ("TowerFaces", "tower", "LTowerFaces$Tower;", true)
  | 1 => ("TowerFaces", "trial", "LTowerFaces$Tower;", true)
  | 2 => ("TowerFaces", "saved", "LTowerFaces$Tower;", true)
  | 3 => ("TowerFaces", "isSaved", "Z", false)
  | 4 => ("TowerFaces", "history", "LTowerFaces$History;", true)
  | _ => ("TowerFaces", "text", "LTowerFaces$WorkText;", true)
def tyX5 : Nat → FieldType := fun k => match k with
  | 0 => .object "TowerFaces$Tower"
  | 1 => .object "TowerFaces$Tower"
  | 2 => .object "TowerFaces$Tower"
  | 3 => .boolean
  | 4 => .object "TowerFaces$History"
  | _ => .object "TowerFaces$WorkText"
abbrev wsX50 : List Cond := u_ws RX5 TX5 6
theorem nmX5 : ∀ a, a < 6 → ∀ b, b < 6 → a ≠ b → (TX5 a).2.1 ≠ (TX5 b).2.1 := by decide +kernel
theorem tyX5_ok : ∀ k, k < 6 → parseFieldDescriptor (TX5 k).2.2.1 = some (tyX5 k) := by decide +kernel
abbrev cX5_init : ByteArray := prog_1_method_1_code
def yX5_init : MethodName := ⟨RX5, "<init>", "()V"⟩
abbrev cX5_set : ByteArray := prog_1_method_2_code
def yX5_set : MethodName := ⟨RX5, "set", "(II)I"⟩
abbrev cX5_setting : ByteArray := prog_1_method_3_code
def yX5_setting : MethodName := ⟨RX5, "setting", "(I)I"⟩
abbrev cX5_gear : ByteArray := prog_1_method_4_code
def yX5_gear : MethodName := ⟨RX5, "gear", "(II)I"⟩
abbrev cX5_oil : ByteArray := prog_1_method_5_code
def yX5_oil : MethodName := ⟨RX5, "oil", "(I)I"⟩
abbrev cX5_dial : ByteArray := prog_1_method_6_code
def yX5_dial : MethodName := ⟨RX5, "dial", "(II)I"⟩
abbrev cX5_bell : ByteArray := prog_1_method_7_code
def yX5_bell : MethodName := ⟨RX5, "bell", "(I)I"⟩
abbrev cX5_pass : ByteArray := prog_1_method_8_code
def yX5_pass : MethodName := ⟨RX5, "pass", "(I)I"⟩
abbrev cX5_hire : ByteArray := prog_1_method_9_code
def yX5_hire : MethodName := ⟨RX5, "hire", "(II)I"⟩
abbrev cX5_dismiss : ByteArray := prog_1_method_10_code
def yX5_dismiss : MethodName := ⟨RX5, "dismiss", "(I)I"⟩
abbrev cX5_reset : ByteArray := prog_1_method_11_code
def yX5_reset : MethodName := ⟨RX5, "reset", "()I"⟩
abbrev cX5_keeper : ByteArray := prog_1_method_12_code
def yX5_keeper : MethodName := ⟨RX5, "keeper", "(II)I"⟩
abbrev cX5_keeperTime : ByteArray := prog_1_method_13_code
def yX5_keeperTime : MethodName := ⟨RX5, "keeperTime", "()I"⟩
abbrev cX5_face : ByteArray := prog_1_method_14_code
def yX5_face : MethodName := ⟨RX5, "face", "(II)I"⟩
abbrev cX5_total : ByteArray := prog_1_method_15_code
def yX5_total : MethodName := ⟨RX5, "total", "(I)I"⟩
abbrev cX5_majority : ByteArray := prog_1_method_16_code
def yX5_majority : MethodName := ⟨RX5, "majority", "()I"⟩
abbrev cX5_coming : ByteArray := prog_1_method_17_code
def yX5_coming : MethodName := ⟨RX5, "coming", "(II)I"⟩
abbrev cX5_spreadIn : ByteArray := prog_1_method_18_code
def yX5_spreadIn : MethodName := ⟨RX5, "spreadIn", "(I)I"⟩
abbrev cX5_minutesTo : ByteArray := prog_1_method_19_code
def yX5_minutesTo : MethodName := ⟨RX5, "minutesTo", "(I)I"⟩
abbrev cX5_bestOil : ByteArray := prog_1_method_20_code
def yX5_bestOil : MethodName := ⟨RX5, "bestOil", "()I"⟩
abbrev cX5_errorAfterOil : ByteArray := prog_1_method_21_code
def yX5_errorAfterOil : MethodName := ⟨RX5, "errorAfterOil", "(I)I"⟩
abbrev cX5_append : ByteArray := prog_1_method_22_code
def yX5_append : MethodName := ⟨RX5, "append", "(I)I"⟩
abbrev cX5_clearText : ByteArray := prog_1_method_23_code
def yX5_clearText : MethodName := ⟨RX5, "clearText", "()I"⟩
abbrev cX5_errorPosition : ByteArray := prog_1_method_24_code
def yX5_errorPosition : MethodName := ⟨RX5, "errorPosition", "()I"⟩
abbrev cX5_work : ByteArray := prog_1_method_25_code
def yX5_work : MethodName := ⟨RX5, "work", "()I"⟩
abbrev cX5_doWork : ByteArray := prog_1_method_26_code
def yX5_doWork : MethodName := ⟨RX5, "doWork", "()Z"⟩
abbrev cX5_workOnFace : ByteArray := prog_1_method_27_code
def yX5_workOnFace : MethodName := ⟨RX5, "workOnFace", "(LTowerFaces$Face;)Z"⟩
abbrev cX5_undo : ByteArray := prog_1_method_28_code
def yX5_undo : MethodName := ⟨RX5, "undo", "()I"⟩
abbrev cX5_save : ByteArray := prog_1_method_29_code
def yX5_save : MethodName := ⟨RX5, "save", "()I"⟩
abbrev cX5_restore : ByteArray := prog_1_method_30_code
def yX5_restore : MethodName := ⟨RX5, "restore", "()I"⟩
abbrev cX5_isWithin : ByteArray := prog_1_method_31_code
def yX5_isWithin : MethodName := ⟨RX5, "isWithin", "(III)Z"⟩
abbrev cX5_isSetting : ByteArray := prog_1_method_32_code
def yX5_isSetting : MethodName := ⟨RX5, "isSetting", "(I)Z"⟩
abbrev cX5_distance : ByteArray := prog_1_method_33_code
def yX5_distance : MethodName := ⟨RX5, "distance", "(II)I"⟩
abbrev cX5_strikesAt : ByteArray := prog_1_method_34_code
def yX5_strikesAt : MethodName := ⟨RX5, "strikesAt", "(I)I"⟩
def RX6 : String := "TowerFacesModel"
def TX6 : u_T := fun k => match k with
  | 0 => ("TowerFacesModel", "z", "[I", true)
  | 1 => ("TowerFacesModel", "past", "[I", true)
  | 2 => ("TowerFacesModel", "pastMany", "I", false)
  | 3 => ("TowerFacesModel", "kept", "[I", true)
  | 4 => ("TowerFacesModel", "isKept", "Z", false)
  | 5 => ("TowerFacesModel", "aside", "[I", true)
  | 6 => ("TowerFacesModel", "buffer", "[C", true)
  | 7 => ("TowerFacesModel", "typed", "I", false)
  | 8 => ("TowerFacesModel", "told", "[I", true)
  | 9 => ("TowerFacesModel", "toldMany", "I", false)
  | 10 => ("TowerFacesModel", "spot", "I", false)
  | _ => ("TowerFacesModel", "wrong", "I", false)
def tyX6 : Nat → FieldType := fun k => match k with
  | 0 => .array .int
  | 1 => .array .int
  | 2 => .int
  | 3 => .array .int
  | 4 => .boolean
  | 5 => .array .int
  | 6 => .array .char
  | 7 => .int
  | 8 => .array .int
  | 9 => .int
  | 10 => .int
  | _ => .int
abbrev wsX60 : List Cond := u_ws RX6 TX6 12
theorem nmX6 : ∀ a, a < 12 → ∀ b, b < 12 → a ≠ b → (TX6 a).2.1 ≠ (TX6 b).2.1 := by decide +kernel
theorem tyX6_ok : ∀ k, k < 12 → parseFieldDescriptor (TX6 k).2.2.1 = some (tyX6 k) := by decide +kernel
abbrev cX6_init : ByteArray := prog_8_method_1_code
def yX6_init : MethodName := ⟨RX6, "<init>", "()V"⟩
abbrev cX6_in : ByteArray := prog_8_method_2_code
def yX6_in : MethodName := ⟨RX6, "in", "(III)Z"⟩
abbrev cX6_isFace : ByteArray := prog_8_method_3_code
def yX6_isFace : MethodName := ⟨RX6, "isFace", "(I)Z"⟩
abbrev cX6_of : ByteArray := prog_8_method_4_code
def yX6_of : MethodName := ⟨RX6, "of", "(II)I"⟩
abbrev cX6_lays : ByteArray := prog_8_method_5_code
def yX6_lays : MethodName := ⟨RX6, "lays", "(III)V"⟩
abbrev cX6_distance : ByteArray := prog_8_method_6_code
def yX6_distance : MethodName := ⟨RX6, "distance", "(II)I"⟩
abbrev cX6_record : ByteArray := prog_8_method_7_code
def yX6_record : MethodName := ⟨RX6, "record", "()V"⟩
abbrev cX6_undo : ByteArray := prog_8_method_8_code
def yX6_undo : MethodName := ⟨RX6, "undo", "()I"⟩
abbrev cX6_save : ByteArray := prog_8_method_9_code
def yX6_save : MethodName := ⟨RX6, "save", "()I"⟩
abbrev cX6_restore : ByteArray := prog_8_method_10_code
def yX6_restore : MethodName := ⟨RX6, "restore", "()I"⟩
abbrev cX6_putAside : ByteArray := prog_8_method_11_code
def yX6_putAside : MethodName := ⟨RX6, "putAside", "()V"⟩
abbrev cX6_takeBack : ByteArray := prog_8_method_12_code
def yX6_takeBack : MethodName := ⟨RX6, "takeBack", "()V"⟩
abbrev cX6_isInRange : ByteArray := prog_8_method_13_code
def yX6_isInRange : MethodName := ⟨RX6, "isInRange", "(II)Z"⟩
abbrev cX6_set : ByteArray := prog_8_method_14_code
def yX6_set : MethodName := ⟨RX6, "set", "(II)I"⟩
abbrev cX6_setting : ByteArray := prog_8_method_15_code
def yX6_setting : MethodName := ⟨RX6, "setting", "(I)I"⟩
abbrev cX6_gear : ByteArray := prog_8_method_16_code
def yX6_gear : MethodName := ⟨RX6, "gear", "(II)I"⟩
abbrev cX6_oils : ByteArray := prog_8_method_17_code
def yX6_oils : MethodName := ⟨RX6, "oils", "(I)I"⟩
abbrev cX6_oil : ByteArray := prog_8_method_18_code
def yX6_oil : MethodName := ⟨RX6, "oil", "(I)I"⟩
abbrev cX6_dials : ByteArray := prog_8_method_19_code
def yX6_dials : MethodName := ⟨RX6, "dials", "(II)I"⟩
abbrev cX6_dial : ByteArray := prog_8_method_20_code
def yX6_dial : MethodName := ⟨RX6, "dial", "(II)I"⟩
abbrev cX6_hangs : ByteArray := prog_8_method_21_code
def yX6_hangs : MethodName := ⟨RX6, "hangs", "(I)I"⟩
abbrev cX6_bell : ByteArray := prog_8_method_22_code
def yX6_bell : MethodName := ⟨RX6, "bell", "(I)I"⟩
abbrev cX6_strikesAt : ByteArray := prog_8_method_23_code
def yX6_strikesAt : MethodName := ⟨RX6, "strikesAt", "(I)I"⟩
abbrev cX6_turns : ByteArray := prog_8_method_24_code
def yX6_turns : MethodName := ⟨RX6, "turns", "(I)I"⟩
abbrev cX6_minuteOfDay : ByteArray := prog_8_method_25_code
def yX6_minuteOfDay : MethodName := ⟨RX6, "minuteOfDay", "()I"⟩
abbrev cX6_minute : ByteArray := prog_8_method_26_code
def yX6_minute : MethodName := ⟨RX6, "minute", "()I"⟩
abbrev cX6_passes : ByteArray := prog_8_method_27_code
def yX6_passes : MethodName := ⟨RX6, "passes", "(I)I"⟩
abbrev cX6_whyNotPass : ByteArray := prog_8_method_28_code
def yX6_whyNotPass : MethodName := ⟨RX6, "whyNotPass", "(I)I"⟩
abbrev cX6_pass : ByteArray := prog_8_method_29_code
def yX6_pass : MethodName := ⟨RX6, "pass", "(I)I"⟩
abbrev cX6_startOf : ByteArray := prog_8_method_30_code
def yX6_startOf : MethodName := ⟨RX6, "startOf", "(I)I"⟩
abbrev cX6_wrongOf : ByteArray := prog_8_method_31_code
def yX6_wrongOf : MethodName := ⟨RX6, "wrongOf", "(I)I"⟩
abbrev cX6_keeperBy : ByteArray := prog_8_method_32_code
def yX6_keeperBy : MethodName := ⟨RX6, "keeperBy", "(I)I"⟩
abbrev cX6_since : ByteArray := prog_8_method_33_code
def yX6_since : MethodName := ⟨RX6, "since", "(II)I"⟩
abbrev cX6_onWatch : ByteArray := prog_8_method_34_code
def yX6_onWatch : MethodName := ⟨RX6, "onWatch", "(I)I"⟩
abbrev cX6_whyNotHire : ByteArray := prog_8_method_35_code
def yX6_whyNotHire : MethodName := ⟨RX6, "whyNotHire", "(II)I"⟩
abbrev cX6_hires : ByteArray := prog_8_method_36_code
def yX6_hires : MethodName := ⟨RX6, "hires", "(II)I"⟩
abbrev cX6_hire : ByteArray := prog_8_method_37_code
def yX6_hire : MethodName := ⟨RX6, "hire", "(II)I"⟩
abbrev cX6_dismiss : ByteArray := prog_8_method_38_code
def yX6_dismiss : MethodName := ⟨RX6, "dismiss", "(I)I"⟩
abbrev cX6_timeOf : ByteArray := prog_8_method_39_code
def yX6_timeOf : MethodName := ⟨RX6, "timeOf", "(I)I"⟩
abbrev cX6_resets : ByteArray := prog_8_method_40_code
def yX6_resets : MethodName := ⟨RX6, "resets", "()I"⟩
abbrev cX6_reset : ByteArray := prog_8_method_41_code
def yX6_reset : MethodName := ⟨RX6, "reset", "()I"⟩
abbrev cX6_keeper : ByteArray := prog_8_method_42_code
def yX6_keeper : MethodName := ⟨RX6, "keeper", "(II)I"⟩
abbrev cX6_keeperTime : ByteArray := prog_8_method_43_code
def yX6_keeperTime : MethodName := ⟨RX6, "keeperTime", "()I"⟩
abbrev cX6_face : ByteArray := prog_8_method_44_code
def yX6_face : MethodName := ⟨RX6, "face", "(II)I"⟩
abbrev cX6_sum : ByteArray := prog_8_method_45_code
def yX6_sum : MethodName := ⟨RX6, "sum", "(I)I"⟩
abbrev cX6_spread : ByteArray := prog_8_method_46_code
def yX6_spread : MethodName := ⟨RX6, "spread", "()I"⟩
abbrev cX6_total : ByteArray := prog_8_method_47_code
def yX6_total : MethodName := ⟨RX6, "total", "(I)I"⟩
abbrev cX6_majority : ByteArray := prog_8_method_48_code
def yX6_majority : MethodName := ⟨RX6, "majority", "()I"⟩
abbrev cX6_coming : ByteArray := prog_8_method_49_code
def yX6_coming : MethodName := ⟨RX6, "coming", "(II)I"⟩
abbrev cX6_spreadIn : ByteArray := prog_8_method_50_code
def yX6_spreadIn : MethodName := ⟨RX6, "spreadIn", "(I)I"⟩
abbrev cX6_minutesTo : ByteArray := prog_8_method_51_code
def yX6_minutesTo : MethodName := ⟨RX6, "minutesTo", "(I)I"⟩
abbrev cX6_bestOil : ByteArray := prog_8_method_52_code
def yX6_bestOil : MethodName := ⟨RX6, "bestOil", "()I"⟩
abbrev cX6_append : ByteArray := prog_8_method_53_code
def yX6_append : MethodName := ⟨RX6, "append", "(I)I"⟩
abbrev cX6_clearText : ByteArray := prog_8_method_54_code
def yX6_clearText : MethodName := ⟨RX6, "clearText", "()I"⟩
abbrev cX6_letter : ByteArray := prog_8_method_55_code
def yX6_letter : MethodName := ⟨RX6, "letter", "()I"⟩
abbrev cX6_wants : ByteArray := prog_8_method_56_code
def yX6_wants : MethodName := ⟨RX6, "wants", "(Z)V"⟩
abbrev cX6_figure : ByteArray := prog_8_method_57_code
def yX6_figure : MethodName := ⟨RX6, "figure", "(I)I"⟩
abbrev cX6_clock : ByteArray := prog_8_method_58_code
def yX6_clock : MethodName := ⟨RX6, "clock", "()I"⟩
abbrev cX6_number : ByteArray := prog_8_method_59_code
def yX6_number : MethodName := ⟨RX6, "number", "(II)I"⟩
abbrev cX6_readWork : ByteArray := prog_8_method_60_code
def yX6_readWork : MethodName := ⟨RX6, "readWork", "()V"⟩
abbrev cX6_errorPosition : ByteArray := prog_8_method_61_code
def yX6_errorPosition : MethodName := ⟨RX6, "errorPosition", "()I"⟩
abbrev cX6_doOne : ByteArray := prog_8_method_62_code
def yX6_doOne : MethodName := ⟨RX6, "doOne", "(I)I"⟩
abbrev cX6_work : ByteArray := prog_8_method_63_code
def yX6_work : MethodName := ⟨RX6, "work", "()I"⟩
def RJ9 : String := "java/lang/Math"
def TJ9 : u_T := fun k => match k with
  | _ => ("", "", "", false)
def tyJ9 : Nat → FieldType := fun k => match k with
  | _ => .int
abbrev cJ9_floorMod_7cf53 : ByteArray := prog_9_method_50_code
def yJ9_floorMod_7cf53 : MethodName := ⟨RJ9, "floorMod", "(II)I"⟩
def RJ10 : String := "java/lang/System"
def TJ10 : u_T := fun k => match k with
  | _ => ("", "", "", false)
def tyJ10 : Nat → FieldType := fun k => match k with
  | _ => .int
def RL : String := "TowerFacesLaw"
abbrev cL_law : ByteArray := code
def yL_law : MethodName := ⟨RL, "law", "([I)Z"⟩
abbrev vwCl : List vw_C := [(RX0, TX0, 7), (RX1, TX1, 3), (RX2, TX2, 3), (RX3, TX3, 7), (RX4, TX4, 7), (RX5, TX5, 6), (RX6, TX6, 12)]
