/-- a private method of a class that the tables say can be made, by its rows of tables_1 -/
def lw_okq (q : MethodName × Nat) : Prop := (q.1.cls ≠ "java/lang/invoke/MethodHandle" ∧ q.1.cls ≠ "java/lang/invoke/VarHandle") ∧ Cond.instantiable q.1.cls q.2 ∈ tables_1 ∧ Cond.privateMethod q.1 ∈ tables_1 ∧ Cond.instanceMethod q.1 ∈ tables_1
theorem lw_p0 : lw_okq (⟨"java/lang/Throwable", "fillInStackTrace", "(I)Ljava/lang/Throwable;"⟩, 6) := ⟨⟨by decide +kernel, by decide +kernel⟩, List.mem_of_getElem? (i := 224) (by decide +kernel), List.mem_of_getElem? (i := 222) (by decide +kernel), List.mem_of_getElem? (i := 223) (by decide +kernel)⟩
theorem lw_p1 : lw_okq (⟨"CertificateDesk", "refuseUnknown", "(II)V"⟩, 10) := ⟨⟨by decide +kernel, by decide +kernel⟩, List.mem_of_getElem? (i := 21) (by decide +kernel), List.mem_of_getElem? (i := 389) (by decide +kernel), List.mem_of_getElem? (i := 390) (by decide +kernel)⟩
theorem lw_p2 : lw_okq (⟨"CertificateDesk", "reckon", "(II)V"⟩, 10) := ⟨⟨by decide +kernel, by decide +kernel⟩, List.mem_of_getElem? (i := 21) (by decide +kernel), List.mem_of_getElem? (i := 396) (by decide +kernel), List.mem_of_getElem? (i := 397) (by decide +kernel)⟩
theorem lw_p3 : lw_okq (⟨"CertificateDesk", "raiseByRow", "(I)V"⟩, 10) := ⟨⟨by decide +kernel, by decide +kernel⟩, List.mem_of_getElem? (i := 21) (by decide +kernel), List.mem_of_getElem? (i := 407) (by decide +kernel), List.mem_of_getElem? (i := 408) (by decide +kernel)⟩
theorem lw_p4 : lw_okq (⟨"CertificateDesk$Exact", "addAt", "(IJ)V"⟩, 3) := ⟨⟨by decide +kernel, by decide +kernel⟩, List.mem_of_getElem? (i := 119) (by decide +kernel), List.mem_of_getElem? (i := 447) (by decide +kernel), List.mem_of_getElem? (i := 448) (by decide +kernel)⟩
theorem lw_p5 : lw_okq (⟨"CertificateDesk", "addActivity", "(LCertificateDesk$Exact;IZ)V"⟩, 10) := ⟨⟨by decide +kernel, by decide +kernel⟩, List.mem_of_getElem? (i := 21) (by decide +kernel), List.mem_of_getElem? (i := 451) (by decide +kernel), List.mem_of_getElem? (i := 452) (by decide +kernel)⟩
theorem lw_p6 : lw_okq (⟨"CertificateDesk$Exact", "settle", "()V"⟩, 3) := ⟨⟨by decide +kernel, by decide +kernel⟩, List.mem_of_getElem? (i := 119) (by decide +kernel), List.mem_of_getElem? (i := 461) (by decide +kernel), List.mem_of_getElem? (i := 462) (by decide +kernel)⟩
theorem lw_p7 : lw_okq (⟨"CertificateDesk$Exact", "isBelow", "(LCertificateDesk$Exact;)Z"⟩, 3) := ⟨⟨by decide +kernel, by decide +kernel⟩, List.mem_of_getElem? (i := 119) (by decide +kernel), List.mem_of_getElem? (i := 465) (by decide +kernel), List.mem_of_getElem? (i := 466) (by decide +kernel)⟩
theorem lw_p8 : lw_okq (⟨"CertificateDesk", "raiseByColumn", "(I)V"⟩, 10) := ⟨⟨by decide +kernel, by decide +kernel⟩, List.mem_of_getElem? (i := 21) (by decide +kernel), List.mem_of_getElem? (i := 476) (by decide +kernel), List.mem_of_getElem? (i := 477) (by decide +kernel)⟩
theorem lw_p9 : lw_okq (⟨"CertificateDesk", "raiseByDuals", "()V"⟩, 10) := ⟨⟨by decide +kernel, by decide +kernel⟩, List.mem_of_getElem? (i := 21) (by decide +kernel), List.mem_of_getElem? (i := 480) (by decide +kernel), List.mem_of_getElem? (i := 481) (by decide +kernel)⟩
theorem lw_p10 : lw_okq (⟨"CertificateDesk", "addReducedCost", "(LCertificateDesk$Exact;IZLCertificateDesk$Numbers;I)V"⟩, 10) := ⟨⟨by decide +kernel, by decide +kernel⟩, List.mem_of_getElem? (i := 21) (by decide +kernel), List.mem_of_getElem? (i := 484) (by decide +kernel), List.mem_of_getElem? (i := 485) (by decide +kernel)⟩
theorem lw_p11 : lw_okq (⟨"CertificateDesk", "raiseByCandidateDual", "(LCertificateDesk$Lines;I)V"⟩, 10) := ⟨⟨by decide +kernel, by decide +kernel⟩, List.mem_of_getElem? (i := 21) (by decide +kernel), List.mem_of_getElem? (i := 488) (by decide +kernel), List.mem_of_getElem? (i := 489) (by decide +kernel)⟩
theorem lw_p12 : lw_okq (⟨"CertificateDesk$Exact", "topPlace", "()I"⟩, 3) := ⟨⟨by decide +kernel, by decide +kernel⟩, List.mem_of_getElem? (i := 119) (by decide +kernel), List.mem_of_getElem? (i := 496) (by decide +kernel), List.mem_of_getElem? (i := 497) (by decide +kernel)⟩
theorem lw_p13 : lw_okq (⟨"CertificateDesk", "addGap", "()V"⟩, 10) := ⟨⟨by decide +kernel, by decide +kernel⟩, List.mem_of_getElem? (i := 21) (by decide +kernel), List.mem_of_getElem? (i := 511) (by decide +kernel), List.mem_of_getElem? (i := 512) (by decide +kernel)⟩
theorem lw_p14 : lw_okq (⟨"CertificateDesk", "addCosts", "()V"⟩, 10) := ⟨⟨by decide +kernel, by decide +kernel⟩, List.mem_of_getElem? (i := 21) (by decide +kernel), List.mem_of_getElem? (i := 515) (by decide +kernel), List.mem_of_getElem? (i := 516) (by decide +kernel)⟩
theorem lw_p15 : lw_okq (⟨"CertificateDesk", "addSquares", "(I)V"⟩, 10) := ⟨⟨by decide +kernel, by decide +kernel⟩, List.mem_of_getElem? (i := 21) (by decide +kernel), List.mem_of_getElem? (i := 519) (by decide +kernel), List.mem_of_getElem? (i := 520) (by decide +kernel)⟩
def lw_privs_1 : List (MethodName × Nat) := [(⟨"java/lang/Throwable", "fillInStackTrace", "(I)Ljava/lang/Throwable;"⟩, 6), (⟨"CertificateDesk", "refuseUnknown", "(II)V"⟩, 10), (⟨"CertificateDesk", "reckon", "(II)V"⟩, 10), (⟨"CertificateDesk", "raiseByRow", "(I)V"⟩, 10), (⟨"CertificateDesk$Exact", "addAt", "(IJ)V"⟩, 3), (⟨"CertificateDesk", "addActivity", "(LCertificateDesk$Exact;IZ)V"⟩, 10), (⟨"CertificateDesk$Exact", "settle", "()V"⟩, 3), (⟨"CertificateDesk$Exact", "isBelow", "(LCertificateDesk$Exact;)Z"⟩, 3), (⟨"CertificateDesk", "raiseByColumn", "(I)V"⟩, 10), (⟨"CertificateDesk", "raiseByDuals", "()V"⟩, 10), (⟨"CertificateDesk", "addReducedCost", "(LCertificateDesk$Exact;IZLCertificateDesk$Numbers;I)V"⟩, 10), (⟨"CertificateDesk", "raiseByCandidateDual", "(LCertificateDesk$Lines;I)V"⟩, 10), (⟨"CertificateDesk$Exact", "topPlace", "()I"⟩, 3), (⟨"CertificateDesk", "addGap", "()V"⟩, 10), (⟨"CertificateDesk", "addCosts", "()V"⟩, 10), (⟨"CertificateDesk", "addSquares", "(I)V"⟩, 10)]
theorem lw_r1 : ∀ q ∈ lw_privs_1, lw_okq q := List.forall_mem_cons.mpr ⟨lw_p0, List.forall_mem_cons.mpr ⟨lw_p1, List.forall_mem_cons.mpr ⟨lw_p2, List.forall_mem_cons.mpr ⟨lw_p3, List.forall_mem_cons.mpr ⟨lw_p4, List.forall_mem_cons.mpr ⟨lw_p5, List.forall_mem_cons.mpr ⟨lw_p6, List.forall_mem_cons.mpr ⟨lw_p7, List.forall_mem_cons.mpr ⟨lw_p8, List.forall_mem_cons.mpr ⟨lw_p9, List.forall_mem_cons.mpr ⟨lw_p10, List.forall_mem_cons.mpr ⟨lw_p11, List.forall_mem_cons.mpr ⟨lw_p12, List.forall_mem_cons.mpr ⟨lw_p13, List.forall_mem_cons.mpr ⟨lw_p14, List.forall_mem_cons.mpr ⟨lw_p15, fun _ h => absurd h List.not_mem_nil⟩⟩⟩⟩⟩⟩⟩⟩⟩⟩⟩⟩⟩⟩⟩⟩
theorem lw_p16 : lw_okq (⟨"CertificateDesk", "addMinimized", "()V"⟩, 10) := ⟨⟨by decide +kernel, by decide +kernel⟩, List.mem_of_getElem? (i := 21) (by decide +kernel), List.mem_of_getElem? (i := 531) (by decide +kernel), List.mem_of_getElem? (i := 532) (by decide +kernel)⟩
theorem lw_p17 : lw_okq (⟨"CertificateDesk$Exact", "mantissaFrom", "(I)J"⟩, 3) := ⟨⟨by decide +kernel, by decide +kernel⟩, List.mem_of_getElem? (i := 119) (by decide +kernel), List.mem_of_getElem? (i := 542) (by decide +kernel), List.mem_of_getElem? (i := 543) (by decide +kernel)⟩
theorem lw_p18 : lw_okq (⟨"CertificateDesk$Exact", "bitAt", "(I)J"⟩, 3) := ⟨⟨by decide +kernel, by decide +kernel⟩, List.mem_of_getElem? (i := 119) (by decide +kernel), List.mem_of_getElem? (i := 547) (by decide +kernel), List.mem_of_getElem? (i := 548) (by decide +kernel)⟩
theorem lw_p19 : lw_okq (⟨"CertificateDesk$Exact", "hasBitUnder", "(I)Z"⟩, 3) := ⟨⟨by decide +kernel, by decide +kernel⟩, List.mem_of_getElem? (i := 119) (by decide +kernel), List.mem_of_getElem? (i := 551) (by decide +kernel), List.mem_of_getElem? (i := 552) (by decide +kernel)⟩
theorem lw_p20 : lw_okq (⟨"CertificateDeskModel", "fails", "(ZI)Z"⟩, 29) := ⟨⟨by decide +kernel, by decide +kernel⟩, List.mem_of_getElem? (i := 596) (by decide +kernel), List.mem_of_getElem? (i := 711) (by decide +kernel), List.mem_of_getElem? (i := 712) (by decide +kernel)⟩
theorem lw_p21 : lw_okq (⟨"CertificateDeskModel", "asked", "(II)Z"⟩, 29) := ⟨⟨by decide +kernel, by decide +kernel⟩, List.mem_of_getElem? (i := 596) (by decide +kernel), List.mem_of_getElem? (i := 749) (by decide +kernel), List.mem_of_getElem? (i := 750) (by decide +kernel)⟩
theorem lw_p22 : lw_okq (⟨"CertificateDeskModel", "rowFault", "(I)D"⟩, 29) := ⟨⟨by decide +kernel, by decide +kernel⟩, List.mem_of_getElem? (i := 596) (by decide +kernel), List.mem_of_getElem? (i := 753) (by decide +kernel), List.mem_of_getElem? (i := 754) (by decide +kernel)⟩
theorem lw_p23 : lw_okq (⟨"CertificateDeskModel", "activity", "(I)V"⟩, 29) := ⟨⟨by decide +kernel, by decide +kernel⟩, List.mem_of_getElem? (i := 596) (by decide +kernel), List.mem_of_getElem? (i := 757) (by decide +kernel), List.mem_of_getElem? (i := 758) (by decide +kernel)⟩
theorem lw_p24 : lw_okq (⟨"CertificateDeskModel", "zero", "()V"⟩, 29) := ⟨⟨by decide +kernel, by decide +kernel⟩, List.mem_of_getElem? (i := 596) (by decide +kernel), List.mem_of_getElem? (i := 761) (by decide +kernel), List.mem_of_getElem? (i := 762) (by decide +kernel)⟩
theorem lw_p25 : lw_okq (⟨"CertificateDeskModel", "add", "(DDDIZ)V"⟩, 29) := ⟨⟨by decide +kernel, by decide +kernel⟩, List.mem_of_getElem? (i := 596) (by decide +kernel), List.mem_of_getElem? (i := 765) (by decide +kernel), List.mem_of_getElem? (i := 766) (by decide +kernel)⟩
theorem lw_p26 : lw_okq (⟨"CertificateDeskModel", "exact", "(D[I)I"⟩, 29) := ⟨⟨by decide +kernel, by decide +kernel⟩, List.mem_of_getElem? (i := 596) (by decide +kernel), List.mem_of_getElem? (i := 769) (by decide +kernel), List.mem_of_getElem? (i := 770) (by decide +kernel)⟩
theorem lw_p27 : lw_okq (⟨"CertificateDeskModel", "excess", "(Z)D"⟩, 29) := ⟨⟨by decide +kernel, by decide +kernel⟩, List.mem_of_getElem? (i := 596) (by decide +kernel), List.mem_of_getElem? (i := 786) (by decide +kernel), List.mem_of_getElem? (i := 787) (by decide +kernel)⟩
theorem lw_p28 : lw_okq (⟨"CertificateDeskModel", "signOfSum", "()I"⟩, 29) := ⟨⟨by decide +kernel, by decide +kernel⟩, List.mem_of_getElem? (i := 596) (by decide +kernel), List.mem_of_getElem? (i := 790) (by decide +kernel), List.mem_of_getElem? (i := 791) (by decide +kernel)⟩
theorem lw_p29 : lw_okq (⟨"CertificateDeskModel", "negate", "()V"⟩, 29) := ⟨⟨by decide +kernel, by decide +kernel⟩, List.mem_of_getElem? (i := 596) (by decide +kernel), List.mem_of_getElem? (i := 795) (by decide +kernel), List.mem_of_getElem? (i := 796) (by decide +kernel)⟩
theorem lw_p30 : lw_okq (⟨"CertificateDeskModel", "upwards", "()D"⟩, 29) := ⟨⟨by decide +kernel, by decide +kernel⟩, List.mem_of_getElem? (i := 596) (by decide +kernel), List.mem_of_getElem? (i := 799) (by decide +kernel), List.mem_of_getElem? (i := 800) (by decide +kernel)⟩
theorem lw_p31 : lw_okq (⟨"CertificateDeskModel", "columnFault", "(I)D"⟩, 29) := ⟨⟨by decide +kernel, by decide +kernel⟩, List.mem_of_getElem? (i := 596) (by decide +kernel), List.mem_of_getElem? (i := 812) (by decide +kernel), List.mem_of_getElem? (i := 813) (by decide +kernel)⟩
def lw_privs_2 : List (MethodName × Nat) := [(⟨"CertificateDesk", "addMinimized", "()V"⟩, 10), (⟨"CertificateDesk$Exact", "mantissaFrom", "(I)J"⟩, 3), (⟨"CertificateDesk$Exact", "bitAt", "(I)J"⟩, 3), (⟨"CertificateDesk$Exact", "hasBitUnder", "(I)Z"⟩, 3), (⟨"CertificateDeskModel", "fails", "(ZI)Z"⟩, 29), (⟨"CertificateDeskModel", "asked", "(II)Z"⟩, 29), (⟨"CertificateDeskModel", "rowFault", "(I)D"⟩, 29), (⟨"CertificateDeskModel", "activity", "(I)V"⟩, 29), (⟨"CertificateDeskModel", "zero", "()V"⟩, 29), (⟨"CertificateDeskModel", "add", "(DDDIZ)V"⟩, 29), (⟨"CertificateDeskModel", "exact", "(D[I)I"⟩, 29), (⟨"CertificateDeskModel", "excess", "(Z)D"⟩, 29), (⟨"CertificateDeskModel", "signOfSum", "()I"⟩, 29), (⟨"CertificateDeskModel", "negate", "()V"⟩, 29), (⟨"CertificateDeskModel", "upwards", "()D"⟩, 29), (⟨"CertificateDeskModel", "columnFault", "(I)D"⟩, 29)]
theorem lw_r2 : ∀ q ∈ lw_privs_2, lw_okq q := List.forall_mem_cons.mpr ⟨lw_p16, List.forall_mem_cons.mpr ⟨lw_p17, List.forall_mem_cons.mpr ⟨lw_p18, List.forall_mem_cons.mpr ⟨lw_p19, List.forall_mem_cons.mpr ⟨lw_p20, List.forall_mem_cons.mpr ⟨lw_p21, List.forall_mem_cons.mpr ⟨lw_p22, List.forall_mem_cons.mpr ⟨lw_p23, List.forall_mem_cons.mpr ⟨lw_p24, List.forall_mem_cons.mpr ⟨lw_p25, List.forall_mem_cons.mpr ⟨lw_p26, List.forall_mem_cons.mpr ⟨lw_p27, List.forall_mem_cons.mpr ⟨lw_p28, List.forall_mem_cons.mpr ⟨lw_p29, List.forall_mem_cons.mpr ⟨lw_p30, List.forall_mem_cons.mpr ⟨lw_p31, fun _ h => absurd h List.not_mem_nil⟩⟩⟩⟩⟩⟩⟩⟩⟩⟩⟩⟩⟩⟩⟩⟩
theorem lw_p32 : lw_okq (⟨"CertificateDeskModel", "dualFault", "(I)D"⟩, 29) := ⟨⟨by decide +kernel, by decide +kernel⟩, List.mem_of_getElem? (i := 596) (by decide +kernel), List.mem_of_getElem? (i := 816) (by decide +kernel), List.mem_of_getElem? (i := 817) (by decide +kernel)⟩
theorem lw_p33 : lw_okq (⟨"CertificateDeskModel", "reduced", "(I)V"⟩, 29) := ⟨⟨by decide +kernel, by decide +kernel⟩, List.mem_of_getElem? (i := 596) (by decide +kernel), List.mem_of_getElem? (i := 820) (by decide +kernel), List.mem_of_getElem? (i := 821) (by decide +kernel)⟩
theorem lw_p34 : lw_okq (⟨"CertificateDeskModel", "priceFault", "(I)D"⟩, 29) := ⟨⟨by decide +kernel, by decide +kernel⟩, List.mem_of_getElem? (i := 596) (by decide +kernel), List.mem_of_getElem? (i := 824) (by decide +kernel), List.mem_of_getElem? (i := 825) (by decide +kernel)⟩
theorem lw_p35 : lw_okq (⟨"CertificateDeskModel", "gap", "()D"⟩, 29) := ⟨⟨by decide +kernel, by decide +kernel⟩, List.mem_of_getElem? (i := 596) (by decide +kernel), List.mem_of_getElem? (i := 828) (by decide +kernel), List.mem_of_getElem? (i := 829) (by decide +kernel)⟩
theorem lw_p36 : lw_okq (⟨"CertificateDeskModel", "goal", "(I)V"⟩, 29) := ⟨⟨by decide +kernel, by decide +kernel⟩, List.mem_of_getElem? (i := 596) (by decide +kernel), List.mem_of_getElem? (i := 832) (by decide +kernel), List.mem_of_getElem? (i := 833) (by decide +kernel)⟩
theorem lw_p37 : lw_okq (⟨"CertificateDeskModel", "goalOf", "()V"⟩, 29) := ⟨⟨by decide +kernel, by decide +kernel⟩, List.mem_of_getElem? (i := 596) (by decide +kernel), List.mem_of_getElem? (i := 836) (by decide +kernel), List.mem_of_getElem? (i := 837) (by decide +kernel)⟩
def lw_privs_3 : List (MethodName × Nat) := [(⟨"CertificateDeskModel", "dualFault", "(I)D"⟩, 29), (⟨"CertificateDeskModel", "reduced", "(I)V"⟩, 29), (⟨"CertificateDeskModel", "priceFault", "(I)D"⟩, 29), (⟨"CertificateDeskModel", "gap", "()D"⟩, 29), (⟨"CertificateDeskModel", "goal", "(I)V"⟩, 29), (⟨"CertificateDeskModel", "goalOf", "()V"⟩, 29)]
theorem lw_r3 : ∀ q ∈ lw_privs_3, lw_okq q := List.forall_mem_cons.mpr ⟨lw_p32, List.forall_mem_cons.mpr ⟨lw_p33, List.forall_mem_cons.mpr ⟨lw_p34, List.forall_mem_cons.mpr ⟨lw_p35, List.forall_mem_cons.mpr ⟨lw_p36, List.forall_mem_cons.mpr ⟨lw_p37, fun _ h => absurd h List.not_mem_nil⟩⟩⟩⟩⟩⟩
def lw_privs : List (MethodName × Nat) := lw_privs_1 ++ (lw_privs_2 ++ (lw_privs_3))
def lw_tbl : List Cond := k2_sels lw_privs ++ tables_1
theorem lw_privs_ok : ∀ q ∈ lw_privs, lw_okq q := by
  show ∀ q ∈ lw_privs_1 ++ (lw_privs_2 ++ (lw_privs_3)), lw_okq q
  exact List.forall_mem_append.mpr ⟨lw_r1, List.forall_mem_append.mpr ⟨lw_r2, lw_r3⟩⟩

def TB : List Cond := lw_tbl.filter goodWord
theorem TB_good : GoodIn TB TB := fun w h => ⟨h, good_of_word (List.mem_filter.mp h).2⟩
theorem TB_in : ∀ w ∈ TB, w ∈ lw_tbl := fun w h => (List.mem_filter.mp h).1
theorem tb_mem {w : Cond} (i : Nat) (h : tables_1[i]? = some w) (hg : goodWord w = true) : w ∈ TB := List.mem_filter.mpr ⟨List.mem_append_right _ (List.mem_of_getElem? h), hg⟩
theorem tb_sel {w : Cond} (i : Nat) (h : (k2_sels lw_privs)[i]? = some w) (hg : goodWord w = true) : w ∈ TB := List.mem_filter.mpr ⟨List.mem_append_left _ (List.mem_of_getElem? h), hg⟩
/-- the words on private members of nest mates: they go from state to state by themselves -/
def NL : List Cond := [(Jvm.Cond.fieldLinkNest "CertificateDesk" (200 : Nat) "CertificateDesk$Lines" "lows" "LCertificateDesk$Numbers;" "CertificateDesk"), (Jvm.Cond.fieldLinkNest "CertificateDesk" (222 : Nat) "CertificateDesk$Lines" "highs" "LCertificateDesk$Numbers;" "CertificateDesk"), (Jvm.Cond.fieldLinkNest "CertificateDesk" (158 : Nat) "CertificateDesk$Lines" "values" "LCertificateDesk$Numbers;" "CertificateDesk"), (Jvm.Cond.fieldLinkNest "CertificateDesk" (170 : Nat) "CertificateDesk$Lines" "count" "I" "CertificateDesk"), (Jvm.Cond.fieldLinkNest "CertificateDesk" (248 : Nat) "CertificateDesk$Cells" "values" "LCertificateDesk$Numbers;" "CertificateDesk"), (Jvm.Cond.fieldLinkNest "CertificateDesk" (241 : Nat) "CertificateDesk$Cells" "count" "I" "CertificateDesk"), (Jvm.Cond.fieldLinkNest "CertificateDesk$Exact" (34 : Nat) "CertificateDesk$Product" "digits" "[J" "CertificateDesk"), (Jvm.Cond.fieldLinkNest "CertificateDesk$Exact" (19 : Nat) "CertificateDesk$Product" "exponent" "I" "CertificateDesk"), (Jvm.Cond.fieldLinkNest "CertificateDesk$Exact" (37 : Nat) "CertificateDesk$Product" "negative" "Z" "CertificateDesk"), (Jvm.Cond.methodLinkNest "CertificateDesk" (46 : Nat) ({ cls := "CertificateDesk$Product", name := "<init>", desc := "()V" } : Jvm.MethodName) "CertificateDesk"), (Jvm.Cond.methodLinkNest "CertificateDesk" (53 : Nat) ({ cls := "CertificateDesk$Exact", name := "<init>", desc := "()V" } : Jvm.MethodName) "CertificateDesk")]
def R_Nu : String := "CertificateDesk$Numbers"
def F_Nu : u_T := fun k => match k with
  | 0 => ("CertificateDesk$Numbers", "mantissas", "[J", true)
  | _ => ("CertificateDesk$Numbers", "exponents", "[I", true)
def t_Nu : Nat → FieldType := fun k => match k with
  | 0 => .array .long
  | _ => .array .int
theorem n_Nu : ∀ a, a < 2 → ∀ b, b < 2 → a ≠ b → (F_Nu a).2.1 ≠ (F_Nu b).2.1 := by decide +kernel
theorem t_Nu_ok : ∀ k, k < 2 → parseFieldDescriptor (F_Nu k).2.2.1 = some (t_Nu k) := by decide +kernel
theorem i_Nu : ∀ w ∈ u_ws R_Nu F_Nu 2, w ∈ TB := by
  intro w hw
  obtain ⟨k, hk, rfl⟩ := List.mem_map.mp hw
  have hk := List.mem_range.mp hk
  match k, hk with
  | 0, _ => exact tb_mem 39 (by decide +kernel) (by decide +kernel)
  | 1, _ => exact tb_mem 41 (by decide +kernel) (by decide +kernel)
  | k + 2, h => omega
def R_Li : String := "CertificateDesk$Lines"
def F_Li : u_T := fun k => match k with
  | 0 => ("CertificateDesk$Lines", "limits", "[I", true)
  | 1 => ("CertificateDesk$Lines", "lows", "LCertificateDesk$Numbers;", true)
  | 2 => ("CertificateDesk$Lines", "highs", "LCertificateDesk$Numbers;", true)
  | 3 => ("CertificateDesk$Lines", "values", "LCertificateDesk$Numbers;", true)
  | _ => ("CertificateDesk$Lines", "count", "I", false)
def t_Li : Nat → FieldType := fun k => match k with
  | 0 => .array .int
  | 1 => .object "CertificateDesk$Numbers"
  | 2 => .object "CertificateDesk$Numbers"
  | 3 => .object "CertificateDesk$Numbers"
  | _ => .int
theorem n_Li : ∀ a, a < 5 → ∀ b, b < 5 → a ≠ b → (F_Li a).2.1 ≠ (F_Li b).2.1 := by decide +kernel
theorem t_Li_ok : ∀ k, k < 5 → parseFieldDescriptor (F_Li k).2.2.1 = some (t_Li k) := by decide +kernel
theorem i_Li : ∀ w ∈ u_ws R_Li F_Li 5, w ∈ TB := by
  intro w hw
  obtain ⟨k, hk, rfl⟩ := List.mem_map.mp hw
  have hk := List.mem_range.mp hk
  match k, hk with
  | 0, _ => exact tb_mem 64 (by decide +kernel) (by decide +kernel)
  | 1, _ => exact tb_mem 66 (by decide +kernel) (by decide +kernel)
  | 2, _ => exact tb_mem 68 (by decide +kernel) (by decide +kernel)
  | 3, _ => exact tb_mem 70 (by decide +kernel) (by decide +kernel)
  | 4, _ => exact tb_mem 72 (by decide +kernel) (by decide +kernel)
  | k + 5, h => omega
def R_Ce : String := "CertificateDesk$Cells"
def F_Ce : u_T := fun k => match k with
  | 0 => ("CertificateDesk$Cells", "firsts", "[I", true)
  | 1 => ("CertificateDesk$Cells", "seconds", "[I", true)
  | 2 => ("CertificateDesk$Cells", "values", "LCertificateDesk$Numbers;", true)
  | _ => ("CertificateDesk$Cells", "count", "I", false)
def t_Ce : Nat → FieldType := fun k => match k with
  | 0 => .array .int
  | 1 => .array .int
  | 2 => .object "CertificateDesk$Numbers"
  | _ => .int
theorem n_Ce : ∀ a, a < 4 → ∀ b, b < 4 → a ≠ b → (F_Ce a).2.1 ≠ (F_Ce b).2.1 := by decide +kernel
theorem t_Ce_ok : ∀ k, k < 4 → parseFieldDescriptor (F_Ce k).2.2.1 = some (t_Ce k) := by decide +kernel
theorem i_Ce : ∀ w ∈ u_ws R_Ce F_Ce 4, w ∈ TB := by
  intro w hw
  obtain ⟨k, hk, rfl⟩ := List.mem_map.mp hw
  have hk := List.mem_range.mp hk
  match k, hk with
  | 0, _ => exact tb_mem 90 (by decide +kernel) (by decide +kernel)
  | 1, _ => exact tb_mem 92 (by decide +kernel) (by decide +kernel)
  | 2, _ => exact tb_mem 94 (by decide +kernel) (by decide +kernel)
  | 3, _ => exact tb_mem 96 (by decide +kernel) (by decide +kernel)
  | k + 4, h => omega
def R_Pr : String := "CertificateDesk$Product"
def F_Pr : u_T := fun k => match k with
  | 0 => ("CertificateDesk$Product", "digits", "[J", true)
  | 1 => ("CertificateDesk$Product", "exponent", "I", false)
  | _ => ("CertificateDesk$Product", "negative", "Z", false)
def t_Pr : Nat → FieldType := fun k => match k with
  | 0 => .array .long
  | 1 => .int
  | _ => .boolean
theorem n_Pr : ∀ a, a < 3 → ∀ b, b < 3 → a ≠ b → (F_Pr a).2.1 ≠ (F_Pr b).2.1 := by decide +kernel
theorem t_Pr_ok : ∀ k, k < 3 → parseFieldDescriptor (F_Pr k).2.2.1 = some (t_Pr k) := by decide +kernel
theorem i_Pr : ∀ w ∈ u_ws R_Pr F_Pr 3, w ∈ TB := by
  intro w hw
  obtain ⟨k, hk, rfl⟩ := List.mem_map.mp hw
  have hk := List.mem_range.mp hk
  match k, hk with
  | 0, _ => exact tb_mem 111 (by decide +kernel) (by decide +kernel)
  | 1, _ => exact tb_mem 113 (by decide +kernel) (by decide +kernel)
  | 2, _ => exact tb_mem 115 (by decide +kernel) (by decide +kernel)
  | k + 3, h => omega
def R_Ex : String := "CertificateDesk$Exact"
def F_Ex : u_T := fun k => match k with
  | 0 => ("CertificateDesk$Exact", "digits", "[J", true)
  | 1 => ("CertificateDesk$Exact", "mantissa", "J", false)
  | _ => ("CertificateDesk$Exact", "exponent", "I", false)
def t_Ex : Nat → FieldType := fun k => match k with
  | 0 => .array .long
  | 1 => .long
  | _ => .int
theorem n_Ex : ∀ a, a < 3 → ∀ b, b < 3 → a ≠ b → (F_Ex a).2.1 ≠ (F_Ex b).2.1 := by decide +kernel
theorem t_Ex_ok : ∀ k, k < 3 → parseFieldDescriptor (F_Ex k).2.2.1 = some (t_Ex k) := by decide +kernel
theorem i_Ex : ∀ w ∈ u_ws R_Ex F_Ex 3, w ∈ TB := by
  intro w hw
  obtain ⟨k, hk, rfl⟩ := List.mem_map.mp hw
  have hk := List.mem_range.mp hk
  match k, hk with
  | 0, _ => exact tb_mem 127 (by decide +kernel) (by decide +kernel)
  | 1, _ => exact tb_mem 129 (by decide +kernel) (by decide +kernel)
  | 2, _ => exact tb_mem 131 (by decide +kernel) (by decide +kernel)
  | k + 3, h => omega
def R_De : String := "CertificateDesk"
def F_De : u_T := fun k => match k with
  | 0 => ("CertificateDesk", "offset", "LCertificateDesk$Numbers;", true)
  | 1 => ("CertificateDesk", "one", "LCertificateDesk$Numbers;", true)
  | 2 => ("CertificateDesk", "costs", "LCertificateDesk$Numbers;", true)
  | 3 => ("CertificateDesk", "rows", "LCertificateDesk$Lines;", true)
  | 4 => ("CertificateDesk", "columns", "LCertificateDesk$Lines;", true)
  | 5 => ("CertificateDesk", "entries", "LCertificateDesk$Cells;", true)
  | 6 => ("CertificateDesk", "pairs", "LCertificateDesk$Cells;", true)
  | 7 => ("CertificateDesk", "product", "LCertificateDesk$Product;", true)
  | 8 => ("CertificateDesk", "figure", "LCertificateDesk$Exact;", true)
  | _ => ("CertificateDesk", "candidate", "LCertificateDesk$Exact;", true)
def t_De : Nat → FieldType := fun k => match k with
  | 0 => .object "CertificateDesk$Numbers"
  | 1 => .object "CertificateDesk$Numbers"
  | 2 => .object "CertificateDesk$Numbers"
  | 3 => .object "CertificateDesk$Lines"
  | 4 => .object "CertificateDesk$Lines"
  | 5 => .object "CertificateDesk$Cells"
  | 6 => .object "CertificateDesk$Cells"
  | 7 => .object "CertificateDesk$Product"
  | 8 => .object "CertificateDesk$Exact"
  | _ => .object "CertificateDesk$Exact"
theorem n_De : ∀ a, a < 10 → ∀ b, b < 10 → a ≠ b → (F_De a).2.1 ≠ (F_De b).2.1 := by decide +kernel
theorem t_De_ok : ∀ k, k < 10 → parseFieldDescriptor (F_De k).2.2.1 = some (t_De k) := by decide +kernel
theorem i_De : ∀ w ∈ u_ws R_De F_De 10, w ∈ TB := by
  intro w hw
  obtain ⟨k, hk, rfl⟩ := List.mem_map.mp hw
  have hk := List.mem_range.mp hk
  match k, hk with
  | 0, _ => exact tb_mem 151 (by decide +kernel) (by decide +kernel)
  | 1, _ => exact tb_mem 153 (by decide +kernel) (by decide +kernel)
  | 2, _ => exact tb_mem 155 (by decide +kernel) (by decide +kernel)
  | 3, _ => exact tb_mem 157 (by decide +kernel) (by decide +kernel)
  | 4, _ => exact tb_mem 159 (by decide +kernel) (by decide +kernel)
  | 5, _ => exact tb_mem 161 (by decide +kernel) (by decide +kernel)
  | 6, _ => exact tb_mem 163 (by decide +kernel) (by decide +kernel)
  | 7, _ => exact tb_mem 165 (by decide +kernel) (by decide +kernel)
  | 8, _ => exact tb_mem 167 (by decide +kernel) (by decide +kernel)
  | 9, _ => exact tb_mem 169 (by decide +kernel) (by decide +kernel)
  | k + 10, h => omega
def R_Mo : String := "CertificateDeskModel"
def F_Mo : u_T := fun k => match k with
  | 0 => ("CertificateDeskModel", "err", "I", false)
  | 1 => ("CertificateDeskModel", "rows", "I", false)
  | 2 => ("CertificateDeskModel", "columns", "I", false)
  | 3 => ("CertificateDeskModel", "entries", "I", false)
  | 4 => ("CertificateDeskModel", "pairs", "I", false)
  | 5 => ("CertificateDeskModel", "objectiveRhs", "D", false)
  | 6 => ("CertificateDeskModel", "a", "[D", true)
  | 7 => ("CertificateDeskModel", "c", "[D", true)
  | 8 => ("CertificateDeskModel", "q", "[D", true)
  | 9 => ("CertificateDeskModel", "low", "[D", true)
  | 10 => ("CertificateDeskModel", "high", "[D", true)
  | 11 => ("CertificateDeskModel", "rowLow", "[D", true)
  | 12 => ("CertificateDeskModel", "rowHigh", "[D", true)
  | 13 => ("CertificateDeskModel", "x", "[D", true)
  | 14 => ("CertificateDeskModel", "y", "[D", true)
  | 15 => ("CertificateDeskModel", "aIs", "[Z", true)
  | 16 => ("CertificateDeskModel", "qIs", "[Z", true)
  | 17 => ("CertificateDeskModel", "lowIs", "[Z", true)
  | 18 => ("CertificateDeskModel", "highIs", "[Z", true)
  | 19 => ("CertificateDeskModel", "rowLowIs", "[Z", true)
  | 20 => ("CertificateDeskModel", "rowHighIs", "[Z", true)
  | 21 => ("CertificateDeskModel", "part2", "I", false)
  | 22 => ("CertificateDeskModel", "sum", "[I", true)
  | 23 => ("CertificateDeskModel", "sign", "[I", true)
  | 24 => ("CertificateDeskModel", "r1", "[I", true)
  | 25 => ("CertificateDeskModel", "r2", "[I", true)
  | 26 => ("CertificateDeskModel", "r3", "[I", true)
  | 27 => ("CertificateDeskModel", "r4", "[I", true)
  | _ => ("CertificateDeskModel", "r5", "[I", true)
def t_Mo : Nat → FieldType := fun k => match k with
  | 0 => .int
  | 1 => .int
  | 2 => .int
  | 3 => .int
  | 4 => .int
  | 5 => .double
  | 6 => .array .double
  | 7 => .array .double
  | 8 => .array .double
  | 9 => .array .double
  | 10 => .array .double
  | 11 => .array .double
  | 12 => .array .double
  | 13 => .array .double
  | 14 => .array .double
  | 15 => .array .boolean
  | 16 => .array .boolean
  | 17 => .array .boolean
  | 18 => .array .boolean
  | 19 => .array .boolean
  | 20 => .array .boolean
  | 21 => .int
  | 22 => .array .int
  | 23 => .array .int
  | 24 => .array .int
  | 25 => .array .int
  | 26 => .array .int
  | 27 => .array .int
  | _ => .array .int
theorem n_Mo : ∀ a, a < 29 → ∀ b, b < 29 → a ≠ b → (F_Mo a).2.1 ≠ (F_Mo b).2.1 := by decide +kernel
theorem t_Mo_ok : ∀ k, k < 29 → parseFieldDescriptor (F_Mo k).2.2.1 = some (t_Mo k) := by decide +kernel
theorem i_Mo : ∀ w ∈ u_ws R_Mo F_Mo 29, w ∈ TB := by
  intro w hw
  obtain ⟨k, hk, rfl⟩ := List.mem_map.mp hw
  have hk := List.mem_range.mp hk
  match k, hk with
  | 0, _ => exact tb_mem 630 (by decide +kernel) (by decide +kernel)
  | 1, _ => exact tb_mem 632 (by decide +kernel) (by decide +kernel)
  | 2, _ => exact tb_mem 634 (by decide +kernel) (by decide +kernel)
  | 3, _ => exact tb_mem 636 (by decide +kernel) (by decide +kernel)
  | 4, _ => exact tb_mem 638 (by decide +kernel) (by decide +kernel)
  | 5, _ => exact tb_mem 640 (by decide +kernel) (by decide +kernel)
  | 6, _ => exact tb_mem 642 (by decide +kernel) (by decide +kernel)
  | 7, _ => exact tb_mem 644 (by decide +kernel) (by decide +kernel)
  | 8, _ => exact tb_mem 646 (by decide +kernel) (by decide +kernel)
  | 9, _ => exact tb_mem 648 (by decide +kernel) (by decide +kernel)
  | 10, _ => exact tb_mem 650 (by decide +kernel) (by decide +kernel)
  | 11, _ => exact tb_mem 652 (by decide +kernel) (by decide +kernel)
  | 12, _ => exact tb_mem 654 (by decide +kernel) (by decide +kernel)
  | 13, _ => exact tb_mem 656 (by decide +kernel) (by decide +kernel)
  | 14, _ => exact tb_mem 658 (by decide +kernel) (by decide +kernel)
  | 15, _ => exact tb_mem 660 (by decide +kernel) (by decide +kernel)
  | 16, _ => exact tb_mem 662 (by decide +kernel) (by decide +kernel)
  | 17, _ => exact tb_mem 664 (by decide +kernel) (by decide +kernel)
  | 18, _ => exact tb_mem 666 (by decide +kernel) (by decide +kernel)
  | 19, _ => exact tb_mem 668 (by decide +kernel) (by decide +kernel)
  | 20, _ => exact tb_mem 670 (by decide +kernel) (by decide +kernel)
  | 21, _ => exact tb_mem 672 (by decide +kernel) (by decide +kernel)
  | 22, _ => exact tb_mem 674 (by decide +kernel) (by decide +kernel)
  | 23, _ => exact tb_mem 676 (by decide +kernel) (by decide +kernel)
  | 24, _ => exact tb_mem 678 (by decide +kernel) (by decide +kernel)
  | 25, _ => exact tb_mem 680 (by decide +kernel) (by decide +kernel)
  | 26, _ => exact tb_mem 682 (by decide +kernel) (by decide +kernel)
  | 27, _ => exact tb_mem 684 (by decide +kernel) (by decide +kernel)
  | 28, _ => exact tb_mem 686 (by decide +kernel) (by decide +kernel)
  | k + 29, h => omega
abbrev CL : List vw_C := [(R_Nu, F_Nu, 2), (R_Li, F_Li, 5), (R_Ce, F_Ce, 4), (R_Pr, F_Pr, 3), (R_Ex, F_Ex, 3), (R_De, F_De, 10), (R_Mo, F_Mo, 29)]
abbrev b_De_init : ByteArray := prog_1_method_1_code
def y_De_init : MethodName := ⟨"CertificateDesk", "<init>", "()V"⟩
theorem k_De_init : Cond.code y_De_init b_De_init 1 none ∈ TB := tb_mem 24 (by decide +kernel) (by decide +kernel)
abbrev b_De_addActivity : ByteArray := prog_1_method_22_code
def y_De_addActivity : MethodName := ⟨"CertificateDesk", "addActivity", "(LCertificateDesk$Exact;IZ)V"⟩
theorem k_De_addActivity : Cond.code y_De_addActivity b_De_addActivity 5 none ∈ TB := tb_mem 453 (by decide +kernel) (by decide +kernel)
abbrev b_De_addCosts : ByteArray := prog_1_method_20_code
def y_De_addCosts : MethodName := ⟨"CertificateDesk", "addCosts", "()V"⟩
theorem k_De_addCosts : Cond.code y_De_addCosts b_De_addCosts 2 none ∈ TB := tb_mem 517 (by decide +kernel) (by decide +kernel)
abbrev b_De_addGap : ByteArray := prog_1_method_19_code
def y_De_addGap : MethodName := ⟨"CertificateDesk", "addGap", "()V"⟩
theorem k_De_addGap : Cond.code y_De_addGap b_De_addGap 3 none ∈ TB := tb_mem 513 (by decide +kernel) (by decide +kernel)
abbrev b_De_addMinimized : ByteArray := prog_1_method_18_code
def y_De_addMinimized : MethodName := ⟨"CertificateDesk", "addMinimized", "()V"⟩
theorem k_De_addMinimized : Cond.code y_De_addMinimized b_De_addMinimized 1 none ∈ TB := tb_mem 533 (by decide +kernel) (by decide +kernel)
abbrev b_De_addReducedCost : ByteArray := prog_1_method_23_code
def y_De_addReducedCost : MethodName := ⟨"CertificateDesk", "addReducedCost", "(LCertificateDesk$Exact;IZLCertificateDesk$Numbers;I)V"⟩
theorem k_De_addReducedCost : Cond.code y_De_addReducedCost b_De_addReducedCost 10 none ∈ TB := tb_mem 486 (by decide +kernel) (by decide +kernel)
abbrev b_De_addSquares : ByteArray := prog_1_method_21_code
def y_De_addSquares : MethodName := ⟨"CertificateDesk", "addSquares", "(I)V"⟩
theorem k_De_addSquares : Cond.code y_De_addSquares b_De_addSquares 6 none ∈ TB := tb_mem 521 (by decide +kernel) (by decide +kernel)
abbrev b_De_certify : ByteArray := prog_1_method_9_code
def y_De_certify : MethodName := ⟨"CertificateDesk", "certify", "(II)D"⟩
theorem k_De_certify : Cond.code y_De_certify b_De_certify 3 (some .double) ∈ TB := tb_mem 387 (by decide +kernel) (by decide +kernel)
abbrev b_De_column : ByteArray := prog_1_method_4_code
def y_De_column : MethodName := ⟨"CertificateDesk", "column", "(DIDD)I"⟩
theorem k_De_column : Cond.code y_De_column b_De_column 9 (some .int) ∈ TB := tb_mem 297 (by decide +kernel) (by decide +kernel)
abbrev b_De_constant : ByteArray := prog_1_method_2_code
def y_De_constant : MethodName := ⟨"CertificateDesk", "constant", "(D)V"⟩
theorem k_De_constant : Cond.code y_De_constant b_De_constant 3 none ∈ TB := tb_mem 179 (by decide +kernel) (by decide +kernel)
abbrev b_De_entry : ByteArray := prog_1_method_5_code
def y_De_entry : MethodName := ⟨"CertificateDesk", "entry", "(IID)I"⟩
theorem k_De_entry : Cond.code y_De_entry b_De_entry 5 (some .int) ∈ TB := tb_mem 307 (by decide +kernel) (by decide +kernel)
abbrev b_De_giveValue : ByteArray := prog_1_method_11_code
def y_De_giveValue : MethodName := ⟨"CertificateDesk", "giveValue", "(LCertificateDesk$Lines;IDI)V"⟩
theorem k_De_giveValue : Cond.code y_De_giveValue b_De_giveValue 5 none ∈ TB := tb_mem 370 (by decide +kernel) (by decide +kernel)
abbrev b_De_pair : ByteArray := prog_1_method_6_code
def y_De_pair : MethodName := ⟨"CertificateDesk", "pair", "(IID)I"⟩
theorem k_De_pair : Cond.code y_De_pair b_De_pair 5 (some .int) ∈ TB := tb_mem 357 (by decide +kernel) (by decide +kernel)
abbrev b_De_raiseByCandidateDual : ByteArray := prog_1_method_17_code
def y_De_raiseByCandidateDual : MethodName := ⟨"CertificateDesk", "raiseByCandidateDual", "(LCertificateDesk$Lines;I)V"⟩
theorem k_De_raiseByCandidateDual : Cond.code y_De_raiseByCandidateDual b_De_raiseByCandidateDual 4 none ∈ TB := tb_mem 490 (by decide +kernel) (by decide +kernel)
abbrev b_De_raiseByColumn : ByteArray := prog_1_method_15_code
def y_De_raiseByColumn : MethodName := ⟨"CertificateDesk", "raiseByColumn", "(I)V"⟩
theorem k_De_raiseByColumn : Cond.code y_De_raiseByColumn b_De_raiseByColumn 2 none ∈ TB := tb_mem 478 (by decide +kernel) (by decide +kernel)
abbrev b_De_raiseByDuals : ByteArray := prog_1_method_16_code
def y_De_raiseByDuals : MethodName := ⟨"CertificateDesk", "raiseByDuals", "()V"⟩
theorem k_De_raiseByDuals : Cond.code y_De_raiseByDuals b_De_raiseByDuals 2 none ∈ TB := tb_mem 482 (by decide +kernel) (by decide +kernel)
abbrev b_De_raiseByRow : ByteArray := prog_1_method_14_code
def y_De_raiseByRow : MethodName := ⟨"CertificateDesk", "raiseByRow", "(I)V"⟩
theorem k_De_raiseByRow : Cond.code y_De_raiseByRow b_De_raiseByRow 2 none ∈ TB := tb_mem 409 (by decide +kernel) (by decide +kernel)
abbrev b_De_reckon : ByteArray := prog_1_method_13_code
def y_De_reckon : MethodName := ⟨"CertificateDesk", "reckon", "(II)V"⟩
theorem k_De_reckon : Cond.code y_De_reckon b_De_reckon 4 none ∈ TB := tb_mem 398 (by decide +kernel) (by decide +kernel)
abbrev b_De_refuseUnknown : ByteArray := prog_1_method_12_code
def y_De_refuseUnknown : MethodName := ⟨"CertificateDesk", "refuseUnknown", "(II)V"⟩
theorem k_De_refuseUnknown : Cond.code y_De_refuseUnknown b_De_refuseUnknown 3 none ∈ TB := tb_mem 391 (by decide +kernel) (by decide +kernel)
abbrev b_De_row : ByteArray := prog_1_method_3_code
def y_De_row : MethodName := ⟨"CertificateDesk", "row", "(IDD)I"⟩
theorem k_De_row : Cond.code y_De_row b_De_row 6 (some .int) ∈ TB := tb_mem 260 (by decide +kernel) (by decide +kernel)
abbrev b_De_sign : ByteArray := prog_1_method_10_code
def y_De_sign : MethodName := ⟨"CertificateDesk", "sign", "(II)I"⟩
theorem k_De_sign : Cond.code y_De_sign b_De_sign 3 (some .int) ∈ TB := tb_mem 594 (by decide +kernel) (by decide +kernel)
abbrev b_De_x : ByteArray := prog_1_method_7_code
def y_De_x : MethodName := ⟨"CertificateDesk", "x", "(IDI)V"⟩
theorem k_De_x : Cond.code y_De_x b_De_x 5 none ∈ TB := tb_mem 367 (by decide +kernel) (by decide +kernel)
abbrev b_De_y : ByteArray := prog_1_method_8_code
def y_De_y : MethodName := ⟨"CertificateDesk", "y", "(IDI)V"⟩
theorem k_De_y : Cond.code y_De_y b_De_y 5 none ∈ TB := tb_mem 379 (by decide +kernel) (by decide +kernel)
abbrev b_Ce_init : ByteArray := prog_2_method_1_code
def y_Ce_init : MethodName := ⟨"CertificateDesk$Cells", "<init>", "(I)V"⟩
theorem k_Ce_init : Cond.code y_Ce_init b_Ce_init 3 none ∈ TB := tb_mem 79 (by decide +kernel) (by decide +kernel)
abbrev b_Ce_append : ByteArray := prog_2_method_4_code
def y_Ce_append : MethodName := ⟨"CertificateDesk$Cells", "append", "(IID)I"⟩
theorem k_Ce_append : Cond.code y_Ce_append b_Ce_append 6 (some .int) ∈ TB := tb_mem 349 (by decide +kernel) (by decide +kernel)
abbrev b_Ce_first : ByteArray := prog_2_method_5_code
def y_Ce_first : MethodName := ⟨"CertificateDesk$Cells", "first", "(I)I"⟩
theorem k_Ce_first : Cond.code y_Ce_first b_Ce_first 2 (some .int) ∈ TB := tb_mem 320 (by decide +kernel) (by decide +kernel)
abbrev b_Ce_holds : ByteArray := prog_2_method_3_code
def y_Ce_holds : MethodName := ⟨"CertificateDesk$Cells", "holds", "(II)Z"⟩
theorem k_Ce_holds : Cond.code y_Ce_holds b_Ce_holds 4 (some .boolean) ∈ TB := tb_mem 316 (by decide +kernel) (by decide +kernel)
abbrev b_Ce_isFull : ByteArray := prog_2_method_2_code
def y_Ce_isFull : MethodName := ⟨"CertificateDesk$Cells", "isFull", "()Z"⟩
theorem k_Ce_isFull : Cond.code y_Ce_isFull b_Ce_isFull 1 (some .boolean) ∈ TB := tb_mem 344 (by decide +kernel) (by decide +kernel)
abbrev b_Ce_second : ByteArray := prog_2_method_6_code
def y_Ce_second : MethodName := ⟨"CertificateDesk$Cells", "second", "(I)I"⟩
theorem k_Ce_second : Cond.code y_Ce_second b_Ce_second 2 (some .int) ∈ TB := tb_mem 324 (by decide +kernel) (by decide +kernel)
abbrev b_Ex_init : ByteArray := prog_3_method_1_code
def y_Ex_init : MethodName := ⟨"CertificateDesk$Exact", "<init>", "()V"⟩
theorem k_Ex_init : Cond.code y_Ex_init b_Ex_init 1 none ∈ TB := tb_mem 122 (by decide +kernel) (by decide +kernel)
abbrev b_Ex_add : ByteArray := prog_3_method_3_code
def y_Ex_add : MethodName := ⟨"CertificateDesk$Exact", "add", "(LCertificateDesk$Product;)V"⟩
theorem k_Ex_add : Cond.code y_Ex_add b_Ex_add 12 none ∈ TB := tb_mem 438 (by decide +kernel) (by decide +kernel)
abbrev b_Ex_addAt : ByteArray := prog_3_method_4_code
def y_Ex_addAt : MethodName := ⟨"CertificateDesk$Exact", "addAt", "(IJ)V"⟩
theorem k_Ex_addAt : Cond.code y_Ex_addAt b_Ex_addAt 4 none ∈ TB := tb_mem 449 (by decide +kernel) (by decide +kernel)
abbrev b_Ex_bitAt : ByteArray := prog_3_method_16_code
def y_Ex_bitAt : MethodName := ⟨"CertificateDesk$Exact", "bitAt", "(I)J"⟩
theorem k_Ex_bitAt : Cond.code y_Ex_bitAt b_Ex_bitAt 3 (some .long) ∈ TB := tb_mem 549 (by decide +kernel) (by decide +kernel)
abbrev b_Ex_clear : ByteArray := prog_3_method_2_code
def y_Ex_clear : MethodName := ⟨"CertificateDesk$Exact", "clear", "()V"⟩
theorem k_Ex_clear : Cond.code y_Ex_clear b_Ex_clear 1 none ∈ TB := tb_mem 402 (by decide +kernel) (by decide +kernel)
abbrev b_Ex_hasBitUnder : ByteArray := prog_3_method_17_code
def y_Ex_hasBitUnder : MethodName := ⟨"CertificateDesk$Exact", "hasBitUnder", "(I)Z"⟩
theorem k_Ex_hasBitUnder : Cond.code y_Ex_hasBitUnder b_Ex_hasBitUnder 5 (some .boolean) ∈ TB := tb_mem 553 (by decide +kernel) (by decide +kernel)
abbrev b_Ex_isBelow : ByteArray := prog_3_method_9_code
def y_Ex_isBelow : MethodName := ⟨"CertificateDesk$Exact", "isBelow", "(LCertificateDesk$Exact;)Z"⟩
theorem k_Ex_isBelow : Cond.code y_Ex_isBelow b_Ex_isBelow 3 (some .boolean) ∈ TB := tb_mem 467 (by decide +kernel) (by decide +kernel)
abbrev b_Ex_isTooGreat : ByteArray := prog_3_method_11_code
def y_Ex_isTooGreat : MethodName := ⟨"CertificateDesk$Exact", "isTooGreat", "()Z"⟩
theorem k_Ex_isTooGreat : Cond.code y_Ex_isTooGreat b_Ex_isTooGreat 1 (some .boolean) ∈ TB := tb_mem 557 (by decide +kernel) (by decide +kernel)
abbrev b_Ex_mantissaFrom : ByteArray := prog_3_method_15_code
def y_Ex_mantissaFrom : MethodName := ⟨"CertificateDesk$Exact", "mantissaFrom", "(I)J"⟩
theorem k_Ex_mantissaFrom : Cond.code y_Ex_mantissaFrom b_Ex_mantissaFrom 5 (some .long) ∈ TB := tb_mem 544 (by decide +kernel) (by decide +kernel)
abbrev b_Ex_negate : ByteArray := prog_3_method_7_code
def y_Ex_negate : MethodName := ⟨"CertificateDesk$Exact", "negate", "()V"⟩
theorem k_Ex_negate : Cond.code y_Ex_negate b_Ex_negate 2 none ∈ TB := tb_mem 509 (by decide +kernel) (by decide +kernel)
abbrev b_Ex_raiseTo : ByteArray := prog_3_method_8_code
def y_Ex_raiseTo : MethodName := ⟨"CertificateDesk$Exact", "raiseTo", "(LCertificateDesk$Exact;)V"⟩
theorem k_Ex_raiseTo : Cond.code y_Ex_raiseTo b_Ex_raiseTo 2 none ∈ TB := tb_mem 459 (by decide +kernel) (by decide +kernel)
abbrev b_Ex_roundUp : ByteArray := prog_3_method_10_code
def y_Ex_roundUp : MethodName := ⟨"CertificateDesk$Exact", "roundUp", "()V"⟩
theorem k_Ex_roundUp : Cond.code y_Ex_roundUp b_Ex_roundUp 5 none ∈ TB := tb_mem 537 (by decide +kernel) (by decide +kernel)
abbrev b_Ex_rounded : ByteArray := prog_3_method_12_code
def y_Ex_rounded : MethodName := ⟨"CertificateDesk$Exact", "rounded", "()D"⟩
theorem k_Ex_rounded : Cond.code y_Ex_rounded b_Ex_rounded 1 (some .double) ∈ TB := tb_mem 578 (by decide +kernel) (by decide +kernel)
abbrev b_Ex_scaled : ByteArray := prog_3_method_13_code
def y_Ex_scaled : MethodName := ⟨"CertificateDesk$Exact", "scaled", "(JI)D"⟩
theorem k_Ex_scaled : Cond.code y_Ex_scaled b_Ex_scaled 9 (some .double) ∈ TB := tb_mem 582 (by decide +kernel) (by decide +kernel)
abbrev b_Ex_settle : ByteArray := prog_3_method_5_code
def y_Ex_settle : MethodName := ⟨"CertificateDesk$Exact", "settle", "()V"⟩
theorem k_Ex_settle : Cond.code y_Ex_settle b_Ex_settle 6 none ∈ TB := tb_mem 463 (by decide +kernel) (by decide +kernel)
abbrev b_Ex_signum : ByteArray := prog_3_method_6_code
def y_Ex_signum : MethodName := ⟨"CertificateDesk$Exact", "signum", "()I"⟩
theorem k_Ex_signum : Cond.code y_Ex_signum b_Ex_signum 1 (some .int) ∈ TB := tb_mem 494 (by decide +kernel) (by decide +kernel)
abbrev b_Ex_topPlace : ByteArray := prog_3_method_14_code
def y_Ex_topPlace : MethodName := ⟨"CertificateDesk$Exact", "topPlace", "()I"⟩
theorem k_Ex_topPlace : Cond.code y_Ex_topPlace b_Ex_topPlace 2 (some .int) ∈ TB := tb_mem 498 (by decide +kernel) (by decide +kernel)
abbrev b_Li_init : ByteArray := prog_4_method_1_code
def y_Li_init : MethodName := ⟨"CertificateDesk$Lines", "<init>", "(I)V"⟩
theorem k_Li_init : Cond.code y_Li_init b_Li_init 2 none ∈ TB := tb_mem 50 (by decide +kernel) (by decide +kernel)
abbrev b_Li_allows : ByteArray := prog_4_method_2_code
def y_Li_allows : MethodName := ⟨"CertificateDesk$Lines", "allows", "(IDD)Z"⟩
theorem k_Li_allows : Cond.code y_Li_allows b_Li_allows 5 (some .boolean) ∈ TB := tb_mem 263 (by decide +kernel) (by decide +kernel)
abbrev b_Li_append : ByteArray := prog_4_method_5_code
def y_Li_append : MethodName := ⟨"CertificateDesk$Lines", "append", "(IDD)I"⟩
theorem k_Li_append : Cond.code y_Li_append b_Li_append 7 (some .int) ∈ TB := tb_mem 289 (by decide +kernel) (by decide +kernel)
abbrev b_Li_hasHigh : ByteArray := prog_4_method_7_code
def y_Li_hasHigh : MethodName := ⟨"CertificateDesk$Lines", "hasHigh", "(I)Z"⟩
theorem k_Li_hasHigh : Cond.code y_Li_hasHigh b_Li_hasHigh 2 (some .boolean) ∈ TB := tb_mem 474 (by decide +kernel) (by decide +kernel)
abbrev b_Li_hasLow : ByteArray := prog_4_method_6_code
def y_Li_hasLow : MethodName := ⟨"CertificateDesk$Lines", "hasLow", "(I)Z"⟩
theorem k_Li_hasLow : Cond.code y_Li_hasLow b_Li_hasLow 2 (some .boolean) ∈ TB := tb_mem 413 (by decide +kernel) (by decide +kernel)
abbrev b_Li_holds : ByteArray := prog_4_method_4_code
def y_Li_holds : MethodName := ⟨"CertificateDesk$Lines", "holds", "(I)Z"⟩
theorem k_Li_holds : Cond.code y_Li_holds b_Li_holds 2 (some .boolean) ∈ TB := tb_mem 311 (by decide +kernel) (by decide +kernel)
abbrev b_Li_isFull : ByteArray := prog_4_method_3_code
def y_Li_isFull : MethodName := ⟨"CertificateDesk$Lines", "isFull", "()Z"⟩
theorem k_Li_isFull : Cond.code y_Li_isFull b_Li_isFull 1 (some .boolean) ∈ TB := tb_mem 269 (by decide +kernel) (by decide +kernel)
abbrev b_Nu_init : ByteArray := prog_5_method_1_code
def y_Nu_init : MethodName := ⟨"CertificateDesk$Numbers", "<init>", "(I)V"⟩
theorem k_Nu_init : Cond.code y_Nu_init b_Nu_init 3 none ∈ TB := tb_mem 32 (by decide +kernel) (by decide +kernel)
abbrev b_Nu_allows : ByteArray := prog_5_method_2_code
def y_Nu_allows : MethodName := ⟨"CertificateDesk$Numbers", "allows", "(D)Z"⟩
theorem k_Nu_allows : Cond.code y_Nu_allows b_Nu_allows 6 (some .boolean) ∈ TB := tb_mem 182 (by decide +kernel) (by decide +kernel)
abbrev b_Nu_exponent : ByteArray := prog_5_method_5_code
def y_Nu_exponent : MethodName := ⟨"CertificateDesk$Numbers", "exponent", "(I)I"⟩
theorem k_Nu_exponent : Cond.code y_Nu_exponent b_Nu_exponent 2 (some .int) ∈ TB := tb_mem 434 (by decide +kernel) (by decide +kernel)
abbrev b_Nu_mantissa : ByteArray := prog_5_method_4_code
def y_Nu_mantissa : MethodName := ⟨"CertificateDesk$Numbers", "mantissa", "(I)J"⟩
theorem k_Nu_mantissa : Cond.code y_Nu_mantissa b_Nu_mantissa 2 (some .long) ∈ TB := tb_mem 426 (by decide +kernel) (by decide +kernel)
abbrev b_Nu_put : ByteArray := prog_5_method_3_code
def y_Nu_put : MethodName := ⟨"CertificateDesk$Numbers", "put", "(IDI)V"⟩
theorem k_Nu_put : Cond.code y_Nu_put b_Nu_put 14 none ∈ TB := tb_mem 137 (by decide +kernel) (by decide +kernel)
abbrev b_Nu_signum : ByteArray := prog_5_method_6_code
def y_Nu_signum : MethodName := ⟨"CertificateDesk$Numbers", "signum", "(I)I"⟩
theorem k_Nu_signum : Cond.code y_Nu_signum b_Nu_signum 2 (some .int) ∈ TB := tb_mem 525 (by decide +kernel) (by decide +kernel)
abbrev b_Pr_init : ByteArray := prog_6_method_1_code
def y_Pr_init : MethodName := ⟨"CertificateDesk$Product", "<init>", "()V"⟩
theorem k_Pr_init : Cond.code y_Pr_init b_Pr_init 1 none ∈ TB := tb_mem 103 (by decide +kernel) (by decide +kernel)
abbrev b_Pr_start : ByteArray := prog_6_method_2_code
def y_Pr_start : MethodName := ⟨"CertificateDesk$Product", "start", "(ZI)LCertificateDesk$Product;"⟩
theorem k_Pr_start : Cond.code y_Pr_start b_Pr_start 3 (some (.object "CertificateDesk$Product")) ∈ TB := tb_mem 417 (by decide +kernel) (by decide +kernel)
abbrev b_Pr_times : ByteArray := prog_6_method_3_code
def y_Pr_times : MethodName := ⟨"CertificateDesk$Product", "times", "(LCertificateDesk$Numbers;I)LCertificateDesk$Product;"⟩
theorem k_Pr_times : Cond.code y_Pr_times b_Pr_times 20 (some (.object "CertificateDesk$Product")) ∈ TB := tb_mem 422 (by decide +kernel) (by decide +kernel)
abbrev b_La_certify : ByteArray := method_10_code
def y_La_certify : MethodName := ⟨"CertificateDeskLaw", "certify", "(LCertificateDesk;II[D)I"⟩
theorem k_La_certify : (Jvm.Cond.codeWith ({ cls := "CertificateDeskLaw", name := "certify", desc := "(LCertificateDesk;II[D)I" } : Jvm.MethodName) method_10_code (5 : Nat) (Option.some Jvm.ClassFile.FieldType.int) [((0 : Nat), (9 : Nat), (12 : Nat), (13 : Nat)), ((0 : Nat), (9 : Nat), (16 : Nat), (19 : Nat)), ((0 : Nat), (9 : Nat), (20 : Nat), (45 : Nat))]) ∈ TB := tb_mem 382 (by decide +kernel) (by decide +kernel)
abbrev b_La_column : ByteArray := method_5_code
def y_La_column : MethodName := ⟨"CertificateDeskLaw", "column", "(LCertificateDesk;DIDD[J)I"⟩
theorem k_La_column : (Jvm.Cond.codeWith ({ cls := "CertificateDeskLaw", name := "column", desc := "(LCertificateDesk;DIDD[J)I" } : Jvm.MethodName) method_5_code (10 : Nat) (Option.some Jvm.ClassFile.FieldType.int) [((0 : Nat), (15 : Nat), (18 : Nat), (13 : Nat)), ((0 : Nat), (15 : Nat), (22 : Nat), (19 : Nat))]) ∈ TB := tb_mem 293 (by decide +kernel) (by decide +kernel)
abbrev b_La_constant : ByteArray := method_3_code
def y_La_constant : MethodName := ⟨"CertificateDeskLaw", "constant", "(LCertificateDesk;D)I"⟩
theorem k_La_constant : (Jvm.Cond.codeWith ({ cls := "CertificateDeskLaw", name := "constant", desc := "(LCertificateDesk;D)I" } : Jvm.MethodName) method_3_code (4 : Nat) (Option.some Jvm.ClassFile.FieldType.int) [((0 : Nat), (5 : Nat), (8 : Nat), (13 : Nat))]) ∈ TB := tb_mem 174 (by decide +kernel) (by decide +kernel)
abbrev b_La_entry : ByteArray := method_6_code
def y_La_entry : MethodName := ⟨"CertificateDeskLaw", "entry", "(LCertificateDesk;IID[J)I"⟩
theorem k_La_entry : (Jvm.Cond.codeWith ({ cls := "CertificateDeskLaw", name := "entry", desc := "(LCertificateDesk;IID[J)I" } : Jvm.MethodName) method_6_code (7 : Nat) (Option.some Jvm.ClassFile.FieldType.int) [((0 : Nat), (12 : Nat), (15 : Nat), (13 : Nat)), ((0 : Nat), (12 : Nat), (19 : Nat), (29 : Nat)), ((0 : Nat), (12 : Nat), (23 : Nat), (19 : Nat))]) ∈ TB := tb_mem 302 (by decide +kernel) (by decide +kernel)
abbrev b_La_law : ByteArray := code
def y_La_law : MethodName := x
abbrev b_La_pair : ByteArray := method_7_code
def y_La_pair : MethodName := ⟨"CertificateDeskLaw", "pair", "(LCertificateDesk;IID[J)I"⟩
theorem k_La_pair : (Jvm.Cond.codeWith ({ cls := "CertificateDeskLaw", name := "pair", desc := "(LCertificateDesk;IID[J)I" } : Jvm.MethodName) method_7_code (7 : Nat) (Option.some Jvm.ClassFile.FieldType.int) [((0 : Nat), (12 : Nat), (15 : Nat), (13 : Nat)), ((0 : Nat), (12 : Nat), (19 : Nat), (29 : Nat)), ((0 : Nat), (12 : Nat), (23 : Nat), (19 : Nat))]) ∈ TB := tb_mem 353 (by decide +kernel) (by decide +kernel)
abbrev b_La_row : ByteArray := method_4_code
def y_La_row : MethodName := ⟨"CertificateDeskLaw", "row", "(LCertificateDesk;IDD[J)I"⟩
theorem k_La_row : (Jvm.Cond.codeWith ({ cls := "CertificateDeskLaw", name := "row", desc := "(LCertificateDesk;IDD[J)I" } : Jvm.MethodName) method_4_code (8 : Nat) (Option.some Jvm.ClassFile.FieldType.int) [((0 : Nat), (13 : Nat), (16 : Nat), (13 : Nat)), ((0 : Nat), (13 : Nat), (20 : Nat), (19 : Nat))]) ∈ TB := tb_mem 255 (by decide +kernel) (by decide +kernel)
abbrev b_La_sign : ByteArray := method_11_code
def y_La_sign : MethodName := ⟨"CertificateDeskLaw", "sign", "(LCertificateDesk;II[J)I"⟩
theorem k_La_sign : (Jvm.Cond.codeWith ({ cls := "CertificateDeskLaw", name := "sign", desc := "(LCertificateDesk;II[J)I" } : Jvm.MethodName) method_11_code (5 : Nat) (Option.some Jvm.ClassFile.FieldType.int) [((0 : Nat), (10 : Nat), (13 : Nat), (13 : Nat)), ((0 : Nat), (10 : Nat), (17 : Nat), (19 : Nat))]) ∈ TB := tb_mem 590 (by decide +kernel) (by decide +kernel)
abbrev b_La_x : ByteArray := method_8_code
def y_La_x : MethodName := ⟨"CertificateDeskLaw", "x", "(LCertificateDesk;IDI)I"⟩
theorem k_La_x : (Jvm.Cond.codeWith ({ cls := "CertificateDeskLaw", name := "x", desc := "(LCertificateDesk;IDI)I" } : Jvm.MethodName) method_8_code (6 : Nat) (Option.some Jvm.ClassFile.FieldType.int) [((0 : Nat), (8 : Nat), (11 : Nat), (13 : Nat)), ((0 : Nat), (8 : Nat), (15 : Nat), (19 : Nat))]) ∈ TB := tb_mem 363 (by decide +kernel) (by decide +kernel)
abbrev b_La_y : ByteArray := method_9_code
def y_La_y : MethodName := ⟨"CertificateDeskLaw", "y", "(LCertificateDesk;IDI)I"⟩
theorem k_La_y : (Jvm.Cond.codeWith ({ cls := "CertificateDeskLaw", name := "y", desc := "(LCertificateDesk;IDI)I" } : Jvm.MethodName) method_9_code (6 : Nat) (Option.some Jvm.ClassFile.FieldType.int) [((0 : Nat), (8 : Nat), (11 : Nat), (13 : Nat)), ((0 : Nat), (8 : Nat), (15 : Nat), (19 : Nat))]) ∈ TB := tb_mem 375 (by decide +kernel) (by decide +kernel)
abbrev b_Mo_init : ByteArray := prog_8_method_1_code
def y_Mo_init : MethodName := ⟨"CertificateDeskModel", "<init>", "()V"⟩
theorem k_Mo_init : Cond.code y_Mo_init b_Mo_init 1 none ∈ TB := tb_mem 599 (by decide +kernel) (by decide +kernel)
abbrev b_Mo_abs : ByteArray := prog_8_method_11_code
def y_Mo_abs : MethodName := ⟨"CertificateDeskModel", "abs", "(D)D"⟩
theorem k_Mo_abs : Cond.code y_Mo_abs b_Mo_abs 2 (some .double) ∈ TB := tb_mem 704 (by decide +kernel) (by decide +kernel)
abbrev b_Mo_activity : ByteArray := prog_8_method_25_code
def y_Mo_activity : MethodName := ⟨"CertificateDeskModel", "activity", "(I)V"⟩
theorem k_Mo_activity : Cond.code y_Mo_activity b_Mo_activity 3 none ∈ TB := tb_mem 759 (by decide +kernel) (by decide +kernel)
abbrev b_Mo_add : ByteArray := prog_8_method_22_code
def y_Mo_add : MethodName := ⟨"CertificateDeskModel", "add", "(DDDIZ)V"⟩
theorem k_Mo_add : Cond.code y_Mo_add b_Mo_add 18 none ∈ TB := tb_mem 767 (by decide +kernel) (by decide +kernel)
abbrev b_Mo_asked : ByteArray := prog_8_method_35_code
def y_Mo_asked : MethodName := ⟨"CertificateDeskModel", "asked", "(II)Z"⟩
theorem k_Mo_asked : Cond.code y_Mo_asked b_Mo_asked 3 (some .boolean) ∈ TB := tb_mem 751 (by decide +kernel) (by decide +kernel)
abbrev b_Mo_bits : ByteArray := prog_8_method_6_code
def y_Mo_bits : MethodName := ⟨"CertificateDeskModel", "bits", "([II)I"⟩
theorem k_Mo_bits : Cond.code y_Mo_bits b_Mo_bits 4 (some .int) ∈ TB := tb_mem 804 (by decide +kernel) (by decide +kernel)
abbrev b_Mo_certify : ByteArray := prog_8_method_37_code
def y_Mo_certify : MethodName := ⟨"CertificateDeskModel", "certify", "(II)D"⟩
theorem k_Mo_certify : Cond.code y_Mo_certify b_Mo_certify 6 (some .double) ∈ TB := tb_mem 747 (by decide +kernel) (by decide +kernel)
abbrev b_Mo_column : ByteArray := prog_8_method_16_code
def y_Mo_column : MethodName := ⟨"CertificateDeskModel", "column", "(DIDD)I"⟩
theorem k_Mo_column : Cond.code y_Mo_column b_Mo_column 8 (some .int) ∈ TB := tb_mem 727 (by decide +kernel) (by decide +kernel)
abbrev b_Mo_columnFault : ByteArray := prog_8_method_30_code
def y_Mo_columnFault : MethodName := ⟨"CertificateDeskModel", "columnFault", "(I)D"⟩
theorem k_Mo_columnFault : Cond.code y_Mo_columnFault b_Mo_columnFault 6 (some .double) ∈ TB := tb_mem 814 (by decide +kernel) (by decide +kernel)
abbrev b_Mo_constant : ByteArray := prog_8_method_14_code
def y_Mo_constant : MethodName := ⟨"CertificateDeskModel", "constant", "(D)V"⟩
theorem k_Mo_constant : Cond.code y_Mo_constant b_Mo_constant 3 none ∈ TB := tb_mem 698 (by decide +kernel) (by decide +kernel)
abbrev b_Mo_dualFault : ByteArray := prog_8_method_31_code
def y_Mo_dualFault : MethodName := ⟨"CertificateDeskModel", "dualFault", "(I)D"⟩
theorem k_Mo_dualFault : Cond.code y_Mo_dualFault b_Mo_dualFault 3 (some .double) ∈ TB := tb_mem 818 (by decide +kernel) (by decide +kernel)
abbrev b_Mo_entry : ByteArray := prog_8_method_17_code
def y_Mo_entry : MethodName := ⟨"CertificateDeskModel", "entry", "(IID)I"⟩
theorem k_Mo_entry : Cond.code y_Mo_entry b_Mo_entry 5 (some .int) ∈ TB := tb_mem 731 (by decide +kernel) (by decide +kernel)
abbrev b_Mo_exact : ByteArray := prog_8_method_7_code
def y_Mo_exact : MethodName := ⟨"CertificateDeskModel", "exact", "(D[I)I"⟩
theorem k_Mo_exact : Cond.code y_Mo_exact b_Mo_exact 10 (some .int) ∈ TB := tb_mem 771 (by decide +kernel) (by decide +kernel)
abbrev b_Mo_excess : ByteArray := prog_8_method_27_code
def y_Mo_excess : MethodName := ⟨"CertificateDeskModel", "excess", "(Z)D"⟩
theorem k_Mo_excess : Cond.code y_Mo_excess b_Mo_excess 3 (some .double) ∈ TB := tb_mem 788 (by decide +kernel) (by decide +kernel)
abbrev b_Mo_fails : ByteArray := prog_8_method_9_code
def y_Mo_fails : MethodName := ⟨"CertificateDeskModel", "fails", "(ZI)Z"⟩
theorem k_Mo_fails : Cond.code y_Mo_fails b_Mo_fails 3 (some .boolean) ∈ TB := tb_mem 713 (by decide +kernel) (by decide +kernel)
abbrev b_Mo_gap : ByteArray := prog_8_method_34_code
def y_Mo_gap : MethodName := ⟨"CertificateDeskModel", "gap", "()D"⟩
theorem k_Mo_gap : Cond.code y_Mo_gap b_Mo_gap 6 (some .double) ∈ TB := tb_mem 830 (by decide +kernel) (by decide +kernel)
abbrev b_Mo_given : ByteArray := prog_8_method_13_code
def y_Mo_given : MethodName := ⟨"CertificateDeskModel", "given", "(D)D"⟩
theorem k_Mo_given : Cond.code y_Mo_given b_Mo_given 2 (some .double) ∈ TB := tb_mem 716 (by decide +kernel) (by decide +kernel)
abbrev b_Mo_goal : ByteArray := prog_8_method_33_code
def y_Mo_goal : MethodName := ⟨"CertificateDeskModel", "goal", "(I)V"⟩
theorem k_Mo_goal : Cond.code y_Mo_goal b_Mo_goal 4 none ∈ TB := tb_mem 834 (by decide +kernel) (by decide +kernel)
abbrev b_Mo_goalOf : ByteArray := prog_8_method_36_code
def y_Mo_goalOf : MethodName := ⟨"CertificateDeskModel", "goalOf", "()V"⟩
theorem k_Mo_goalOf : Cond.code y_Mo_goalOf b_Mo_goalOf 1 none ∈ TB := tb_mem 838 (by decide +kernel) (by decide +kernel)
abbrev b_Mo_in : ByteArray := prog_8_method_8_code
def y_Mo_in : MethodName := ⟨"CertificateDeskModel", "in", "(III)Z"⟩
theorem k_Mo_in : Cond.code y_Mo_in b_Mo_in 3 (some .boolean) ∈ TB := tb_mem 723 (by decide +kernel) (by decide +kernel)
abbrev b_Mo_isNumber : ByteArray := prog_8_method_12_code
def y_Mo_isNumber : MethodName := ⟨"CertificateDeskModel", "isNumber", "(D)Z"⟩
theorem k_Mo_isNumber : Cond.code y_Mo_isNumber b_Mo_isNumber 2 (some .boolean) ∈ TB := tb_mem 701 (by decide +kernel) (by decide +kernel)
abbrev b_Mo_most : ByteArray := prog_8_method_38_code
def y_Mo_most : MethodName := ⟨"CertificateDeskModel", "most", "(DD)D"⟩
theorem k_Mo_most : Cond.code y_Mo_most b_Mo_most 4 (some .double) ∈ TB := tb_mem 810 (by decide +kernel) (by decide +kernel)
abbrev b_Mo_negate : ByteArray := prog_8_method_28_code
def y_Mo_negate : MethodName := ⟨"CertificateDeskModel", "negate", "()V"⟩
theorem k_Mo_negate : Cond.code y_Mo_negate b_Mo_negate 3 none ∈ TB := tb_mem 797 (by decide +kernel) (by decide +kernel)
abbrev b_Mo_pair : ByteArray := prog_8_method_18_code
def y_Mo_pair : MethodName := ⟨"CertificateDeskModel", "pair", "(IID)I"⟩
theorem k_Mo_pair : Cond.code y_Mo_pair b_Mo_pair 5 (some .int) ∈ TB := tb_mem 735 (by decide +kernel) (by decide +kernel)
abbrev b_Mo_power : ByteArray := prog_8_method_10_code
def y_Mo_power : MethodName := ⟨"CertificateDeskModel", "power", "(I)D"⟩
theorem k_Mo_power : Cond.code y_Mo_power b_Mo_power 4 (some .double) ∈ TB := tb_mem 707 (by decide +kernel) (by decide +kernel)
abbrev b_Mo_priceFault : ByteArray := prog_8_method_32_code
def y_Mo_priceFault : MethodName := ⟨"CertificateDeskModel", "priceFault", "(I)D"⟩
theorem k_Mo_priceFault : Cond.code y_Mo_priceFault b_Mo_priceFault 2 (some .double) ∈ TB := tb_mem 826 (by decide +kernel) (by decide +kernel)
abbrev b_Mo_reduced : ByteArray := prog_8_method_26_code
def y_Mo_reduced : MethodName := ⟨"CertificateDeskModel", "reduced", "(I)V"⟩
theorem k_Mo_reduced : Cond.code y_Mo_reduced b_Mo_reduced 3 none ∈ TB := tb_mem 822 (by decide +kernel) (by decide +kernel)
abbrev b_Mo_row : ByteArray := prog_8_method_15_code
def y_Mo_row : MethodName := ⟨"CertificateDeskModel", "row", "(IDD)I"⟩
theorem k_Mo_row : Cond.code y_Mo_row b_Mo_row 6 (some .int) ∈ TB := tb_mem 720 (by decide +kernel) (by decide +kernel)
abbrev b_Mo_rowFault : ByteArray := prog_8_method_29_code
def y_Mo_rowFault : MethodName := ⟨"CertificateDeskModel", "rowFault", "(I)D"⟩
theorem k_Mo_rowFault : Cond.code y_Mo_rowFault b_Mo_rowFault 6 (some .double) ∈ TB := tb_mem 755 (by decide +kernel) (by decide +kernel)
abbrev b_Mo_shiftedLeft : ByteArray := prog_8_method_5_code
def y_Mo_shiftedLeft : MethodName := ⟨"CertificateDeskModel", "shiftedLeft", "([III[I)I"⟩
theorem k_Mo_shiftedLeft : Cond.code y_Mo_shiftedLeft b_Mo_shiftedLeft 7 (some .int) ∈ TB := tb_mem 783 (by decide +kernel) (by decide +kernel)
abbrev b_Mo_sign : ByteArray := prog_8_method_39_code
def y_Mo_sign : MethodName := ⟨"CertificateDeskModel", "sign", "(II)I"⟩
theorem k_Mo_sign : Cond.code y_Mo_sign b_Mo_sign 6 (some .int) ∈ TB := tb_mem 842 (by decide +kernel) (by decide +kernel)
abbrev b_Mo_signOfSum : ByteArray := prog_8_method_23_code
def y_Mo_signOfSum : MethodName := ⟨"CertificateDeskModel", "signOfSum", "()I"⟩
theorem k_Mo_signOfSum : Cond.code y_Mo_signOfSum b_Mo_signOfSum 2 (some .int) ∈ TB := tb_mem 792 (by decide +kernel) (by decide +kernel)
abbrev b_Mo_thrown : ByteArray := prog_8_method_2_code
def y_Mo_thrown : MethodName := ⟨"CertificateDeskModel", "thrown", "()I"⟩
theorem k_Mo_thrown : Cond.code y_Mo_thrown b_Mo_thrown 1 (some .int) ∈ TB := tb_mem 694 (by decide +kernel) (by decide +kernel)
abbrev b_Mo_times : ByteArray := prog_8_method_4_code
def y_Mo_times : MethodName := ⟨"CertificateDeskModel", "times", "([II[II[I)I"⟩
theorem k_Mo_times : Cond.code y_Mo_times b_Mo_times 9 (some .int) ∈ TB := tb_mem 777 (by decide +kernel) (by decide +kernel)
abbrev b_Mo_trim : ByteArray := prog_8_method_3_code
def y_Mo_trim : MethodName := ⟨"CertificateDeskModel", "trim", "([II)I"⟩
theorem k_Mo_trim : Cond.code y_Mo_trim b_Mo_trim 3 (some .int) ∈ TB := tb_mem 780 (by decide +kernel) (by decide +kernel)
abbrev b_Mo_upwards : ByteArray := prog_8_method_24_code
def y_Mo_upwards : MethodName := ⟨"CertificateDeskModel", "upwards", "()D"⟩
theorem k_Mo_upwards : Cond.code y_Mo_upwards b_Mo_upwards 12 (some .double) ∈ TB := tb_mem 801 (by decide +kernel) (by decide +kernel)
abbrev b_Mo_x : ByteArray := prog_8_method_19_code
def y_Mo_x : MethodName := ⟨"CertificateDeskModel", "x", "(IDI)V"⟩
theorem k_Mo_x : Cond.code y_Mo_x b_Mo_x 5 none ∈ TB := tb_mem 739 (by decide +kernel) (by decide +kernel)
abbrev b_Mo_y : ByteArray := prog_8_method_20_code
def y_Mo_y : MethodName := ⟨"CertificateDeskModel", "y", "(IDI)V"⟩
theorem k_Mo_y : Cond.code y_Mo_y b_Mo_y 5 none ∈ TB := tb_mem 743 (by decide +kernel) (by decide +kernel)
abbrev b_Mo_zero : ByteArray := prog_8_method_21_code
def y_Mo_zero : MethodName := ⟨"CertificateDeskModel", "zero", "()V"⟩
theorem k_Mo_zero : Cond.code y_Mo_zero b_Mo_zero 2 none ∈ TB := tb_mem 763 (by decide +kernel) (by decide +kernel)
abbrev b_In_numberOfLeadingZeros : ByteArray := prog_14_method_47_code
def y_In_numberOfLeadingZeros : MethodName := ⟨"java/lang/Integer", "numberOfLeadingZeros", "(I)I"⟩
theorem k_In_numberOfLeadingZeros : Cond.code y_In_numberOfLeadingZeros b_In_numberOfLeadingZeros 2 (some .int) ∈ TB := tb_mem 504 (by decide +kernel) (by decide +kernel)
abbrev b_Lo_compare : ByteArray := prog_15_method_42_code
def y_Lo_compare : MethodName := ⟨"java/lang/Long", "compare", "(JJ)I"⟩
theorem k_Lo_compare : Cond.code y_Lo_compare b_Lo_compare 4 (some .int) ∈ TB := tb_mem 529 (by decide +kernel) (by decide +kernel)
abbrev b_Lo_numberOfLeadingZeros : ByteArray := prog_15_method_48_code
def y_Lo_numberOfLeadingZeros : MethodName := ⟨"java/lang/Long", "numberOfLeadingZeros", "(J)I"⟩
theorem k_Lo_numberOfLeadingZeros : Cond.code y_Lo_numberOfLeadingZeros b_Lo_numberOfLeadingZeros 3 (some .int) ∈ TB := tb_mem 501 (by decide +kernel) (by decide +kernel)
abbrev b_Ma_abs_II : ByteArray := prog_16_method_59_code
def y_Ma_abs_II : MethodName := ⟨"java/lang/Math", "abs", "(I)I"⟩
theorem k_Ma_abs_II : Cond.code y_Ma_abs_II b_Ma_abs_II 1 (some .int) ∈ TB := tb_mem 587 (by decide +kernel) (by decide +kernel)
abbrev b_Ma_abs_JJ : ByteArray := prog_16_method_61_code
def y_Ma_abs_JJ : MethodName := ⟨"java/lang/Math", "abs", "(J)J"⟩
theorem k_Ma_abs_JJ : Cond.code y_Ma_abs_JJ b_Ma_abs_JJ 2 (some .long) ∈ TB := tb_mem 429 (by decide +kernel) (by decide +kernel)
abbrev b_Ma_floorDiv_III : ByteArray := prog_16_method_47_code
def y_Ma_floorDiv_III : MethodName := ⟨"java/lang/Math", "floorDiv", "(II)I"⟩
theorem k_Ma_floorDiv_III : Cond.code y_Ma_floorDiv_III b_Ma_floorDiv_III 3 (some .int) ∈ TB := tb_mem 441 (by decide +kernel) (by decide +kernel)
abbrev b_Ma_floorMod_III : ByteArray := prog_16_method_50_code
def y_Ma_floorMod_III : MethodName := ⟨"java/lang/Math", "floorMod", "(II)I"⟩
theorem k_Ma_floorMod_III : Cond.code y_Ma_floorMod_III b_Ma_floorMod_III 3 (some .int) ∈ TB := tb_mem 444 (by decide +kernel) (by decide +kernel)
abbrev b_Ma_max_III : ByteArray := prog_16_method_65_code
def y_Ma_max_III : MethodName := ⟨"java/lang/Math", "max", "(II)I"⟩
theorem k_Ma_max_III : Cond.code y_Ma_max_III b_Ma_max_III 2 (some .int) ∈ TB := tb_mem 36 (by decide +kernel) (by decide +kernel)
abbrev b_Ar_fill_JJV : ByteArray := prog_21_method_101_code
def y_Ar_fill_JJV : MethodName := ⟨"java/util/Arrays", "fill", "([JJ)V"⟩
theorem k_Ar_fill_JJV : Cond.code y_Ar_fill_JJV b_Ar_fill_JJV 5 none ∈ TB := tb_mem 405 (by decide +kernel) (by decide +kernel)
