/-- a private method of a class that the tables say can be made, by its rows of tables_1 -/
def lw_okq (q : MethodName × Nat) : Prop := (q.1.cls ≠ "java/lang/invoke/MethodHandle" ∧ q.1.cls ≠ "java/lang/invoke/VarHandle") ∧ Cond.instantiable q.1.cls q.2 ∈ tables_1 ∧ Cond.privateMethod q.1 ∈ tables_1 ∧ Cond.instanceMethod q.1 ∈ tables_1
theorem lw_p0 : lw_okq (⟨"java/lang/Throwable", "fillInStackTrace", "(I)Ljava/lang/Throwable;"⟩, 6) := ⟨⟨by decide +kernel, by decide +kernel⟩, List.mem_of_getElem? (i := 224) (by decide +kernel), List.mem_of_getElem? (i := 222) (by decide +kernel), List.mem_of_getElem? (i := 223) (by decide +kernel)⟩
theorem lw_p1 : lw_okq (⟨"CertificateDesk", "refuseUnknown", "(II)V"⟩, 10) := ⟨⟨by decide +kernel, by decide +kernel⟩, List.mem_of_getElem? (i := 21) (by decide +kernel), List.mem_of_getElem? (i := 389) (by decide +kernel), List.mem_of_getElem? (i := 390) (by decide +kernel)⟩
theorem lw_p2 : lw_okq (⟨"CertificateDesk", "reckon", "(II)V"⟩, 10) := ⟨⟨by decide +kernel, by decide +kernel⟩, List.mem_of_getElem? (i := 21) (by decide +kernel), List.mem_of_getElem? (i := 396) (by decide +kernel), List.mem_of_getElem? (i := 397) (by decide +kernel)⟩
theorem lw_p3 : lw_okq (⟨"CertificateDesk", "raiseByRow", "(I)V"⟩, 10) := ⟨⟨by decide +kernel, by decide +kernel⟩, List.mem_of_getElem? (i := 21) (by decide +kernel), List.mem_of_getElem? (i := 407) (by decide +kernel), List.mem_of_getElem? (i := 408) (by decide +kernel)⟩
theorem lw_p4 : lw_okq (⟨"CertificateDesk$Exact", "addAt", "(IJ)V"⟩, 3) := ⟨⟨by decide +kernel, by decide +kernel⟩, List.mem_of_getElem? (i := 119) (by decide +kernel), List.mem_of_getElem? (i := 447) (by decide +kernel), List.mem_of_getElem? (i := 448) (by decide +kernel)⟩
theorem lw_p5 : lw_okq (⟨"CertificateDesk", "addActivity", "(LCertificateDesk$Exact;IZ)V"⟩, 10) := ⟨⟨by decide +kernel, by decide +kernel⟩, List.mem_of_getElem? (i := 21) (by decide +kernel), List.mem_of_getElem? (i := 451) (by decide +kernel), List.mem_of_getElem? (i := 452) (by decide +kernel)⟩
theorem lw_p6 : lw_okq (⟨"CertificateDesk$Exact", "settle", "()V"⟩, 3) := ⟨⟨by decide +kernel, by decide +kernel⟩, List.mem_of_getElem? (i := 119) (by decide +kernel), List.mem_of_getElem? (i := 461) (by decide +kernel), List.mem_of_getElem? (i := 462) (by decide +kernel)⟩
theorem lw_p7 : lw_okq (⟨"CertificateDesk$Exact", "isBelow", "(LCertificateDesk$Exact;)Z"⟩, 3) := ⟨⟨by decide +kernel, by decide +kernel⟩, List.mem_of_getElem? (i := 119) (by decide +kernel), List.mem_of_getElem? (i := 465) (by decide +kernel), List.mem_of_getElem? (i := 466) (by decide +kernel)⟩
theorem lw_p8 : lw_okq (⟨"CertificateDesk", "raiseByColumn", "(I)V"⟩, 10) := ⟨⟨by decide +kernel, by decide +kernel⟩, List.mem_of_getElem? (i := 21) (by decide +kernel), List.mem_of_getElem? (i := 476) (by decide +kernel), List.mem_of_getElem? (i := 477) (by decide +kernel)⟩
theorem lw_p9 : lw_okq (⟨"CertificateDesk", "raiseByDuals", "()V"⟩, 10) := ⟨⟨by decide +kernel, by decide +kernel⟩, List.mem_of_getElem? (i := 21) (by decide +kernel), List.mem_of_getElem? (i := 480) (by decide +kernel), List.mem_of_getElem? (i := 481) (by decide +kernel)⟩
theorem lw_p10 : lw_okq (⟨"CertificateDesk", "addReducedCost", "(LCertificateDesk$Exact;IZLCertificateDesk$Numbers;I)V"⟩, 10) := ⟨⟨by decide +kernel, by decide +kernel⟩, List.mem_of_getElem? (i := 21) (by decide +kernel), List.mem_of_getElem? (i := 484) (by decide +kernel), List.mem_of_getElem? (i := 485) (by decide +kernel)⟩
theorem lw_p11 : lw_okq (⟨"CertificateDesk", "raiseByCandidateDual", "(LCertificateDesk$Lines;I)V"⟩, 10) := ⟨⟨by decide +kernel, by decide +kernel⟩, List.mem_of_getElem? (i := 21) (by decide +kernel), List.mem_of_getElem? (i := 488) (by decide +kernel), List.mem_of_getElem? (i := 489) (by decide +kernel)⟩
theorem lw_p12 : lw_okq (⟨"CertificateDesk$Exact", "topPlace", "()I"⟩, 3) := ⟨⟨by decide +kernel, by decide +kernel⟩, List.mem_of_getElem? (i := 119) (by decide +kernel), List.mem_of_getElem? (i := 496) (by decide +kernel), List.mem_of_getElem? (i := 497) (by decide +kernel)⟩
theorem lw_p13 : lw_okq (⟨"CertificateDesk", "addGap", "()V"⟩, 10) := ⟨⟨by decide +kernel, by decide +kernel⟩, List.mem_of_getElem? (i := 21) (by decide +kernel), List.mem_of_getElem? (i := 511) (by decide +kernel), List.mem_of_getElem? (i := 512) (by decide +kernel)⟩
theorem lw_p14 : lw_okq (⟨"CertificateDesk", "addCosts", "()V"⟩, 10) := ⟨⟨by decide +kernel, by decide +kernel⟩, List.mem_of_getElem? (i := 21) (by decide +kernel), List.mem_of_getElem? (i := 515) (by decide +kernel), List.mem_of_getElem? (i := 516) (by decide +kernel)⟩
theorem lw_p15 : lw_okq (⟨"CertificateDesk", "addSquares", "(I)V"⟩, 10) := ⟨⟨by decide +kernel, by decide +kernel⟩, List.mem_of_getElem? (i := 21) (by decide +kernel), List.mem_of_getElem? (i := 519) (by decide +kernel), List.mem_of_getElem? (i := 520) (by decide +kernel)⟩
def lw_privs_1 : List (MethodName × Nat) := [(⟨"java/lang/Throwable", "fillInStackTrace", "(I)Ljava/lang/Throwable;"⟩, 6), (⟨"CertificateDesk", "refuseUnknown", "(II)V"⟩, 10), (⟨"CertificateDesk", "reckon", "(II)V"⟩, 10), (⟨"CertificateDesk", "raiseByRow", "(I)V"⟩, 10), (⟨"CertificateDesk$Exact", "addAt", "(IJ)V"⟩, 3), (⟨"CertificateDesk", "addActivity", "(LCertificateDesk$Exact;IZ)V"⟩, 10), (⟨"CertificateDesk$Exact", "settle", "()V"⟩, 3), (⟨"CertificateDesk$Exact", "isBelow", "(LCertificateDesk$Exact;)Z"⟩, 3), (⟨"CertificateDesk", "raiseByColumn", "(I)V"⟩, 10), (⟨"CertificateDesk", "raiseByDuals", "()V"⟩, 10), (⟨"CertificateDesk", "addReducedCost", "(LCertificateDesk$Exact;IZLCertificateDesk$Numbers;I)V"⟩, 10), (⟨"CertificateDesk", "raiseByCandidateDual", "(LCertificateDesk$Lines;I)V"⟩, 10), (⟨"CertificateDesk$Exact", "topPlace", "()I"⟩, 3), (⟨"CertificateDesk", "addGap", "()V"⟩, 10), (⟨"CertificateDesk", "addCosts", "()V"⟩, 10), (⟨"CertificateDesk", "addSquares", "(I)V"⟩, 10)]
theorem lw_r1 : ∀ q ∈ lw_privs_1, lw_okq q := List.forall_mem_cons.mpr ⟨lw_p0, List.forall_mem_cons.mpr ⟨lw_p1, List.forall_mem_cons.mpr ⟨lw_p2, List.forall_mem_cons.mpr ⟨lw_p3, List.forall_mem_cons.mpr ⟨lw_p4, List.forall_mem_cons.mpr ⟨lw_p5, List.forall_mem_cons.mpr ⟨lw_p6, List.forall_mem_cons.mpr ⟨lw_p7, List.forall_mem_cons.mpr ⟨lw_p8, List.forall_mem_cons.mpr ⟨lw_p9, List.forall_mem_cons.mpr ⟨lw_p10, List.forall_mem_cons.mpr ⟨lw_p11, List.forall_mem_cons.mpr ⟨lw_p12, List.forall_mem_cons.mpr ⟨lw_p13, List.forall_mem_cons.mpr ⟨lw_p14, List.forall_mem_cons.mpr ⟨lw_p15, fun _ h => absurd h List.not_mem_nil⟩⟩⟩⟩⟩⟩⟩⟩⟩⟩⟩⟩⟩⟩⟩⟩
theorem lw_p16 : lw_okq (⟨"CertificateDesk", "addMinimized", "()V"⟩, 10) := ⟨⟨by decide +kernel, by decide +kernel⟩, List.mem_of_getElem? (i := 21) (by decide +kernel), List.mem_of_getElem? (i := 531) (by decide +kernel), List.mem_of_getElem? (i := 532) (by decide +kernel)⟩
theorem lw_p17 : lw_okq (⟨"CertificateDesk$Exact", "mantissaFrom", "(I)J"⟩, 3) := ⟨⟨by decide +kernel, by decide +kernel⟩, List.mem_of_getElem? (i := 119) (by decide +kernel), List.mem_of_getElem? (i := 542) (by decide +kernel), List.mem_of_getElem? (i := 543) (by decide +kernel)⟩
theorem lw_p18 : lw_okq (⟨"CertificateDesk$Exact", "bitAt", "(I)J"⟩, 3) := ⟨⟨by decide +kernel, by decide +kernel⟩, List.mem_of_getElem? (i := 119) (by decide +kernel), List.mem_of_getElem? (i := 547) (by decide +kernel), List.mem_of_getElem? (i := 548) (by decide +kernel)⟩
theorem lw_p19 : lw_okq (⟨"CertificateDesk$Exact", "hasBitUnder", "(I)Z"⟩, 3) := ⟨⟨by decide +kernel, by decide +kernel⟩, List.mem_of_getElem? (i := 119) (by decide +kernel), List.mem_of_getElem? (i := 551) (by decide +kernel), List.mem_of_getElem? (i := 552) (by decide +kernel)⟩
theorem lw_p20 : lw_okq (⟨"CertificateDeskModel", "fails", "(ZI)Z"⟩, 29) := ⟨⟨by decide +kernel, by decide +kernel⟩, List.mem_of_getElem? (i := 596) (by decide +kernel), List.mem_of_getElem? (i := 711) (by decide +kernel), List.mem_of_getElem? (i := 712) (by decide +kernel)⟩
theorem lw_p21 : lw_okq (⟨"CertificateDeskModel", "asked", "(II)Z"⟩, 29) := ⟨⟨by decide +kernel, by decide +kernel⟩, List.mem_of_getElem? (i := 596) (by decide +kernel), List.mem_of_getElem? (i := 749) (by decide +kernel), List.mem_of_getElem? (i := 750) (by decide +kernel)⟩
theorem lw_p22 : lw_okq (⟨"CertificateDeskModel", "rowFault", "(I)D"⟩, 29) := ⟨⟨by decide +kernel, by decide +kernel⟩, List.mem_of_getElem? (i := 596) (by decide +kernel), List.mem_of_getElem? (i := 753) (by decide +kernel), List.mem_of_getElem? (i := 754) (by decide +kernel)⟩
theorem lw_p23 : lw_okq (⟨"CertificateDeskModel", "activity", "(I)V"⟩, 29) := ⟨⟨by decide +kernel, by decide +kernel⟩, List.mem_of_getElem? (i := 596) (by decide +kernel), List.mem_of_getElem? (i := 757) (by decide +kernel), List.mem_of_getElem? (i := 758) (by decide +kernel)⟩
theorem lw_p24 : lw_okq (⟨"CertificateDeskModel", "zero", "()V"⟩, 29) := ⟨⟨by decide +kernel, by decide +kernel⟩, List.mem_of_getElem? (i := 596) (by decide +kernel), List.mem_of_getElem? (i := 761) (by decide +kernel), List.mem_of_getElem? (i := 762) (by decide +kernel)⟩
theorem lw_p25 : lw_okq (⟨"CertificateDeskModel", "add", "(DDDIZ)V"⟩, 29) := ⟨⟨by decide +kernel, by decide +kernel⟩, List.mem_of_getElem? (i := 596) (by decide +kernel), List.mem_of_getElem? (i := 765) (by decide +kernel), List.mem_of_getElem? (i := 766) (by decide +kernel)⟩
theorem lw_p26 : lw_okq (⟨"CertificateDeskModel", "exact", "(D[I)I"⟩, 29) := ⟨⟨by decide +kernel, by decide +kernel⟩, List.mem_of_getElem? (i := 596) (by decide +kernel), List.mem_of_getElem? (i := 769) (by decide +kernel), List.mem_of_getElem? (i := 770) (by decide +kernel)⟩
theorem lw_p27 : lw_okq (⟨"CertificateDeskModel", "excess", "(Z)D"⟩, 29) := ⟨⟨by decide +kernel, by decide +kernel⟩, List.mem_of_getElem? (i := 596) (by decide +kernel), List.mem_of_getElem? (i := 786) (by decide +kernel), List.mem_of_getElem? (i := 787) (by decide +kernel)⟩
theorem lw_p28 : lw_okq (⟨"CertificateDeskModel", "signOfSum", "()I"⟩, 29) := ⟨⟨by decide +kernel, by decide +kernel⟩, List.mem_of_getElem? (i := 596) (by decide +kernel), List.mem_of_getElem? (i := 790) (by decide +kernel), List.mem_of_getElem? (i := 791) (by decide +kernel)⟩
theorem lw_p29 : lw_okq (⟨"CertificateDeskModel", "negate", "()V"⟩, 29) := ⟨⟨by decide +kernel, by decide +kernel⟩, List.mem_of_getElem? (i := 596) (by decide +kernel), List.mem_of_getElem? (i := 795) (by decide +kernel), List.mem_of_getElem? (i := 796) (by decide +kernel)⟩
theorem lw_p30 : lw_okq (⟨"CertificateDeskModel", "upwards", "()D"⟩, 29) := ⟨⟨by decide +kernel, by decide +kernel⟩, List.mem_of_getElem? (i := 596) (by decide +kernel), List.mem_of_getElem? (i := 799) (by decide +kernel), List.mem_of_getElem? (i := 800) (by decide +kernel)⟩
theorem lw_p31 : lw_okq (⟨"CertificateDeskModel", "columnFault", "(I)D"⟩, 29) := ⟨⟨by decide +kernel, by decide +kernel⟩, List.mem_of_getElem? (i := 596) (by decide +kernel), List.mem_of_getElem? (i := 812) (by decide +kernel), List.mem_of_getElem? (i := 813) (by decide +kernel)⟩
def lw_privs_2 : List (MethodName × Nat) := [(⟨"CertificateDesk", "addMinimized", "()V"⟩, 10), (⟨"CertificateDesk$Exact", "mantissaFrom", "(I)J"⟩, 3), (⟨"CertificateDesk$Exact", "bitAt", "(I)J"⟩, 3), (⟨"CertificateDesk$Exact", "hasBitUnder", "(I)Z"⟩, 3), (⟨"CertificateDeskModel", "fails", "(ZI)Z"⟩, 29), (⟨"CertificateDeskModel", "asked", "(II)Z"⟩, 29), (⟨"CertificateDeskModel", "rowFault", "(I)D"⟩, 29), (⟨"CertificateDeskModel", "activity", "(I)V"⟩, 29), (⟨"CertificateDeskModel", "zero", "()V"⟩, 29), (⟨"CertificateDeskModel", "add", "(DDDIZ)V"⟩, 29), (⟨"CertificateDeskModel", "exact", "(D[I)I"⟩, 29), (⟨"CertificateDeskModel", "excess", "(Z)D"⟩, 29), (⟨"CertificateDeskModel", "signOfSum", "()I"⟩, 29), (⟨"CertificateDeskModel", "negate", "()V"⟩, 29), (⟨"CertificateDeskModel", "upwards", "()D"⟩, 29), (⟨"CertificateDeskModel", "columnFault", "(I)D"⟩, 29)]
theorem lw_r2 : ∀ q ∈ lw_privs_2, lw_okq q := List.forall_mem_cons.mpr ⟨lw_p16, List.forall_mem_cons.mpr ⟨lw_p17, List.forall_mem_cons.mpr ⟨lw_p18, List.forall_mem_cons.mpr ⟨lw_p19, List.forall_mem_cons.mpr ⟨lw_p20, List.forall_mem_cons.mpr ⟨lw_p21, List.forall_mem_cons.mpr ⟨lw_p22, List.forall_mem_cons.mpr ⟨lw_p23, List.forall_mem_cons.mpr ⟨lw_p24, List.forall_mem_cons.mpr ⟨lw_p25, List.forall_mem_cons.mpr ⟨lw_p26, List.forall_mem_cons.mpr ⟨lw_p27, List.forall_mem_cons.mpr ⟨lw_p28, List.forall_mem_cons.mpr ⟨lw_p29, List.forall_mem_cons.mpr ⟨lw_p30, List.forall_mem_cons.mpr ⟨lw_p31, fun _ h => absurd h List.not_mem_nil⟩⟩⟩⟩⟩⟩⟩⟩⟩⟩⟩⟩⟩⟩⟩⟩
theorem lw_p32 : lw_okq (⟨"CertificateDeskModel", "dualFault", "(I)D"⟩, 29) := ⟨⟨by decide +kernel, by decide +kernel⟩, List.mem_of_getElem? (i := 596) (by decide +kernel), List.mem_of_getElem? (i := 816) (by decide +kernel), List.mem_of_getElem? (i := 817) (by decide +kernel)⟩
theorem lw_p33 : lw_okq (⟨"CertificateDeskModel", "reduced", "(I)V"⟩, 29) := ⟨⟨by decide +kernel, by decide +kernel⟩, List.mem_of_getElem? (i := 596) (by decide +kernel), List.mem_of_getElem? (i := 820) (by decide +kernel), List.mem_of_getElem? (i := 821) (by decide +kernel)⟩
theorem lw_p34 : lw_okq (⟨"CertificateDeskModel", "priceFault", "(I)D"⟩, 29) := ⟨⟨by decide +kernel, by decide +kernel⟩, List.mem_of_getElem? (i := 596) (by decide +kernel), List.mem_of_getElem? (i := 824) (by decide +kernel), List.mem_of_getElem? (i := 825) (by decide +kernel)⟩
theorem lw_p35 : lw_okq (⟨"CertificateDeskModel", "gap", "()D"⟩, 29) := ⟨⟨by decide +kernel, by decide +kernel⟩, List.mem_of_getElem? (i := 596) (by decide +kernel), List.mem_of_getElem? (i := 828) (by decide +kernel), List.mem_of_getElem? (i := 829) (by decide +kernel)⟩
theorem lw_p36 : lw_okq (⟨"CertificateDeskModel", "goal", "(I)V"⟩, 29) := ⟨⟨by decide +kernel, by decide +kernel⟩, List.mem_of_getElem? (i := 596) (by decide +kernel), List.mem_of_getElem? (i := 832) (by decide +kernel), List.mem_of_getElem? (i := 833) (by decide +kernel)⟩
theorem lw_p37 : lw_okq (⟨"CertificateDeskModel", "goalOf", "()V"⟩, 29) := ⟨⟨by decide +kernel, by decide +kernel⟩, List.mem_of_getElem? (i := 596) (by decide +kernel), List.mem_of_getElem? (i := 836) (by decide +kernel), List.mem_of_getElem? (i := 837) (by decide +kernel)⟩
def lw_privs_3 : List (MethodName × Nat) := [(⟨"CertificateDeskModel", "dualFault", "(I)D"⟩, 29), (⟨"CertificateDeskModel", "reduced", "(I)V"⟩, 29), (⟨"CertificateDeskModel", "priceFault", "(I)D"⟩, 29), (⟨"CertificateDeskModel", "gap", "()D"⟩, 29), (⟨"CertificateDeskModel", "goal", "(I)V"⟩, 29), (⟨"CertificateDeskModel", "goalOf", "()V"⟩, 29)]
theorem lw_r3 : ∀ q ∈ lw_privs_3, lw_okq q := List.forall_mem_cons.mpr ⟨lw_p32, List.forall_mem_cons.mpr ⟨lw_p33, List.forall_mem_cons.mpr ⟨lw_p34, List.forall_mem_cons.mpr ⟨lw_p35, List.forall_mem_cons.mpr ⟨lw_p36, List.forall_mem_cons.mpr ⟨lw_p37, fun _ h => absurd h List.not_mem_nil⟩⟩⟩⟩⟩⟩
def lw_privs : List (MethodName × Nat) := lw_privs_1 ++ (lw_privs_2 ++ (lw_privs_3))
def lw_tbl : List Cond := k2_sels lw_privs ++ tables_1
theorem lw_privs_ok : ∀ q ∈ lw_privs, lw_okq q := by
  show ∀ q ∈ lw_privs_1 ++ (lw_privs_2 ++ (lw_privs_3)), lw_okq q
  exact List.forall_mem_append.mpr ⟨lw_r1, List.forall_mem_append.mpr ⟨lw_r2, lw_r3⟩⟩

def TB : List Cond := lw_tbl.filter goodWord
theorem TB_good : GoodIn TB TB := fun w h => ⟨h, good_of_word (List.mem_filter.mp h).2⟩
theorem TB_in : ∀ w ∈ TB, w ∈ lw_tbl := fun w h => (List.mem_filter.mp h).1
theorem tb_mem {w : Cond} (i : Nat) (h : tables_1[i]? = some w) (hg : goodWord w = true) : w ∈ TB := List.mem_filter.mpr ⟨List.mem_append_right _ (List.mem_of_getElem? h), hg⟩
theorem tb_sel {w : Cond} (i : Nat) (h : (k2_sels lw_privs)[i]? = some w) (hg : goodWord w = true) : w ∈ TB := List.mem_filter.mpr ⟨List.mem_append_left _ (List.mem_of_getElem? h), hg⟩
/-- the words on private members of nest mates: they go from state to state by themselves -/
def NL : List Cond := [(Jvm.Cond.fieldLinkNest "CertificateDesk" (200 : Nat) "CertificateDesk$Lines" "lows" "LCertificateDesk$Numbers;" "CertificateDesk"), (Jvm.Cond.fieldLinkNest "CertificateDesk" (222 : Nat) "CertificateDesk$Lines" "highs" "LCertificateDesk$Numbers;" "CertificateDesk"), (Jvm.Cond.fieldLinkNest "CertificateDesk" (158 : Nat) "CertificateDesk$Lines" "values" "LCertificateDesk$Numbers;" "CertificateDesk"), (Jvm.Cond.fieldLinkNest "CertificateDesk" (170 : Nat) "CertificateDesk$Lines" "count" "I" "CertificateDesk"), (Jvm.Cond.fieldLinkNest "CertificateDesk" (248 : Nat) "CertificateDesk$Cells" "values" "LCertificateDesk$Numbers;" "CertificateDesk"), (Jvm.Cond.fieldLinkNest "CertificateDesk" (241 : Nat) "CertificateDesk$Cells" "count" "I" "CertificateDesk"), (Jvm.Cond.fieldLinkNest "CertificateDesk$Exact" (34 : Nat) "CertificateDesk$Product" "digits" "[J" "CertificateDesk"), (Jvm.Cond.fieldLinkNest "CertificateDesk$Exact" (19 : Nat) "CertificateDesk$Product" "exponent" "I" "CertificateDesk"), (Jvm.Cond.fieldLinkNest "CertificateDesk$Exact" (37 : Nat) "CertificateDesk$Product" "negative" "Z" "CertificateDesk"), (Jvm.Cond.methodLinkNest "CertificateDesk" (46 : Nat) ({ cls := "CertificateDesk$Product", name := "<init>", desc := "()V" } : Jvm.MethodName) "CertificateDesk"), (Jvm.Cond.methodLinkNest "CertificateDesk" (53 : Nat) ({ cls := "CertificateDesk$Exact", name := "<init>", desc := "()V" } : Jvm.MethodName) "CertificateDesk")]
def R_Nu : String := "CertificateDesk$Numbers"
def F_Nu : u_T := fun k => match k with
  | 0 => ("CertificateDesk$Numbers", "mantissas", "[J", true)
  | _ => ("CertificateDesk$Numbers", "exponents", "[I", true)
def t_Nu : Nat → FieldType := fun k => match k with
  | 0 => .array .long
  | _ => .array .int
theorem n_Nu : ∀ a, a < 2 → ∀ b, b < 2 → a ≠ b → (F_Nu a).2.1 ≠ (F_Nu b).2.1 := by decide +kernel
theorem t_Nu_ok : ∀ k, k < 2 → parseFieldDescriptor (F_Nu k).2.2.1 = some (t_Nu k) := by decide +kernel
theorem i_Nu : ∀ w ∈ u_ws R_Nu F_Nu 2, w ∈ TB := by
  intro w hw
  obtain ⟨k, hk, rfl⟩ := List.mem_map.mp hw
  have hk := List.mem_range.mp hk
  match k, hk with
  | 0, _ => exact tb_mem 39 (by decide +kernel) (by decide +kernel)
  | 1, _ => exact tb_mem 41 (by decide +kernel) (by decide +kernel)
  | k + 2, h => omega
def R_Li : String := "CertificateDesk$Lines"
def F_Li : u_T := fun k => match k with
  | 0 => ("CertificateDesk$Lines", "limits", "[I", true)
  | 1 => ("CertificateDesk$Lines", "lows", "LCertificateDesk$Numbers;", true)
  | 2 => ("CertificateDesk$Lines", "highs", "LCertificateDesk$Numbers;", true)
  | 3 => ("CertificateDesk$Lines", "values", "LCertificateDesk$Numbers;", true)
  | _ => ("CertificateDesk$Lines", "count", "I", false)
def t_Li : Nat → FieldType := fun k => match k with
  | 0 => .array .int
  | 1 => .object "CertificateDesk$Numbers"
  | 2 => .object "CertificateDesk$Numbers"
  | 3 => .object "CertificateDesk$Numbers"
  | _ => .int
theorem n_Li : ∀ a, a < 5 → ∀ b, b < 5 → a ≠ b → (F_Li a).2.1 ≠ (F_Li b).2.1 := by decide +kernel
theorem t_Li_ok : ∀ k, k < 5 → parseFieldDescriptor (F_Li k).2.2.1 = some (t_Li k) := by decide +kernel
theorem i_Li : ∀ w ∈ u_ws R_Li F_Li 5, w ∈ TB := by
  intro w hw
  obtain ⟨k, hk, rfl⟩ := List.mem_map.mp hw
  have hk := List.mem_range.mp hk
  match k, hk with
  | 0, _ => exact tb_mem 64 (by decide +kernel) (by decide +kernel)
  | 1, _ => exact tb_mem 66 (by decide +kernel) (by decide +kernel)
  | 2, _ => exact tb_mem 68 (by decide +kernel) (by decide +kernel)
  | 3, _ => exact tb_mem 70 (by decide +kernel) (by decide +kernel)
  | 4, _ => exact tb_mem 72 (by decide +kernel) (by decide +kernel)
  | k + 5, h => omega
def R_Ce : String := "CertificateDesk$Cells"
def F_Ce : u_T := fun k => match k with
  | 0 => ("CertificateDesk$Cells", "firsts", "[I", true)
  | 1 => ("CertificateDesk$Cells", "seconds", "[I", true)
  | 2 => ("CertificateDesk$Cells", "values", "LCertificateDesk$Numbers;", true)
  | _ => ("CertificateDesk$Cells", "count", "I", false)
def t_Ce : Nat → FieldType := fun k => match k with
  | 0 => .array .int
  | 1 => .array .int
  | 2 => .object "CertificateDesk$Numbers"
  | _ => .int
theorem n_Ce : ∀ a, a < 4 → ∀ b, b < 4 → a ≠ b → (F_Ce a).2.1 ≠ (F_Ce b).2.1 := by decide +kernel
theorem t_Ce_ok : ∀ k, k < 4 → parseFieldDescriptor (F_Ce k).2.2.1 = some (t_Ce k) := by decide +kernel
theorem i_Ce : ∀ w ∈ u_ws R_Ce F_Ce 4, w ∈ TB := by
  intro w hw
  obtain ⟨k, hk, rfl⟩ := List.mem_map.mp hw
  have hk := List.mem_range.mp hk
  match k, hk with
  | 0, _ => exact tb_mem 90 (by decide +kernel) (by decide +kernel)
  | 1, _ => exact tb_mem 92 (by decide +kernel) (by decide +kernel)
  | 2, _ => exact tb_mem 94 (by decide +kernel) (by decide +kernel)
  | 3, _ => exact tb_mem 96 (by decide +kernel) (by decide +kernel)
  | k + 4, h => omega
def R_Pr : String := "CertificateDesk$Product"
def F_Pr : u_T := fun k => match k with
  | 0 => ("CertificateDesk$Product", "digits", "[J", true)
  | 1 => ("CertificateDesk$Product", "exponent", "I", false)
  | _ => ("CertificateDesk$Product", "negative", "Z", false)
def t_Pr : Nat → FieldType := fun k => match k with
  | 0 => .array .long
  | 1 => .int
  | _ => .boolean
theorem n_Pr : ∀ a, a < 3 → ∀ b, b < 3 → a ≠ b → (F_Pr a).2.1 ≠ (F_Pr b).2.1 := by decide +kernel
theorem t_Pr_ok : ∀ k, k < 3 → parseFieldDescriptor (F_Pr k).2.2.1 = some (t_Pr k) := by decide +kernel
theorem i_Pr : ∀ w ∈ u_ws R_Pr F_Pr 3, w ∈ TB := by
  intro w hw
  obtain ⟨k, hk, rfl⟩ := List.mem_map.mp hw
  have hk := List.mem_range.mp hk
  match k, hk with
  | 0, _ => exact tb_mem 111 (by decide +kernel) (by decide +kernel)
  | 1, _ => exact tb_mem 113 (by decide +kernel) (by decide +kernel)
  | 2, _ => exact tb_mem 115 (by decide +kernel) (by decide +kernel)
  | k + 3, h => omega
def R_Ex : String := "CertificateDesk$Exact"
def F_Ex : u_T := fun k => match k with
  | 0 => ("CertificateDesk$Exact", "digits", "[J", true)
  | 1 => ("CertificateDesk$Exact", "mantissa", "J", false)
  | _ => ("CertificateDesk$Exact", "exponent", "I", false)
def t_Ex : Nat → FieldType := fun k => match k with
  | 0 => .array .long
  | 1 => .long
  | _ => .int
theorem n_Ex : ∀ a, a < 3 → ∀ b, b < 3 → a ≠ b → (F_Ex a).2.1 ≠ (F_Ex b).2.1 := by decide +kernel
theorem t_Ex_ok : ∀ k, k < 3 → parseFieldDescriptor (F_Ex k).2.2.1 = some (t_Ex k) := by decide +kernel
theorem i_Ex : ∀ w ∈ u_ws R_Ex F_Ex 3, w ∈ TB := by
  intro w hw
  obtain ⟨k, hk, rfl⟩ := List.mem_map.mp hw
  have hk := List.mem_range.mp hk
  match k, hk with
  | 0, _ => exact tb_mem 127 (by decide +kernel) (by decide +kernel)
  | 1, _ => exact tb_mem 129 (by decide +kernel) (by decide +kernel)
  | 2, _ => exact tb_mem 131 (by decide +kernel) (by decide +kernel)
  | k + 3, h => omega
def R_De : String := "CertificateDesk"
def F_De : u_T := fun k => match k with
  | 0 => ("CertificateDesk", "offset", "LCertificateDesk$Numbers;", true)
  | 1 => ("CertificateDesk", "one", "LCertificateDesk$Numbers;", true)
  | 2 => ("CertificateDesk", "costs", "LCertificateDesk$Numbers;", true)
  | 3 => ("CertificateDesk", "rows", "LCertificateDesk$Lines;", true)
  | 4 => ("CertificateDesk", "columns", "LCertificateDesk$Lines;", true)
  | 5 => ("CertificateDesk", "entries", "LCertificateDesk$Cells;", true)
  | 6 => ("CertificateDesk", "pairs", "LCertificateDesk$Cells;", true)
  | 7 => ("CertificateDesk", "product", "LCertificateDesk$Product;", true)
  | 8 => ("CertificateDesk", "figure", "LCertificateDesk$Exact;", true)
  | _ => ("CertificateDesk", "candidate", "LCertificateDesk$Exact;", true)
def t_De : Nat → FieldType := fun k => match k with
  | 0 => .object "CertificateDesk$Numbers"
  | 1 => .object "CertificateDesk$Numbers"
  | 2 => .object "CertificateDesk$Numbers"
  | 3 => .object "CertificateDesk$Lines"
  | 4 => .object "CertificateDesk$Lines"
  | 5 => .object "CertificateDesk$Cells"
  | 6 => .object "CertificateDesk$Cells"
  | 7 => .object "CertificateDesk$Product"
  | 8 => .object "CertificateDesk$Exact"
  | _ => .object "CertificateDesk$Exact"
theorem n_De : ∀ a, a < 10 → ∀ b, b < 10 → a ≠ b → (F_De a).2.1 ≠ (F_De b).2.1 := by decide +kernel
theorem t_De_ok : ∀ k, k < 10 → parseFieldDescriptor (F_De k).2.2.1 = some (t_De k) := by decide +kernel
theorem i_De : ∀ w ∈ u_ws R_De F_De 10, w ∈ TB := by
  intro w hw
  obtain ⟨k, hk, rfl⟩ := List.mem_map.mp hw
  have hk := List.mem_range.mp hk
  match k, hk with
  | 0, _ => exact tb_mem 151 (by decide +kernel) (by decide +kernel)
  | 1, _ => exact tb_mem 153 (by decide +kernel) (by decide +kernel)
  | 2, _ => exact tb_mem 155 (by decide +kernel) (by decide +kernel)
  | 3, _ => exact tb_mem 157 (by decide +kernel) (by decide +kernel)
  | 4, _ => exact tb_mem 159 (by decide +kernel) (by decide +kernel)
  | 5, _ => exact tb_mem 161 (by decide +kernel) (by decide +kernel)
  | 6, _ => exact tb_mem 163 (by decide +kernel) (by decide +kernel)
  | 7, _ => exact tb_mem 165 (by decide +kernel) (by decide +kernel)
  | 8, _ => exact tb_mem 167 (by decide +kernel) (by decide +kernel)
  | 9, _ => exact tb_mem 169 (by decide +kernel) (by decide +kernel)
  | k + 10, h => omega
def R_Mo : String := "CertificateDeskModel"
def F_Mo : u_T := fun k => match k with
  | 0 => ("CertificateDeskModel", "err", "I", false)
  | 1 => ("CertificateDeskModel", "rows", "I", false)
  | 2 => ("CertificateDeskModel", "columns", "I", false)
  | 3 => ("CertificateDeskModel", "entries", "I", false)
  | 4 => ("CertificateDeskModel", "pairs", "I", false)
  | 5 => ("CertificateDeskModel", "objectiveRhs", "D", false)
  | 6 => ("CertificateDeskModel", "a", "[D", true)
  | 7 => ("CertificateDeskModel", "c", "[D", true)
  | 8 => ("CertificateDeskModel", "q", "[D", true)
  | 9 => ("CertificateDeskModel", "low", "[D", true)
  | 10 => ("CertificateDeskModel", "high", "[D", true)
  | 11 => ("CertificateDeskModel", "rowLow", "[D", true)
  | 12 => ("CertificateDeskModel", "rowHigh", "[D", true)
  | 13 => ("CertificateDeskModel", "x", "[D", true)
  | 14 => ("CertificateDeskModel", "y", "[D", true)
  | 15 => ("CertificateDeskModel", "aIs", "[Z", true)
  | 16 => ("CertificateDeskModel", "qIs", "[Z", true)
  | 17 => ("CertificateDeskModel", "lowIs", "[Z", true)
  | 18 => ("CertificateDeskModel", "highIs", "[Z", true)
  | 19 => ("CertificateDeskModel", "rowLowIs", "[Z", true)
  | 20 => ("CertificateDeskModel", "rowHighIs", "[Z", true)
  | 21 => ("CertificateDeskModel", "part2", "I", false)
  | 22 => ("CertificateDeskModel", "sum", "[I", true)
  | 23 => ("CertificateDeskModel", "sign", "[I", true)
  | 24 => ("CertificateDeskModel", "r1", "[I", true)
  | 25 => ("CertificateDeskModel", "r2", "[I", true)
  | 26 => ("CertificateDeskModel", "r3", "[I", true)
  | 27 => ("CertificateDeskModel", "r4", "[I", true)
  | _ => ("CertificateDeskModel", "r5", "[I", true)
def t_Mo : Nat → FieldType := fun k => match k with
  | 0 => .int
  | 1 => .int
  | 2 => .int
  | 3 => .int
  | 4 => .int
  | 5 => .double
  | 6 => .array .double
  | 7 => .array .double
  | 8 => .array .double
  | 9 => .array .double
  | 10 => .array .double
  | 11 => .array .double
  | 12 => .array .double
  | 13 => .array .double
  | 14 => .array .double
  | 15 => .array .boolean
  | 16 => .array .boolean
  | 17 => .array .boolean
  | 18 => .array .boolean
  | 19 => .array .boolean
  | 20 => .array .boolean
  | 21 => .int
  | 22 => .array .int
  | 23 => .array .int
  | 24 => .array .int
  | 25 => .array .int
  | 26 => .array .int
  | 27 => .array .int
  | _ => .array .int
theorem n_Mo : ∀ a, a < 29 → ∀ b, b < 29 → a ≠ b → (F_Mo a).2.1 ≠ (F_Mo b).2.1 := by decide +kernel
theorem t_Mo_ok : ∀ k, k < 29 → parseFieldDescriptor (F_Mo k).2.2.1 = some (t_Mo k) := by decide +kernel
theorem i_Mo : ∀ w ∈ u_ws R_Mo F_Mo 29, w ∈ TB := by
  intro w hw
  obtain ⟨k, hk, rfl⟩ := List.mem_map.mp hw
  have hk := List.mem_range.mp hk
  match k, hk with
  | 0, _ => exact tb_mem 630 (by decide +kernel) (by decide +kernel)
  | 1, _ => exact tb_mem 632 (by decide +kernel) (by decide +kernel)
  | 2, _ => exact tb_mem 634 (by decide +kernel) (by decide +kernel)
  | 3, _ => exact tb_mem 636 (by decide +kernel) (by decide +kernel)
  | 4, _ => exact tb_mem 638 (by decide +kernel) (by decide +kernel)
  | 5, _ => exact tb_mem 640 (by decide +kernel) (by decide +kernel)
  | 6, _ => exact tb_mem 642 (by decide +kernel) (by decide +kernel)
  | 7, _ => exact tb_mem 644 (by decide +kernel) (by decide +kernel)
  | 8, _ => exact tb_mem 646 (by decide +kernel) (by decide +kernel)
  | 9, _ => exact tb_mem 648 (by decide +kernel) (by decide +kernel)
  | 10, _ => exact tb_mem 650 (by decide +kernel) (by decide +kernel)
  | 11, _ => exact tb_mem 652 (by decide +kernel) (by decide +kernel)
  | 12, _ => exact tb_mem 654 (by decide +kernel) (by decide +kernel)
  | 13, _ => exact tb_mem 656 (by decide +kernel) (by decide +kernel)
  | 14, _ => exact tb_mem 658 (by decide +kernel) (by decide +kernel)
  | 15, _ => exact tb_mem 660 (by decide +kernel) (by decide +kernel)
  | 16, _ => exact tb_mem 662 (by decide +kernel) (by decide +kernel)
  | 17, _ => exact tb_mem 664 (by decide +kernel) (by decide +kernel)
  | 18, _ => exact tb_mem 666 (by decide +kernel) (by decide +kernel)
  | 19, _ => exact tb_mem 668 (by decide +kernel) (by decide +kernel)
  | 20, _ => exact tb_mem 670 (by decide +kernel) (by decide +kernel)
  | 21, _ => exact tb_mem 672 (by decide +kernel) (by decide +kernel)
  | 22, _ => exact tb_mem 674 (by decide +kernel) (by decide +kernel)
  | 23, _ => exact tb_mem 676 (by decide +kernel) (by decide +kernel)
  | 24, _ => exact tb_mem 678 (by decide +kernel) (by decide +kernel)
  | 25, _ => exact tb_mem 680 (by decide +kernel) (by decide +kernel)
  | 26, _ => exact tb_mem 682 (by decide +kernel) (by decide +kernel)
  | 27, _ => exact tb_mem 684 (by decide +kernel) (by decide +kernel)
  | 28, _ => exact tb_mem 686 (by decide +kernel) (by decide +kernel)
  | k + 29, h => omega
abbrev CL : List vw_C := [(R_Nu, F_Nu, 2), (R_Li, F_Li, 5), (R_Ce, F_Ce, 4), (R_Pr, F_Pr, 3), (R_Ex, F_Ex, 3), (R_De, F_De, 10), (R_Mo, F_Mo, 29)]
abbrev b_Ma_floorDiv_III : ByteArray := prog_16_method_47_code
def y_Ma_floorDiv_III : MethodName := ⟨"java/lang/Math", "floorDiv", "(II)I"⟩
theorem k_Ma_floorDiv_III : Cond.code y_Ma_floorDiv_III b_Ma_floorDiv_III 3 (some .int) ∈ TB := tb_mem 441 (by decide +kernel) (by decide +kernel)
abbrev b_Ma_floorMod_III : ByteArray := prog_16_method_50_code
def y_Ma_floorMod_III : MethodName := ⟨"java/lang/Math", "floorMod", "(II)I"⟩
theorem k_Ma_floorMod_III : Cond.code y_Ma_floorMod_III b_Ma_floorMod_III 3 (some .int) ∈ TB := tb_mem 444 (by decide +kernel) (by decide +kernel)
abbrev b_Ma_max_III : ByteArray := prog_16_method_65_code
def y_Ma_max_III : MethodName := ⟨"java/lang/Math", "max", "(II)I"⟩
theorem k_Ma_max_III : Cond.code y_Ma_max_III b_Ma_max_III 2 (some .int) ∈ TB := tb_mem 36 (by decide +kernel) (by decide +kernel)
abbrev b_Ma_abs_II : ByteArray := prog_16_method_59_code
def y_Ma_abs_II : MethodName := ⟨"java/lang/Math", "abs", "(I)I"⟩
theorem k_Ma_abs_II : Cond.code y_Ma_abs_II b_Ma_abs_II 1 (some .int) ∈ TB := tb_mem 587 (by decide +kernel) (by decide +kernel)
abbrev b_Ma_abs_JJ : ByteArray := prog_16_method_61_code
def y_Ma_abs_JJ : MethodName := ⟨"java/lang/Math", "abs", "(J)J"⟩
theorem k_Ma_abs_JJ : Cond.code y_Ma_abs_JJ b_Ma_abs_JJ 2 (some .long) ∈ TB := tb_mem 429 (by decide +kernel) (by decide +kernel)
abbrev b_Lo_compare : ByteArray := prog_15_method_42_code
def y_Lo_compare : MethodName := ⟨"java/lang/Long", "compare", "(JJ)I"⟩
theorem k_Lo_compare : Cond.code y_Lo_compare b_Lo_compare 4 (some .int) ∈ TB := tb_mem 529 (by decide +kernel) (by decide +kernel)
abbrev b_In_numberOfLeadingZeros : ByteArray := prog_14_method_47_code
def y_In_numberOfLeadingZeros : MethodName := ⟨"java/lang/Integer", "numberOfLeadingZeros", "(I)I"⟩
theorem k_In_numberOfLeadingZeros : Cond.code y_In_numberOfLeadingZeros b_In_numberOfLeadingZeros 2 (some .int) ∈ TB := tb_mem 504 (by decide +kernel) (by decide +kernel)
abbrev b_Lo_numberOfLeadingZeros : ByteArray := prog_15_method_48_code
def y_Lo_numberOfLeadingZeros : MethodName := ⟨"java/lang/Long", "numberOfLeadingZeros", "(J)I"⟩
theorem k_Lo_numberOfLeadingZeros : Cond.code y_Lo_numberOfLeadingZeros b_Lo_numberOfLeadingZeros 3 (some .int) ∈ TB := tb_mem 501 (by decide +kernel) (by decide +kernel)
abbrev b_Ar_fill_JJV : ByteArray := prog_21_method_101_code
def y_Ar_fill_JJV : MethodName := ⟨"java/util/Arrays", "fill", "([JJ)V"⟩
theorem k_Ar_fill_JJV : Cond.code y_Ar_fill_JJV b_Ar_fill_JJV 5 none ∈ TB := tb_mem 405 (by decide +kernel) (by decide +kernel)
abbrev b_Nu_mantissa : ByteArray := prog_5_method_4_code
def y_Nu_mantissa : MethodName := ⟨"CertificateDesk$Numbers", "mantissa", "(I)J"⟩
theorem k_Nu_mantissa : Cond.code y_Nu_mantissa b_Nu_mantissa 2 (some .long) ∈ TB := tb_mem 426 (by decide +kernel) (by decide +kernel)
abbrev b_Nu_exponent : ByteArray := prog_5_method_5_code
def y_Nu_exponent : MethodName := ⟨"CertificateDesk$Numbers", "exponent", "(I)I"⟩
theorem k_Nu_exponent : Cond.code y_Nu_exponent b_Nu_exponent 2 (some .int) ∈ TB := tb_mem 434 (by decide +kernel) (by decide +kernel)
abbrev b_Nu_allows : ByteArray := prog_5_method_2_code
def y_Nu_allows : MethodName := ⟨"CertificateDesk$Numbers", "allows", "(D)Z"⟩
theorem k_Nu_allows : Cond.code y_Nu_allows b_Nu_allows 6 (some .boolean) ∈ TB := tb_mem 182 (by decide +kernel) (by decide +kernel)
abbrev b_Nu_put : ByteArray := prog_5_method_3_code
def y_Nu_put : MethodName := ⟨"CertificateDesk$Numbers", "put", "(IDI)V"⟩
theorem k_Nu_put : Cond.code y_Nu_put b_Nu_put 14 none ∈ TB := tb_mem 137 (by decide +kernel) (by decide +kernel)
abbrev b_Pr_start : ByteArray := prog_6_method_2_code
def y_Pr_start : MethodName := ⟨"CertificateDesk$Product", "start", "(ZI)LCertificateDesk$Product;"⟩
theorem k_Pr_start : Cond.code y_Pr_start b_Pr_start 3 (some (.object "CertificateDesk$Product")) ∈ TB := tb_mem 417 (by decide +kernel) (by decide +kernel)
abbrev b_Pr_times : ByteArray := prog_6_method_3_code
def y_Pr_times : MethodName := ⟨"CertificateDesk$Product", "times", "(LCertificateDesk$Numbers;I)LCertificateDesk$Product;"⟩
theorem k_Pr_times : Cond.code y_Pr_times b_Pr_times 20 (some (.object "CertificateDesk$Product")) ∈ TB := tb_mem 422 (by decide +kernel) (by decide +kernel)
abbrev b_Ex_clear : ByteArray := prog_3_method_2_code
def y_Ex_clear : MethodName := ⟨"CertificateDesk$Exact", "clear", "()V"⟩
theorem k_Ex_clear : Cond.code y_Ex_clear b_Ex_clear 1 none ∈ TB := tb_mem 402 (by decide +kernel) (by decide +kernel)
abbrev b_Ex_addAt : ByteArray := prog_3_method_4_code
def y_Ex_addAt : MethodName := ⟨"CertificateDesk$Exact", "addAt", "(IJ)V"⟩
theorem k_Ex_addAt : Cond.code y_Ex_addAt b_Ex_addAt 4 none ∈ TB := tb_mem 449 (by decide +kernel) (by decide +kernel)
abbrev b_Ex_add : ByteArray := prog_3_method_3_code
def y_Ex_add : MethodName := ⟨"CertificateDesk$Exact", "add", "(LCertificateDesk$Product;)V"⟩
theorem k_Ex_add : Cond.code y_Ex_add b_Ex_add 12 none ∈ TB := tb_mem 438 (by decide +kernel) (by decide +kernel)
abbrev b_Ex_settle : ByteArray := prog_3_method_5_code
def y_Ex_settle : MethodName := ⟨"CertificateDesk$Exact", "settle", "()V"⟩
theorem k_Ex_settle : Cond.code y_Ex_settle b_Ex_settle 6 none ∈ TB := tb_mem 463 (by decide +kernel) (by decide +kernel)
abbrev b_Ex_isBelow : ByteArray := prog_3_method_9_code
def y_Ex_isBelow : MethodName := ⟨"CertificateDesk$Exact", "isBelow", "(LCertificateDesk$Exact;)Z"⟩
theorem k_Ex_isBelow : Cond.code y_Ex_isBelow b_Ex_isBelow 3 (some .boolean) ∈ TB := tb_mem 467 (by decide +kernel) (by decide +kernel)
abbrev b_Ex_topPlace : ByteArray := prog_3_method_14_code
def y_Ex_topPlace : MethodName := ⟨"CertificateDesk$Exact", "topPlace", "()I"⟩
theorem k_Ex_topPlace : Cond.code y_Ex_topPlace b_Ex_topPlace 2 (some .int) ∈ TB := tb_mem 498 (by decide +kernel) (by decide +kernel)
abbrev b_Ex_bitAt : ByteArray := prog_3_method_16_code
def y_Ex_bitAt : MethodName := ⟨"CertificateDesk$Exact", "bitAt", "(I)J"⟩
theorem k_Ex_bitAt : Cond.code y_Ex_bitAt b_Ex_bitAt 3 (some .long) ∈ TB := tb_mem 549 (by decide +kernel) (by decide +kernel)
abbrev b_Ex_mantissaFrom : ByteArray := prog_3_method_15_code
def y_Ex_mantissaFrom : MethodName := ⟨"CertificateDesk$Exact", "mantissaFrom", "(I)J"⟩
theorem k_Ex_mantissaFrom : Cond.code y_Ex_mantissaFrom b_Ex_mantissaFrom 5 (some .long) ∈ TB := tb_mem 544 (by decide +kernel) (by decide +kernel)
abbrev b_Ex_hasBitUnder : ByteArray := prog_3_method_17_code
def y_Ex_hasBitUnder : MethodName := ⟨"CertificateDesk$Exact", "hasBitUnder", "(I)Z"⟩
theorem k_Ex_hasBitUnder : Cond.code y_Ex_hasBitUnder b_Ex_hasBitUnder 5 (some .boolean) ∈ TB := tb_mem 553 (by decide +kernel) (by decide +kernel)
abbrev b_Ex_signum : ByteArray := prog_3_method_6_code
def y_Ex_signum : MethodName := ⟨"CertificateDesk$Exact", "signum", "()I"⟩
theorem k_Ex_signum : Cond.code y_Ex_signum b_Ex_signum 1 (some .int) ∈ TB := tb_mem 494 (by decide +kernel) (by decide +kernel)
abbrev b_Ex_negate : ByteArray := prog_3_method_7_code
def y_Ex_negate : MethodName := ⟨"CertificateDesk$Exact", "negate", "()V"⟩
theorem k_Ex_negate : Cond.code y_Ex_negate b_Ex_negate 2 none ∈ TB := tb_mem 509 (by decide +kernel) (by decide +kernel)
abbrev b_Ex_raiseTo : ByteArray := prog_3_method_8_code
def y_Ex_raiseTo : MethodName := ⟨"CertificateDesk$Exact", "raiseTo", "(LCertificateDesk$Exact;)V"⟩
theorem k_Ex_raiseTo : Cond.code y_Ex_raiseTo b_Ex_raiseTo 2 none ∈ TB := tb_mem 459 (by decide +kernel) (by decide +kernel)
