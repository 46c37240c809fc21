section
-- ===== PART A: goes FIRST, ahead of the names: the tables' words, and 'selects' of the private methods out of them =====
/-- a private method of a class that the tables say can be made, by its rows of tables_1 -/
def lw_okq (q : MethodName × Nat) : Prop := (q.1.cls ≠ "java/lang/invoke/MethodHandle" ∧ q.1.cls ≠ "java/lang/invoke/VarHandle") ∧ Cond.instantiable q.1.cls q.2 ∈ tables_1 ∧ Cond.privateMethod q.1 ∈ tables_1 ∧ Cond.instanceMethod q.1 ∈ tables_1
theorem lw_p0 : lw_okq (⟨"CranePermits", "remember", "()V"⟩, 5) := ⟨⟨by decide +kernel, by decide +kernel⟩, List.mem_of_getElem? (i := 12) (by decide +kernel), List.mem_of_getElem? (i := 164) (by decide +kernel), List.mem_of_getElem? (i := 165) (by decide +kernel)⟩
theorem lw_p1 : lw_okq (⟨"CranePermits$Crane", "markOwnCell", "(I)V"⟩, 7) := ⟨⟨by decide +kernel, by decide +kernel⟩, List.mem_of_getElem? (i := 176) (by decide +kernel), List.mem_of_getElem? (i := 182) (by decide +kernel), List.mem_of_getElem? (i := 183) (by decide +kernel)⟩
theorem lw_p2 : lw_okq (⟨"CranePermits$Crane", "mark", "(II)V"⟩, 7) := ⟨⟨by decide +kernel, by decide +kernel⟩, List.mem_of_getElem? (i := 176) (by decide +kernel), List.mem_of_getElem? (i := 186) (by decide +kernel), List.mem_of_getElem? (i := 187) (by decide +kernel)⟩
theorem lw_p3 : lw_okq (⟨"CranePermits$Site", "isBusy", "(LCranePermits$Crane;II)Z"⟩, 13) := ⟨⟨by decide +kernel, by decide +kernel⟩, List.mem_of_getElem? (i := 20) (by decide +kernel), List.mem_of_getElem? (i := 406) (by decide +kernel), List.mem_of_getElem? (i := 407) (by decide +kernel)⟩
theorem lw_p4 : lw_okq (⟨"CranePermits", "tryText", "()I"⟩, 5) := ⟨⟨by decide +kernel, by decide +kernel⟩, List.mem_of_getElem? (i := 12) (by decide +kernel), List.mem_of_getElem? (i := 521) (by decide +kernel), List.mem_of_getElem? (i := 522) (by decide +kernel)⟩
theorem lw_p5 : lw_okq (⟨"CranePermits", "tryApplication", "()I"⟩, 5) := ⟨⟨by decide +kernel, by decide +kernel⟩, List.mem_of_getElem? (i := 12) (by decide +kernel), List.mem_of_getElem? (i := 525) (by decide +kernel), List.mem_of_getElem? (i := 526) (by decide +kernel)⟩
theorem lw_p6 : lw_okq (⟨"CranePermits$Text", "readNumber", "(I)I"⟩, 9) := ⟨⟨by decide +kernel, by decide +kernel⟩, List.mem_of_getElem? (i := 85) (by decide +kernel), List.mem_of_getElem? (i := 533) (by decide +kernel), List.mem_of_getElem? (i := 534) (by decide +kernel)⟩
theorem lw_p7 : lw_okq (⟨"CranePermits$Text", "signAt", "(I)I"⟩, 9) := ⟨⟨by decide +kernel, by decide +kernel⟩, List.mem_of_getElem? (i := 85) (by decide +kernel), List.mem_of_getElem? (i := 537) (by decide +kernel), List.mem_of_getElem? (i := 538) (by decide +kernel)⟩
theorem lw_p8 : lw_okq (⟨"CranePermits$Text", "readSign", "(C)V"⟩, 9) := ⟨⟨by decide +kernel, by decide +kernel⟩, List.mem_of_getElem? (i := 85) (by decide +kernel), List.mem_of_getElem? (i := 542) (by decide +kernel), List.mem_of_getElem? (i := 543) (by decide +kernel)⟩
theorem lw_p9 : lw_okq (⟨"CranePermitsModel", "craned", "(II)I"⟩, 9) := ⟨⟨by decide +kernel, by decide +kernel⟩, List.mem_of_getElem? (i := 550) (by decide +kernel), List.mem_of_getElem? (i := 594) (by decide +kernel), List.mem_of_getElem? (i := 595) (by decide +kernel)⟩
theorem lw_p10 : lw_okq (⟨"CranePermitsModel", "records", "()V"⟩, 9) := ⟨⟨by decide +kernel, by decide +kernel⟩, List.mem_of_getElem? (i := 550) (by decide +kernel), List.mem_of_getElem? (i := 598) (by decide +kernel), List.mem_of_getElem? (i := 599) (by decide +kernel)⟩
theorem lw_p11 : lw_okq (⟨"CranePermitsModel", "isCrane", "(I)Z"⟩, 9) := ⟨⟨by decide +kernel, by decide +kernel⟩, List.mem_of_getElem? (i := 550) (by decide +kernel), List.mem_of_getElem? (i := 606) (by decide +kernel), List.mem_of_getElem? (i := 607) (by decide +kernel)⟩
theorem lw_p12 : lw_okq (⟨"CranePermitsModel", "savesAll", "()I"⟩, 9) := ⟨⟨by decide +kernel, by decide +kernel⟩, List.mem_of_getElem? (i := 550) (by decide +kernel), List.mem_of_getElem? (i := 610) (by decide +kernel), List.mem_of_getElem? (i := 611) (by decide +kernel)⟩
theorem lw_p13 : lw_okq (⟨"CranePermitsModel", "saves", "(II)I"⟩, 9) := ⟨⟨by decide +kernel, by decide +kernel⟩, List.mem_of_getElem? (i := 550) (by decide +kernel), List.mem_of_getElem? (i := 614) (by decide +kernel), List.mem_of_getElem? (i := 615) (by decide +kernel)⟩
theorem lw_p14 : lw_okq (⟨"CranePermitsModel", "isOf", "(III)Z"⟩, 9) := ⟨⟨by decide +kernel, by decide +kernel⟩, List.mem_of_getElem? (i := 550) (by decide +kernel), List.mem_of_getElem? (i := 618) (by decide +kernel), List.mem_of_getElem? (i := 619) (by decide +kernel)⟩
theorem lw_p15 : lw_okq (⟨"CranePermitsModel", "of", "(II)I"⟩, 9) := ⟨⟨by decide +kernel, by decide +kernel⟩, List.mem_of_getElem? (i := 550) (by decide +kernel), List.mem_of_getElem? (i := 622) (by decide +kernel), List.mem_of_getElem? (i := 623) (by decide +kernel)⟩
def lw_privs_1 : List (MethodName × Nat) := [(⟨"CranePermits", "remember", "()V"⟩, 5), (⟨"CranePermits$Crane", "markOwnCell", "(I)V"⟩, 7), (⟨"CranePermits$Crane", "mark", "(II)V"⟩, 7), (⟨"CranePermits$Site", "isBusy", "(LCranePermits$Crane;II)Z"⟩, 13), (⟨"CranePermits", "tryText", "()I"⟩, 5), (⟨"CranePermits", "tryApplication", "()I"⟩, 5), (⟨"CranePermits$Text", "readNumber", "(I)I"⟩, 9), (⟨"CranePermits$Text", "signAt", "(I)I"⟩, 9), (⟨"CranePermits$Text", "readSign", "(C)V"⟩, 9), (⟨"CranePermitsModel", "craned", "(II)I"⟩, 9), (⟨"CranePermitsModel", "records", "()V"⟩, 9), (⟨"CranePermitsModel", "isCrane", "(I)Z"⟩, 9), (⟨"CranePermitsModel", "savesAll", "()I"⟩, 9), (⟨"CranePermitsModel", "saves", "(II)I"⟩, 9), (⟨"CranePermitsModel", "isOf", "(III)Z"⟩, 9), (⟨"CranePermitsModel", "of", "(II)I"⟩, 9)]
theorem lw_r1 : ∀ q ∈ lw_privs_1, lw_okq q := List.forall_mem_cons.mpr ⟨lw_p0, List.forall_mem_cons.mpr ⟨lw_p1, List.forall_mem_cons.mpr ⟨lw_p2, List.forall_mem_cons.mpr ⟨lw_p3, List.forall_mem_cons.mpr ⟨lw_p4, List.forall_mem_cons.mpr ⟨lw_p5, List.forall_mem_cons.mpr ⟨lw_p6, List.forall_mem_cons.mpr ⟨lw_p7, List.forall_mem_cons.mpr ⟨lw_p8, List.forall_mem_cons.mpr ⟨lw_p9, List.forall_mem_cons.mpr ⟨lw_p10, List.forall_mem_cons.mpr ⟨lw_p11, List.forall_mem_cons.mpr ⟨lw_p12, List.forall_mem_cons.mpr ⟨lw_p13, List.forall_mem_cons.mpr ⟨lw_p14, List.forall_mem_cons.mpr ⟨lw_p15, fun _ h => absurd h List.not_mem_nil⟩⟩⟩⟩⟩⟩⟩⟩⟩⟩⟩⟩⟩⟩⟩⟩
theorem lw_p16 : lw_okq (⟨"CranePermitsModel", "used", "(II)I"⟩, 9) := ⟨⟨by decide +kernel, by decide +kernel⟩, List.mem_of_getElem? (i := 550) (by decide +kernel), List.mem_of_getElem? (i := 626) (by decide +kernel), List.mem_of_getElem? (i := 627) (by decide +kernel)⟩
theorem lw_p17 : lw_okq (⟨"CranePermitsModel", "uses", "(I)I"⟩, 9) := ⟨⟨by decide +kernel, by decide +kernel⟩, List.mem_of_getElem? (i := 550) (by decide +kernel), List.mem_of_getElem? (i := 630) (by decide +kernel), List.mem_of_getElem? (i := 631) (by decide +kernel)⟩
theorem lw_p18 : lw_okq (⟨"CranePermitsModel", "credits", "(II)I"⟩, 9) := ⟨⟨by decide +kernel, by decide +kernel⟩, List.mem_of_getElem? (i := 550) (by decide +kernel), List.mem_of_getElem? (i := 637) (by decide +kernel), List.mem_of_getElem? (i := 638) (by decide +kernel)⟩
theorem lw_p19 : lw_okq (⟨"CranePermitsModel", "allowed", "(II)I"⟩, 9) := ⟨⟨by decide +kernel, by decide +kernel⟩, List.mem_of_getElem? (i := 550) (by decide +kernel), List.mem_of_getElem? (i := 644) (by decide +kernel), List.mem_of_getElem? (i := 645) (by decide +kernel)⟩
theorem lw_p20 : lw_okq (⟨"CranePermitsModel", "valid", "(I)I"⟩, 9) := ⟨⟨by decide +kernel, by decide +kernel⟩, List.mem_of_getElem? (i := 550) (by decide +kernel), List.mem_of_getElem? (i := 652) (by decide +kernel), List.mem_of_getElem? (i := 653) (by decide +kernel)⟩
theorem lw_p21 : lw_okq (⟨"CranePermitsModel", "calms", "(I)I"⟩, 9) := ⟨⟨by decide +kernel, by decide +kernel⟩, List.mem_of_getElem? (i := 550) (by decide +kernel), List.mem_of_getElem? (i := 660) (by decide +kernel), List.mem_of_getElem? (i := 661) (by decide +kernel)⟩
theorem lw_p22 : lw_okq (⟨"CranePermitsModel", "stops", "(II)Z"⟩, 9) := ⟨⟨by decide +kernel, by decide +kernel⟩, List.mem_of_getElem? (i := 550) (by decide +kernel), List.mem_of_getElem? (i := 664) (by decide +kernel), List.mem_of_getElem? (i := 665) (by decide +kernel)⟩
theorem lw_p23 : lw_okq (⟨"CranePermitsModel", "validOf", "(II)I"⟩, 9) := ⟨⟨by decide +kernel, by decide +kernel⟩, List.mem_of_getElem? (i := 550) (by decide +kernel), List.mem_of_getElem? (i := 687) (by decide +kernel), List.mem_of_getElem? (i := 688) (by decide +kernel)⟩
theorem lw_p24 : lw_okq (⟨"CranePermitsModel", "together", "(Z)I"⟩, 9) := ⟨⟨by decide +kernel, by decide +kernel⟩, List.mem_of_getElem? (i := 550) (by decide +kernel), List.mem_of_getElem? (i := 695) (by decide +kernel), List.mem_of_getElem? (i := 696) (by decide +kernel)⟩
theorem lw_p25 : lw_okq (⟨"CranePermitsModel", "air", "(IIIII)Z"⟩, 9) := ⟨⟨by decide +kernel, by decide +kernel⟩, List.mem_of_getElem? (i := 550) (by decide +kernel), List.mem_of_getElem? (i := 699) (by decide +kernel), List.mem_of_getElem? (i := 700) (by decide +kernel)⟩
theorem lw_p26 : lw_okq (⟨"CranePermitsModel", "areaMeets", "(IIII)Z"⟩, 9) := ⟨⟨by decide +kernel, by decide +kernel⟩, List.mem_of_getElem? (i := 550) (by decide +kernel), List.mem_of_getElem? (i := 706) (by decide +kernel), List.mem_of_getElem? (i := 707) (by decide +kernel)⟩
theorem lw_p27 : lw_okq (⟨"CranePermitsModel", "isCovered", "(IIII)Z"⟩, 9) := ⟨⟨by decide +kernel, by decide +kernel⟩, List.mem_of_getElem? (i := 550) (by decide +kernel), List.mem_of_getElem? (i := 710) (by decide +kernel), List.mem_of_getElem? (i := 711) (by decide +kernel)⟩
theorem lw_p28 : lw_okq (⟨"CranePermitsModel", "isApplication", "(IIII)Z"⟩, 9) := ⟨⟨by decide +kernel, by decide +kernel⟩, List.mem_of_getElem? (i := 550) (by decide +kernel), List.mem_of_getElem? (i := 736) (by decide +kernel), List.mem_of_getElem? (i := 737) (by decide +kernel)⟩
theorem lw_p29 : lw_okq (⟨"CranePermitsModel", "refuses", "(IIII)I"⟩, 9) := ⟨⟨by decide +kernel, by decide +kernel⟩, List.mem_of_getElem? (i := 550) (by decide +kernel), List.mem_of_getElem? (i := 743) (by decide +kernel), List.mem_of_getElem? (i := 744) (by decide +kernel)⟩
theorem lw_p30 : lw_okq (⟨"CranePermitsModel", "firstInAir", "(IIII)I"⟩, 9) := ⟨⟨by decide +kernel, by decide +kernel⟩, List.mem_of_getElem? (i := 550) (by decide +kernel), List.mem_of_getElem? (i := 747) (by decide +kernel), List.mem_of_getElem? (i := 748) (by decide +kernel)⟩
theorem lw_p31 : lw_okq (⟨"CranePermitsModel", "isFull", "()Z"⟩, 9) := ⟨⟨by decide +kernel, by decide +kernel⟩, List.mem_of_getElem? (i := 550) (by decide +kernel), List.mem_of_getElem? (i := 755) (by decide +kernel), List.mem_of_getElem? (i := 756) (by decide +kernel)⟩
def lw_privs_2 : List (MethodName × Nat) := [(⟨"CranePermitsModel", "used", "(II)I"⟩, 9), (⟨"CranePermitsModel", "uses", "(I)I"⟩, 9), (⟨"CranePermitsModel", "credits", "(II)I"⟩, 9), (⟨"CranePermitsModel", "allowed", "(II)I"⟩, 9), (⟨"CranePermitsModel", "valid", "(I)I"⟩, 9), (⟨"CranePermitsModel", "calms", "(I)I"⟩, 9), (⟨"CranePermitsModel", "stops", "(II)Z"⟩, 9), (⟨"CranePermitsModel", "validOf", "(II)I"⟩, 9), (⟨"CranePermitsModel", "together", "(Z)I"⟩, 9), (⟨"CranePermitsModel", "air", "(IIIII)Z"⟩, 9), (⟨"CranePermitsModel", "areaMeets", "(IIII)Z"⟩, 9), (⟨"CranePermitsModel", "isCovered", "(IIII)Z"⟩, 9), (⟨"CranePermitsModel", "isApplication", "(IIII)Z"⟩, 9), (⟨"CranePermitsModel", "refuses", "(IIII)I"⟩, 9), (⟨"CranePermitsModel", "firstInAir", "(IIII)I"⟩, 9), (⟨"CranePermitsModel", "isFull", "()Z"⟩, 9)]
theorem lw_r2 : ∀ q ∈ lw_privs_2, lw_okq q := List.forall_mem_cons.mpr ⟨lw_p16, List.forall_mem_cons.mpr ⟨lw_p17, List.forall_mem_cons.mpr ⟨lw_p18, List.forall_mem_cons.mpr ⟨lw_p19, List.forall_mem_cons.mpr ⟨lw_p20, List.forall_mem_cons.mpr ⟨lw_p21, List.forall_mem_cons.mpr ⟨lw_p22, List.forall_mem_cons.mpr ⟨lw_p23, List.forall_mem_cons.mpr ⟨lw_p24, List.forall_mem_cons.mpr ⟨lw_p25, List.forall_mem_cons.mpr ⟨lw_p26, List.forall_mem_cons.mpr ⟨lw_p27, List.forall_mem_cons.mpr ⟨lw_p28, List.forall_mem_cons.mpr ⟨lw_p29, List.forall_mem_cons.mpr ⟨lw_p30, List.forall_mem_cons.mpr ⟨lw_p31, fun _ h => absurd h List.not_mem_nil⟩⟩⟩⟩⟩⟩⟩⟩⟩⟩⟩⟩⟩⟩⟩⟩
theorem lw_p32 : lw_okq (⟨"CranePermitsModel", "grants", "(IIII)I"⟩, 9) := ⟨⟨by decide +kernel, by decide +kernel⟩, List.mem_of_getElem? (i := 550) (by decide +kernel), List.mem_of_getElem? (i := 759) (by decide +kernel), List.mem_of_getElem? (i := 760) (by decide +kernel)⟩
theorem lw_p33 : lw_okq (⟨"CranePermitsModel", "isPermit", "(I)Z"⟩, 9) := ⟨⟨by decide +kernel, by decide +kernel⟩, List.mem_of_getElem? (i := 550) (by decide +kernel), List.mem_of_getElem? (i := 767) (by decide +kernel), List.mem_of_getElem? (i := 768) (by decide +kernel)⟩
theorem lw_p34 : lw_okq (⟨"CranePermitsModel", "isAhead", "(II)Z"⟩, 9) := ⟨⟨by decide +kernel, by decide +kernel⟩, List.mem_of_getElem? (i := 550) (by decide +kernel), List.mem_of_getElem? (i := 779) (by decide +kernel), List.mem_of_getElem? (i := 780) (by decide +kernel)⟩
theorem lw_p35 : lw_okq (⟨"CranePermitsModel", "faulty", "()I"⟩, 9) := ⟨⟨by decide +kernel, by decide +kernel⟩, List.mem_of_getElem? (i := 550) (by decide +kernel), List.mem_of_getElem? (i := 807) (by decide +kernel), List.mem_of_getElem? (i := 808) (by decide +kernel)⟩
theorem lw_p36 : lw_okq (⟨"CranePermitsModel", "entersOne", "()I"⟩, 9) := ⟨⟨by decide +kernel, by decide +kernel⟩, List.mem_of_getElem? (i := 550) (by decide +kernel), List.mem_of_getElem? (i := 811) (by decide +kernel), List.mem_of_getElem? (i := 812) (by decide +kernel)⟩
theorem lw_p37 : lw_okq (⟨"CranePermitsModel", "readsForm", "()Z"⟩, 9) := ⟨⟨by decide +kernel, by decide +kernel⟩, List.mem_of_getElem? (i := 550) (by decide +kernel), List.mem_of_getElem? (i := 815) (by decide +kernel), List.mem_of_getElem? (i := 816) (by decide +kernel)⟩
theorem lw_p38 : lw_okq (⟨"CranePermitsModel", "number", "(I)I"⟩, 9) := ⟨⟨by decide +kernel, by decide +kernel⟩, List.mem_of_getElem? (i := 550) (by decide +kernel), List.mem_of_getElem? (i := 819) (by decide +kernel), List.mem_of_getElem? (i := 820) (by decide +kernel)⟩
theorem lw_p39 : lw_okq (⟨"CranePermitsModel", "passes", "(C)Z"⟩, 9) := ⟨⟨by decide +kernel, by decide +kernel⟩, List.mem_of_getElem? (i := 550) (by decide +kernel), List.mem_of_getElem? (i := 823) (by decide +kernel), List.mem_of_getElem? (i := 824) (by decide +kernel)⟩
def lw_privs_3 : List (MethodName × Nat) := [(⟨"CranePermitsModel", "grants", "(IIII)I"⟩, 9), (⟨"CranePermitsModel", "isPermit", "(I)Z"⟩, 9), (⟨"CranePermitsModel", "isAhead", "(II)Z"⟩, 9), (⟨"CranePermitsModel", "faulty", "()I"⟩, 9), (⟨"CranePermitsModel", "entersOne", "()I"⟩, 9), (⟨"CranePermitsModel", "readsForm", "()Z"⟩, 9), (⟨"CranePermitsModel", "number", "(I)I"⟩, 9), (⟨"CranePermitsModel", "passes", "(C)Z"⟩, 9)]
theorem lw_r3 : ∀ q ∈ lw_privs_3, lw_okq q := List.forall_mem_cons.mpr ⟨lw_p32, List.forall_mem_cons.mpr ⟨lw_p33, List.forall_mem_cons.mpr ⟨lw_p34, List.forall_mem_cons.mpr ⟨lw_p35, List.forall_mem_cons.mpr ⟨lw_p36, List.forall_mem_cons.mpr ⟨lw_p37, List.forall_mem_cons.mpr ⟨lw_p38, List.forall_mem_cons.mpr ⟨lw_p39, fun _ h => absurd h List.not_mem_nil⟩⟩⟩⟩⟩⟩⟩⟩
def lw_privs : List (MethodName × Nat) := lw_privs_1 ++ (lw_privs_2 ++ (lw_privs_3))
def lw_tbl : List Cond := k2_sels lw_privs ++ tables_1
theorem lw_privs_ok : ∀ q ∈ lw_privs, lw_okq q := by
  show ∀ q ∈ lw_privs_1 ++ (lw_privs_2 ++ (lw_privs_3)), lw_okq q
  exact List.forall_mem_append.mpr ⟨lw_r1, List.forall_mem_append.mpr ⟨lw_r2, lw_r3⟩⟩
-- ===== end of PART A; then your names; then what follows =====
/-! ===== BEGIN words of one list among another's, by their places ===== -/
theorem goodIn_r {big : List Cond} (ws : List Cond) (ps : List Nat) (hp : ws = ps.filterMap (fun i => big[i]?)) (h : ws.all goodWord = true) : GoodIn big ws := by
  intro w hw
  have h1 := List.all_eq_true.mp h w hw
  rw [hp] at hw
  obtain ⟨i, -, hi⟩ := List.mem_filterMap.mp hw
  have hm : w ∈ big := by first | exact List.mem_of_getElem? hi | exact List.getElem?_mem hi
  exact ⟨hm, good_of_word h1⟩
theorem goodIn_app {big a b : List Cond} (ha : GoodIn big a) (hb : GoodIn big b) : GoodIn big (a ++ b) := fun w h => (List.mem_append.mp h).elim (ha w) (hb w)
theorem goodIn_ca {big a b : List Cond} {c : Cond} (ha : GoodIn big (c :: a)) (hb : GoodIn big b) : GoodIn big (c :: (a ++ b)) := fun w h => (List.mem_cons.mp h).elim (fun e => ha w (List.mem_cons.mpr (Or.inl e))) (fun h => (List.mem_append.mp h).elim (fun h => ha w (List.mem_cons.mpr (Or.inr h))) (hb w))
theorem goodIn_sub {big ws : List Cond} (hm : ∀ w ∈ ws, w ∈ big) (h : ws.all goodWord = true) : GoodIn big ws := fun w hw => ⟨hm w hw, good_of_word (List.all_eq_true.mp h w hw)⟩
/-! ===== END ===== -/

/-! ===== BEGIN printed: names, fields, word lists, decode rows ===== -/
def RX0 : String := "CranePermits$Crane"
def TX0 : u_T := fun k => match k with
  | 0 => ("CranePermits$Crane", "number", "I", true)
  | 1 => ("CranePermits$Crane", "x", "I", true)
  | 2 => ("CranePermits$Crane", "y", "I", true)
  | 3 => ("CranePermits$Crane", "reach", "I", true)
  | 4 => ("CranePermits$Crane", "height", "I", true)
  | 5 => ("CranePermits$Crane", "street", "I", true)
  | _ => ("CranePermits$Crane", "eighths", "[J", true)
def tyX0 : Nat → FieldType := fun k => match k with
  | 0 => .int
  | 1 => .int
  | 2 => .int
  | 3 => .int
  | 4 => .int
  | 5 => .int
  | _ => .array .long
abbrev wsX00 : List Cond := u_ws RX0 TX0 7
theorem nmX0 : ∀ a, a < 7 → ∀ b, b < 7 → a ≠ b → (TX0 a).2.1 ≠ (TX0 b).2.1 := by decide +kernel
theorem tyX0_ok : ∀ k, k < 7 → parseFieldDescriptor (TX0 k).2.2.1 = some (tyX0 k) := by decide +kernel
abbrev cX0_init : ByteArray := prog_2_method_1_code
def yX0_init : MethodName := ⟨RX0, "<init>", "(IIIIII)V"⟩
abbrev cX0_markOwnCell : ByteArray := prog_2_method_2_code
def yX0_markOwnCell : MethodName := ⟨RX0, "markOwnCell", "(I)V"⟩
abbrev cX0_mark : ByteArray := prog_2_method_3_code
def yX0_mark : MethodName := ⟨RX0, "mark", "(II)V"⟩
abbrev cX0_directionOf : ByteArray := prog_2_method_4_code
def yX0_directionOf : MethodName := ⟨RX0, "directionOf", "(II)I"⟩
abbrev cX0_airOf : ByteArray := prog_2_method_5_code
def yX0_airOf : MethodName := ⟨RX0, "airOf", "(II)J"⟩
def RX1 : String := "CranePermits$Permit"
def TX1 : u_T := fun k => match k with
  | 0 => ("CranePermits$Permit", "number", "I", true)
  | 1 => ("CranePermits$Permit", "crane", "LCranePermits$Crane;", true)
  | 2 => ("CranePermits$Permit", "night", "I", true)
  | 3 => ("CranePermits$Permit", "hours", "I", true)
  | 4 => ("CranePermits$Permit", "first", "I", true)
  | 5 => ("CranePermits$Permit", "last", "I", true)
  | _ => ("CranePermits$Permit", "swing", "I", true)
def tyX1 : Nat → FieldType := fun k => match k with
  | 0 => .int
  | 1 => .object "CranePermits$Crane"
  | 2 => .int
  | 3 => .int
  | 4 => .int
  | 5 => .int
  | _ => .int
abbrev wsX10 : List Cond := u_ws RX1 TX1 7
theorem nmX1 : ∀ a, a < 7 → ∀ b, b < 7 → a ≠ b → (TX1 a).2.1 ≠ (TX1 b).2.1 := by decide +kernel
theorem tyX1_ok : ∀ k, k < 7 → parseFieldDescriptor (TX1 k).2.2.1 = some (tyX1 k) := by decide +kernel
abbrev cX1_init : ByteArray := prog_3_method_1_code
def yX1_init : MethodName := ⟨RX1, "<init>", "(ILCranePermits$Crane;III)V"⟩
abbrev cX1_isFor : ByteArray := prog_3_method_2_code
def yX1_isFor : MethodName := ⟨RX1, "isFor", "(LCranePermits$Crane;)Z"⟩
abbrev cX1_isOf : ByteArray := prog_3_method_3_code
def yX1_isOf : MethodName := ⟨RX1, "isOf", "(II)Z"⟩
abbrev cX1_meets : ByteArray := prog_3_method_4_code
def yX1_meets : MethodName := ⟨RX1, "meets", "(II)Z"⟩
abbrev cX1_isAheadOf : ByteArray := prog_3_method_5_code
def yX1_isAheadOf : MethodName := ⟨RX1, "isAheadOf", "(LCranePermits$Permit;)Z"⟩
def RX2 : String := "CranePermits$Site"
def TX2 : u_T := fun k => match k with
  | 0 => ("CranePermits$Site", "cranes", "[LCranePermits$Crane;", true)
  | 1 => ("CranePermits$Site", "craneCount", "I", false)
  | 2 => ("CranePermits$Site", "noises", "[I", true)
  | 3 => ("CranePermits$Site", "settings", "[I", true)
  | 4 => ("CranePermits$Site", "winds", "[I", true)
  | 5 => ("CranePermits$Site", "allowances", "[I", true)
  | 6 => ("CranePermits$Site", "received", "[I", true)
  | 7 => ("CranePermits$Site", "given", "[I", true)
  | 8 => ("CranePermits$Site", "permits", "[LCranePermits$Permit;", true)
  | 9 => ("CranePermits$Site", "permitCount", "I", false)
  | 10 => ("CranePermits$Site", "states", "[I", true)
  | 11 => ("CranePermits$Site", "valid", "[LCranePermits$Permit;", true)
  | _ => ("CranePermits$Site", "validCount", "I", false)
def tyX2 : Nat → FieldType := fun k => match k with
  | 0 => .array (.object "CranePermits$Crane")
  | 1 => .int
  | 2 => .array .int
  | 3 => .array .int
  | 4 => .array .int
  | 5 => .array .int
  | 6 => .array .int
  | 7 => .array .int
  | 8 => .array (.object "CranePermits$Permit")
  | 9 => .int
  | 10 => .array .int
  | 11 => .array (.object "CranePermits$Permit")
  | _ => .int
abbrev wsX20 : List Cond := u_ws RX2 TX2 13
theorem nmX2 : ∀ a, a < 13 → ∀ b, b < 13 → a ≠ b → (TX2 a).2.1 ≠ (TX2 b).2.1 := by decide +kernel
theorem tyX2_ok : ∀ k, k < 13 → parseFieldDescriptor (TX2 k).2.2.1 = some (tyX2 k) := by decide +kernel
abbrev cX2_init : ByteArray := prog_4_method_1_code
def yX2_init : MethodName := ⟨RX2, "<init>", "()V"⟩
abbrev cX2_copyFrom : ByteArray := prog_4_method_2_code
def yX2_copyFrom : MethodName := ⟨RX2, "copyFrom", "(LCranePermits$Site;)V"⟩
abbrev cX2_craneAt : ByteArray := prog_4_method_3_code
def yX2_craneAt : MethodName := ⟨RX2, "craneAt", "(I)LCranePermits$Crane;"⟩
abbrev cX2_permitAt : ByteArray := prog_4_method_4_code
def yX2_permitAt : MethodName := ⟨RX2, "permitAt", "(I)LCranePermits$Permit;"⟩
abbrev cX2_validAt : ByteArray := prog_4_method_5_code
def yX2_validAt : MethodName := ⟨RX2, "validAt", "(I)LCranePermits$Permit;"⟩
abbrev cX2_hasCraneIn : ByteArray := prog_4_method_6_code
def yX2_hasCraneIn : MethodName := ⟨RX2, "hasCraneIn", "(II)Z"⟩
abbrev cX2_addCrane : ByteArray := prog_4_method_7_code
def yX2_addCrane : MethodName := ⟨RX2, "addCrane", "(LCranePermits$Crane;I)V"⟩
abbrev cX2_stopWindOf : ByteArray := prog_4_method_8_code
def yX2_stopWindOf : MethodName := ⟨RX2, "stopWindOf", "(LCranePermits$Crane;)I"⟩
abbrev cX2_mustStop : ByteArray := prog_4_method_9_code
def yX2_mustStop : MethodName := ⟨RX2, "mustStop", "(LCranePermits$Crane;I)Z"⟩
abbrev cX2_allowanceOf : ByteArray := prog_4_method_10_code
def yX2_allowanceOf : MethodName := ⟨RX2, "allowanceOf", "(II)I"⟩
abbrev cX2_creditsOf : ByteArray := prog_4_method_11_code
def yX2_creditsOf : MethodName := ⟨RX2, "creditsOf", "(II)I"⟩
abbrev cX2_useOf : ByteArray := prog_4_method_12_code
def yX2_useOf : MethodName := ⟨RX2, "useOf", "(LCranePermits$Crane;I)I"⟩
abbrev cX2_usedOf : ByteArray := prog_4_method_13_code
def yX2_usedOf : MethodName := ⟨RX2, "usedOf", "(II)I"⟩
abbrev cX2_freeOf : ByteArray := prog_4_method_14_code
def yX2_freeOf : MethodName := ⟨RX2, "freeOf", "(II)I"⟩
abbrev cX2_usedByAll : ByteArray := prog_4_method_15_code
def yX2_usedByAll : MethodName := ⟨RX2, "usedByAll", "()I"⟩
abbrev cX2_validOfCrane : ByteArray := prog_4_method_16_code
def yX2_validOfCrane : MethodName := ⟨RX2, "validOfCrane", "(LCranePermits$Crane;)I"⟩
abbrev cX2_validOfStreet : ByteArray := prog_4_method_17_code
def yX2_validOfStreet : MethodName := ⟨RX2, "validOfStreet", "(II)I"⟩
abbrev cX2_validAhead : ByteArray := prog_4_method_18_code
def yX2_validAhead : MethodName := ⟨RX2, "validAhead", "(LCranePermits$Permit;)I"⟩
abbrev cX2_permitsWith : ByteArray := prog_4_method_19_code
def yX2_permitsWith : MethodName := ⟨RX2, "permitsWith", "(I)I"⟩
abbrev cX2_shareAir : ByteArray := prog_4_method_20_code
def yX2_shareAir : MethodName := ⟨RX2, "shareAir", "(LCranePermits$Crane;IIILCranePermits$Permit;)Z"⟩
abbrev cX2_lowestSharing : ByteArray := prog_4_method_21_code
def yX2_lowestSharing : MethodName := ⟨RX2, "lowestSharing", "(LCranePermits$Crane;III)I"⟩
abbrev cX2_sharingPairs : ByteArray := prog_4_method_22_code
def yX2_sharingPairs : MethodName := ⟨RX2, "sharingPairs", "()I"⟩
abbrev cX2_isBusy : ByteArray := prog_4_method_23_code
def yX2_isBusy : MethodName := ⟨RX2, "isBusy", "(LCranePermits$Crane;II)Z"⟩
abbrev cX2_refusalOf : ByteArray := prog_4_method_24_code
def yX2_refusalOf : MethodName := ⟨RX2, "refusalOf", "(LCranePermits$Crane;III)I"⟩
abbrev cX2_hasRoom : ByteArray := prog_4_method_25_code
def yX2_hasRoom : MethodName := ⟨RX2, "hasRoom", "()Z"⟩
abbrev cX2_grant : ByteArray := prog_4_method_26_code
def yX2_grant : MethodName := ⟨RX2, "grant", "(LCranePermits$Permit;)V"⟩
abbrev cX2_end : ByteArray := prog_4_method_27_code
def yX2_end : MethodName := ⟨RX2, "end", "(LCranePermits$Permit;I)V"⟩
abbrev cX2_withdrawFailing : ByteArray := prog_4_method_28_code
def yX2_withdrawFailing : MethodName := ⟨RX2, "withdrawFailing", "()I"⟩
def RX3 : String := "CranePermits$Text"
def TX3 : u_T := fun k => match k with
  | 0 => ("CranePermits$Text", "signs", "[C", true)
  | 1 => ("CranePermits$Text", "length", "I", false)
  | 2 => ("CranePermits$Text", "start", "I", false)
  | 3 => ("CranePermits$Text", "next", "I", false)
  | 4 => ("CranePermits$Text", "formed", "Z", false)
  | 5 => ("CranePermits$Text", "crane", "I", false)
  | 6 => ("CranePermits$Text", "night", "I", false)
  | 7 => ("CranePermits$Text", "hours", "I", false)
  | _ => ("CranePermits$Text", "swing", "I", false)
def tyX3 : Nat → FieldType := fun k => match k with
  | 0 => .array .char
  | 1 => .int
  | 2 => .int
  | 3 => .int
  | 4 => .boolean
  | 5 => .int
  | 6 => .int
  | 7 => .int
  | _ => .int
abbrev wsX30 : List Cond := u_ws RX3 TX3 9
theorem nmX3 : ∀ a, a < 9 → ∀ b, b < 9 → a ≠ b → (TX3 a).2.1 ≠ (TX3 b).2.1 := by decide +kernel
theorem tyX3_ok : ∀ k, k < 9 → parseFieldDescriptor (TX3 k).2.2.1 = some (tyX3 k) := by decide +kernel
abbrev cX3_init : ByteArray := prog_5_method_1_code
def yX3_init : MethodName := ⟨RX3, "<init>", "()V"⟩
abbrev cX3_append : ByteArray := prog_5_method_2_code
def yX3_append : MethodName := ⟨RX3, "append", "(C)V"⟩
abbrev cX3_readApplication : ByteArray := prog_5_method_3_code
def yX3_readApplication : MethodName := ⟨RX3, "readApplication", "()Z"⟩
abbrev cX3_readSign : ByteArray := prog_5_method_4_code
def yX3_readSign : MethodName := ⟨RX3, "readSign", "(C)V"⟩
abbrev cX3_readNumber : ByteArray := prog_5_method_5_code
def yX3_readNumber : MethodName := ⟨RX3, "readNumber", "(I)I"⟩
abbrev cX3_signAt : ByteArray := prog_5_method_6_code
def yX3_signAt : MethodName := ⟨RX3, "signAt", "(I)I"⟩
def RX4 : String := "CranePermits"
def TX4 : u_T := fun k => match k with
  | 0 => ("CranePermits", "now", "LCranePermits$Site;", true)
  | 1 => ("CranePermits", "trial", "LCranePermits$Site;", true)
  | 2 => ("CranePermits", "past", "[LCranePermits$Site;", true)
  | 3 => ("CranePermits", "pastCount", "I", false)
  | _ => ("CranePermits", "text", "LCranePermits$Text;", true)
def tyX4 : Nat → FieldType := fun k => match k with
  | 0 => .object "CranePermits$Site"
  | 1 => .object "CranePermits$Site"
  | 2 => .array (.object "CranePermits$Site")
  | 3 => .int
  | _ => .object "CranePermits$Text"
abbrev wsX40 : List Cond := u_ws RX4 TX4 5
theorem nmX4 : ∀ a, a < 5 → ∀ b, b < 5 → a ≠ b → (TX4 a).2.1 ≠ (TX4 b).2.1 := by decide +kernel
theorem tyX4_ok : ∀ k, k < 5 → parseFieldDescriptor (TX4 k).2.2.1 = some (tyX4 k) := by decide +kernel
abbrev cX4_init : ByteArray := prog_1_method_1_code
def yX4_init : MethodName := ⟨RX4, "<init>", "()V"⟩
abbrev cX4_crane : ByteArray := prog_1_method_2_code
def yX4_crane : MethodName := ⟨RX4, "crane", "(IIIIII)I"⟩
abbrev cX4_noise : ByteArray := prog_1_method_3_code
def yX4_noise : MethodName := ⟨RX4, "noise", "(II)I"⟩
abbrev cX4_craneOf : ByteArray := prog_1_method_4_code
def yX4_craneOf : MethodName := ⟨RX4, "craneOf", "(II)I"⟩
abbrev cX4_set : ByteArray := prog_1_method_5_code
def yX4_set : MethodName := ⟨RX4, "set", "(II)I"⟩
abbrev cX4_wind : ByteArray := prog_1_method_6_code
def yX4_wind : MethodName := ⟨RX4, "wind", "(II)I"⟩
abbrev cX4_allow : ByteArray := prog_1_method_7_code
def yX4_allow : MethodName := ⟨RX4, "allow", "(III)I"⟩
abbrev cX4_transfer : ByteArray := prog_1_method_8_code
def yX4_transfer : MethodName := ⟨RX4, "transfer", "(IIII)I"⟩
abbrev cX4_street : ByteArray := prog_1_method_9_code
def yX4_street : MethodName := ⟨RX4, "street", "(III)I"⟩
abbrev cX4_count : ByteArray := prog_1_method_10_code
def yX4_count : MethodName := ⟨RX4, "count", "(I)I"⟩
abbrev cX4_undo : ByteArray := prog_1_method_11_code
def yX4_undo : MethodName := ⟨RX4, "undo", "()I"⟩
abbrev cX4_covers : ByteArray := prog_1_method_12_code
def yX4_covers : MethodName := ⟨RX4, "covers", "(IIII)I"⟩
abbrev cX4_area : ByteArray := prog_1_method_13_code
def yX4_area : MethodName := ⟨RX4, "area", "(II)I"⟩
abbrev cX4_refusal : ByteArray := prog_1_method_14_code
def yX4_refusal : MethodName := ⟨RX4, "refusal", "(IIII)I"⟩
abbrev cX4_apply : ByteArray := prog_1_method_15_code
def yX4_apply : MethodName := ⟨RX4, "apply", "(IIII)I"⟩
abbrev cX4_withdraw : ByteArray := prog_1_method_16_code
def yX4_withdraw : MethodName := ⟨RX4, "withdraw", "(I)I"⟩
abbrev cX4_permit : ByteArray := prog_1_method_17_code
def yX4_permit : MethodName := ⟨RX4, "permit", "(II)I"⟩
abbrev cX4_inOrder : ByteArray := prog_1_method_18_code
def yX4_inOrder : MethodName := ⟨RX4, "inOrder", "(I)I"⟩
abbrev cX4_shares : ByteArray := prog_1_method_19_code
def yX4_shares : MethodName := ⟨RX4, "shares", "(II)I"⟩
abbrev cX4_inTheWay : ByteArray := prog_1_method_20_code
def yX4_inTheWay : MethodName := ⟨RX4, "inTheWay", "(IIII)I"⟩
abbrev cX4_firstFree : ByteArray := prog_1_method_21_code
def yX4_firstFree : MethodName := ⟨RX4, "firstFree", "(IIII)I"⟩
abbrev cX4_type : ByteArray := prog_1_method_22_code
def yX4_type : MethodName := ⟨RX4, "type", "(I)I"⟩
abbrev cX4_clearText : ByteArray := prog_1_method_23_code
def yX4_clearText : MethodName := ⟨RX4, "clearText", "()I"⟩
abbrev cX4_fault : ByteArray := prog_1_method_24_code
def yX4_fault : MethodName := ⟨RX4, "fault", "(I)I"⟩
abbrev cX4_enter : ByteArray := prog_1_method_25_code
def yX4_enter : MethodName := ⟨RX4, "enter", "()I"⟩
abbrev cX4_remember : ByteArray := prog_1_method_26_code
def yX4_remember : MethodName := ⟨RX4, "remember", "()V"⟩
abbrev cX4_tryText : ByteArray := prog_1_method_27_code
def yX4_tryText : MethodName := ⟨RX4, "tryText", "()I"⟩
abbrev cX4_tryApplication : ByteArray := prog_1_method_28_code
def yX4_tryApplication : MethodName := ⟨RX4, "tryApplication", "()I"⟩
abbrev cX4_isIn : ByteArray := prog_1_method_29_code
def yX4_isIn : MethodName := ⟨RX4, "isIn", "(III)Z"⟩
abbrev cX4_isCell : ByteArray := prog_1_method_30_code
def yX4_isCell : MethodName := ⟨RX4, "isCell", "(II)Z"⟩
abbrev cX4_isStreet : ByteArray := prog_1_method_31_code
def yX4_isStreet : MethodName := ⟨RX4, "isStreet", "(I)Z"⟩
abbrev cX4_isNight : ByteArray := prog_1_method_32_code
def yX4_isNight : MethodName := ⟨RX4, "isNight", "(I)Z"⟩
abbrev cX4_isSwing : ByteArray := prog_1_method_33_code
def yX4_isSwing : MethodName := ⟨RX4, "isSwing", "(I)Z"⟩
abbrev cX4_isPlan : ByteArray := prog_1_method_34_code
def yX4_isPlan : MethodName := ⟨RX4, "isPlan", "(III)Z"⟩
abbrev cX4_streetNight : ByteArray := prog_1_method_35_code
def yX4_streetNight : MethodName := ⟨RX4, "streetNight", "(II)I"⟩
abbrev cX4_at : ByteArray := prog_1_method_36_code
def yX4_at : MethodName := ⟨RX4, "at", "([II)I"⟩
abbrev cX4_put : ByteArray := prog_1_method_37_code
def yX4_put : MethodName := ⟨RX4, "put", "([III)V"⟩
def RX5 : String := "CranePermitsModel"
def TX5 : u_T := fun k => match k with
  | 0 => ("CranePermitsModel", "d", "[I", true)
  | 1 => ("CranePermitsModel", "was", "[I", true)
  | 2 => ("CranePermitsModel", "states", "I", false)
  | 3 => ("CranePermitsModel", "aside", "[I", true)
  | 4 => ("CranePermitsModel", "text", "[C", true)
  | 5 => ("CranePermitsModel", "typed", "I", false)
  | 6 => ("CranePermitsModel", "at", "I", false)
  | 7 => ("CranePermitsModel", "reason", "I", false)
  | _ => ("CranePermitsModel", "got", "[I", true)
def tyX5 : Nat → FieldType := fun k => match k with
  | 0 => .array .int
  | 1 => .array .int
  | 2 => .int
  | 3 => .array .int
  | 4 => .array .char
  | 5 => .int
  | 6 => .int
  | 7 => .int
  | _ => .array .int
abbrev wsX50 : List Cond := u_ws RX5 TX5 9
theorem nmX5 : ∀ a, a < 9 → ∀ b, b < 9 → a ≠ b → (TX5 a).2.1 ≠ (TX5 b).2.1 := by decide +kernel
theorem tyX5_ok : ∀ k, k < 9 → parseFieldDescriptor (TX5 k).2.2.1 = some (tyX5 k) := by decide +kernel
abbrev cX5_init : ByteArray := prog_7_method_1_code
def yX5_init : MethodName := ⟨RX5, "<init>", "()V"⟩
abbrev cX5_in : ByteArray := prog_7_method_2_code
def yX5_in : MethodName := ⟨RX5, "in", "(III)Z"⟩
abbrev cX5_isCrane : ByteArray := prog_7_method_3_code
def yX5_isCrane : MethodName := ⟨RX5, "isCrane", "(I)Z"⟩
abbrev cX5_isPermit : ByteArray := prog_7_method_4_code
def yX5_isPermit : MethodName := ⟨RX5, "isPermit", "(I)Z"⟩
abbrev cX5_isNight : ByteArray := prog_7_method_5_code
def yX5_isNight : MethodName := ⟨RX5, "isNight", "(I)Z"⟩
abbrev cX5_isStreet : ByteArray := prog_7_method_6_code
def yX5_isStreet : MethodName := ⟨RX5, "isStreet", "(I)Z"⟩
abbrev cX5_isSwing : ByteArray := prog_7_method_7_code
def yX5_isSwing : MethodName := ⟨RX5, "isSwing", "(I)Z"⟩
abbrev cX5_areHours : ByteArray := prog_7_method_8_code
def yX5_areHours : MethodName := ⟨RX5, "areHours", "(I)Z"⟩
abbrev cX5_craned : ByteArray := prog_7_method_9_code
def yX5_craned : MethodName := ⟨RX5, "craned", "(II)I"⟩
abbrev cX5_of : ByteArray := prog_7_method_10_code
def yX5_of : MethodName := ⟨RX5, "of", "(II)I"⟩
abbrev cX5_spot : ByteArray := prog_7_method_11_code
def yX5_spot : MethodName := ⟨RX5, "spot", "(II)I"⟩
abbrev cX5_records : ByteArray := prog_7_method_12_code
def yX5_records : MethodName := ⟨RX5, "records", "()V"⟩
abbrev cX5_direction : ByteArray := prog_7_method_13_code
def yX5_direction : MethodName := ⟨RX5, "direction", "(II)I"⟩
abbrev cX5_isCovered : ByteArray := prog_7_method_14_code
def yX5_isCovered : MethodName := ⟨RX5, "isCovered", "(IIII)Z"⟩
abbrev cX5_areaMeets : ByteArray := prog_7_method_15_code
def yX5_areaMeets : MethodName := ⟨RX5, "areaMeets", "(IIII)Z"⟩
abbrev cX5_hoursMeet : ByteArray := prog_7_method_16_code
def yX5_hoursMeet : MethodName := ⟨RX5, "hoursMeet", "(II)Z"⟩
abbrev cX5_air : ByteArray := prog_7_method_17_code
def yX5_air : MethodName := ⟨RX5, "air", "(IIIII)Z"⟩
abbrev cX5_firstInAir : ByteArray := prog_7_method_18_code
def yX5_firstInAir : MethodName := ⟨RX5, "firstInAir", "(IIII)I"⟩
abbrev cX5_allowed : ByteArray := prog_7_method_19_code
def yX5_allowed : MethodName := ⟨RX5, "allowed", "(II)I"⟩
abbrev cX5_credits : ByteArray := prog_7_method_20_code
def yX5_credits : MethodName := ⟨RX5, "credits", "(II)I"⟩
abbrev cX5_hoursIn : ByteArray := prog_7_method_21_code
def yX5_hoursIn : MethodName := ⟨RX5, "hoursIn", "(I)I"⟩
abbrev cX5_uses : ByteArray := prog_7_method_22_code
def yX5_uses : MethodName := ⟨RX5, "uses", "(I)I"⟩
abbrev cX5_isOf : ByteArray := prog_7_method_23_code
def yX5_isOf : MethodName := ⟨RX5, "isOf", "(III)Z"⟩
abbrev cX5_used : ByteArray := prog_7_method_24_code
def yX5_used : MethodName := ⟨RX5, "used", "(II)I"⟩
abbrev cX5_stops : ByteArray := prog_7_method_25_code
def yX5_stops : MethodName := ⟨RX5, "stops", "(II)Z"⟩
abbrev cX5_calms : ByteArray := prog_7_method_26_code
def yX5_calms : MethodName := ⟨RX5, "calms", "(I)I"⟩
abbrev cX5_saves : ByteArray := prog_7_method_27_code
def yX5_saves : MethodName := ⟨RX5, "saves", "(II)I"⟩
abbrev cX5_savesAll : ByteArray := prog_7_method_28_code
def yX5_savesAll : MethodName := ⟨RX5, "savesAll", "()I"⟩
abbrev cX5_crane : ByteArray := prog_7_method_29_code
def yX5_crane : MethodName := ⟨RX5, "crane", "(IIIIII)I"⟩
abbrev cX5_noise : ByteArray := prog_7_method_30_code
def yX5_noise : MethodName := ⟨RX5, "noise", "(II)I"⟩
abbrev cX5_valid : ByteArray := prog_7_method_31_code
def yX5_valid : MethodName := ⟨RX5, "valid", "(I)I"⟩
abbrev cX5_craneOf : ByteArray := prog_7_method_32_code
def yX5_craneOf : MethodName := ⟨RX5, "craneOf", "(II)I"⟩
abbrev cX5_set : ByteArray := prog_7_method_33_code
def yX5_set : MethodName := ⟨RX5, "set", "(II)I"⟩
abbrev cX5_wind : ByteArray := prog_7_method_34_code
def yX5_wind : MethodName := ⟨RX5, "wind", "(II)I"⟩
abbrev cX5_allow : ByteArray := prog_7_method_35_code
def yX5_allow : MethodName := ⟨RX5, "allow", "(III)I"⟩
abbrev cX5_transfer : ByteArray := prog_7_method_36_code
def yX5_transfer : MethodName := ⟨RX5, "transfer", "(IIII)I"⟩
abbrev cX5_validOf : ByteArray := prog_7_method_37_code
def yX5_validOf : MethodName := ⟨RX5, "validOf", "(II)I"⟩
abbrev cX5_street : ByteArray := prog_7_method_38_code
def yX5_street : MethodName := ⟨RX5, "street", "(III)I"⟩
abbrev cX5_together : ByteArray := prog_7_method_39_code
def yX5_together : MethodName := ⟨RX5, "together", "(Z)I"⟩
abbrev cX5_count : ByteArray := prog_7_method_40_code
def yX5_count : MethodName := ⟨RX5, "count", "(I)I"⟩
abbrev cX5_undo : ByteArray := prog_7_method_41_code
def yX5_undo : MethodName := ⟨RX5, "undo", "()I"⟩
abbrev cX5_covers : ByteArray := prog_7_method_42_code
def yX5_covers : MethodName := ⟨RX5, "covers", "(IIII)I"⟩
abbrev cX5_area : ByteArray := prog_7_method_43_code
def yX5_area : MethodName := ⟨RX5, "area", "(II)I"⟩
abbrev cX5_isApplication : ByteArray := prog_7_method_44_code
def yX5_isApplication : MethodName := ⟨RX5, "isApplication", "(IIII)Z"⟩
abbrev cX5_refuses : ByteArray := prog_7_method_45_code
def yX5_refuses : MethodName := ⟨RX5, "refuses", "(IIII)I"⟩
abbrev cX5_refusal : ByteArray := prog_7_method_46_code
def yX5_refusal : MethodName := ⟨RX5, "refusal", "(IIII)I"⟩
abbrev cX5_isFull : ByteArray := prog_7_method_47_code
def yX5_isFull : MethodName := ⟨RX5, "isFull", "()Z"⟩
abbrev cX5_grants : ByteArray := prog_7_method_48_code
def yX5_grants : MethodName := ⟨RX5, "grants", "(IIII)I"⟩
abbrev cX5_apply : ByteArray := prog_7_method_49_code
def yX5_apply : MethodName := ⟨RX5, "apply", "(IIII)I"⟩
abbrev cX5_withdraw : ByteArray := prog_7_method_50_code
def yX5_withdraw : MethodName := ⟨RX5, "withdraw", "(I)I"⟩
abbrev cX5_permit : ByteArray := prog_7_method_51_code
def yX5_permit : MethodName := ⟨RX5, "permit", "(II)I"⟩
abbrev cX5_isAhead : ByteArray := prog_7_method_52_code
def yX5_isAhead : MethodName := ⟨RX5, "isAhead", "(II)Z"⟩
abbrev cX5_inOrder : ByteArray := prog_7_method_53_code
def yX5_inOrder : MethodName := ⟨RX5, "inOrder", "(I)I"⟩
abbrev cX5_shares : ByteArray := prog_7_method_54_code
def yX5_shares : MethodName := ⟨RX5, "shares", "(II)I"⟩
abbrev cX5_inTheWay : ByteArray := prog_7_method_55_code
def yX5_inTheWay : MethodName := ⟨RX5, "inTheWay", "(IIII)I"⟩
abbrev cX5_firstFree : ByteArray := prog_7_method_56_code
def yX5_firstFree : MethodName := ⟨RX5, "firstFree", "(IIII)I"⟩
abbrev cX5_type : ByteArray := prog_7_method_57_code
def yX5_type : MethodName := ⟨RX5, "type", "(I)I"⟩
abbrev cX5_clearText : ByteArray := prog_7_method_58_code
def yX5_clearText : MethodName := ⟨RX5, "clearText", "()I"⟩
abbrev cX5_passes : ByteArray := prog_7_method_59_code
def yX5_passes : MethodName := ⟨RX5, "passes", "(C)Z"⟩
abbrev cX5_number : ByteArray := prog_7_method_60_code
def yX5_number : MethodName := ⟨RX5, "number", "(I)I"⟩
abbrev cX5_readsForm : ByteArray := prog_7_method_61_code
def yX5_readsForm : MethodName := ⟨RX5, "readsForm", "()Z"⟩
abbrev cX5_entersOne : ByteArray := prog_7_method_62_code
def yX5_entersOne : MethodName := ⟨RX5, "entersOne", "()I"⟩
abbrev cX5_faulty : ByteArray := prog_7_method_63_code
def yX5_faulty : MethodName := ⟨RX5, "faulty", "()I"⟩
abbrev cX5_fault : ByteArray := prog_7_method_64_code
def yX5_fault : MethodName := ⟨RX5, "fault", "(I)I"⟩
abbrev cX5_enter : ByteArray := prog_7_method_65_code
def yX5_enter : MethodName := ⟨RX5, "enter", "()I"⟩
def RJ13 : String := "java/lang/Long"
def TJ13 : u_T := fun k => match k with
  | _ => ("", "", "", false)
def tyJ13 : Nat → FieldType := fun k => match k with
  | _ => .int
abbrev wsJ130 : List Cond := u_ws RJ13 TJ13 0
theorem nmJ13 : ∀ a, a < 0 → ∀ b, b < 0 → a ≠ b → (TJ13 a).2.1 ≠ (TJ13 b).2.1 := by decide +kernel
theorem tyJ13_ok : ∀ k, k < 0 → parseFieldDescriptor (TJ13 k).2.2.1 = some (tyJ13 k) := by decide +kernel
abbrev cJ13_bitCount_95d88 : ByteArray := prog_8_method_50_code
def yJ13_bitCount_95d88 : MethodName := ⟨RJ13, "bitCount", "(J)I"⟩
def RJ9 : String := "java/lang/Math"
def TJ9 : u_T := fun k => match k with
  | _ => ("", "", "", false)
def tyJ9 : Nat → FieldType := fun k => match k with
  | _ => .int
abbrev wsJ90 : List Cond := u_ws RJ9 TJ9 0
theorem nmJ9 : ∀ a, a < 0 → ∀ b, b < 0 → a ≠ b → (TJ9 a).2.1 ≠ (TJ9 b).2.1 := by decide +kernel
theorem tyJ9_ok : ∀ k, k < 0 → parseFieldDescriptor (TJ9 k).2.2.1 = some (tyJ9 k) := by decide +kernel
abbrev cJ9_abs_0f7a4 : ByteArray := prog_9_method_59_code
def yJ9_abs_0f7a4 : MethodName := ⟨RJ9, "abs", "(I)I"⟩
def RJ10 : String := "java/lang/System"
def TJ10 : u_T := fun k => match k with
  | _ => ("", "", "", false)
def tyJ10 : Nat → FieldType := fun k => match k with
  | _ => .int
abbrev wsJ100 : List Cond := u_ws RJ10 TJ10 0
theorem nmJ10 : ∀ a, a < 0 → ∀ b, b < 0 → a ≠ b → (TJ10 a).2.1 ≠ (TJ10 b).2.1 := by decide +kernel
theorem tyJ10_ok : ∀ k, k < 0 → parseFieldDescriptor (TJ10 k).2.2.1 = some (tyJ10 k) := by decide +kernel
def RJ7 : String := "java/util/Arrays"
def TJ7 : u_T := fun k => match k with
  | _ => ("", "", "", false)
def tyJ7 : Nat → FieldType := fun k => match k with
  | _ => .int
abbrev wsJ70 : List Cond := u_ws RJ7 TJ7 0
theorem nmJ7 : ∀ a, a < 0 → ∀ b, b < 0 → a ≠ b → (TJ7 a).2.1 ≠ (TJ7 b).2.1 := by decide +kernel
theorem tyJ7_ok : ∀ k, k < 0 → parseFieldDescriptor (TJ7 k).2.2.1 = some (tyJ7 k) := by decide +kernel
abbrev cJ7_fill_53178 : ByteArray := prog_11_method_103_code
def yJ7_fill_53178 : MethodName := ⟨RJ7, "fill", "([II)V"⟩
def RL : String := "CranePermitsLaw"
abbrev cL_law : ByteArray := code
def yL_law : MethodName := ⟨RL, "law", "([I)Z"⟩
def wsX0_mark : List Cond := .code yX0_mark cX0_mark 4 none :: ([.fieldLink RX0 9 "CranePermits$Crane" "eighths" "[J"] ++ wsX00)
def wsX0_markOwnCell : List Cond := .code yX0_markOwnCell cX0_markOwnCell 3 none :: ([.methodLink RX0 42 yX0_mark, .instanceMethod yX0_mark, .selects RX0 yX0_mark yX0_mark, .initialized RX0, .code yX0_mark cX0_mark 4 none, .fieldLink RX0 9 "CranePermits$Crane" "eighths" "[J"] ++ wsX00)
def wsX0_directionOf : List Cond := .code yX0_directionOf cX0_directionOf 2 (some .int) :: ([])
def wsX0_init : List Cond := .code yX0_init cX0_init 10 none :: ([.methodLink RX0 3 objectInit, .instanceMethod objectInit, .code objectInit ⟨#[0xb1]⟩ 1 none, .arrayClass .long, .fieldLink RX0 9 "CranePermits$Crane" "eighths" "[J", .fieldLink RX0 15 "CranePermits$Crane" "number" "I", .fieldLink RX0 19 "CranePermits$Crane" "x" "I", .fieldLink RX0 22 "CranePermits$Crane" "y" "I", .fieldLink RX0 25 "CranePermits$Crane" "reach" "I", .fieldLink RX0 28 "CranePermits$Crane" "height" "I", .fieldLink RX0 31 "CranePermits$Crane" "street" "I", .methodLink RX0 34 yX0_markOwnCell, .instanceMethod yX0_markOwnCell, .selects RX0 yX0_markOwnCell yX0_markOwnCell, .initialized RX0, .code yX0_markOwnCell cX0_markOwnCell 3 none, .methodLink RX0 42 yX0_mark, .instanceMethod yX0_mark, .selects RX0 yX0_mark yX0_mark, .code yX0_mark cX0_mark 4 none, .methodLink RX0 38 yX0_directionOf, .static yX0_directionOf, .code yX0_directionOf cX0_directionOf 2 (some .int)] ++ wsX00)
def wsX0_airOf : List Cond := .code yX0_airOf cX0_airOf 8 (some .long) :: ([.fieldLink RX0 9 "CranePermits$Crane" "eighths" "[J"] ++ wsX00)
def wsX1_init : List Cond := .code yX1_init cX1_init 6 none :: ([.methodLink RX1 1 objectInit, .instanceMethod objectInit, .code objectInit ⟨#[0xb1]⟩ 1 none, .fieldLink RX1 7 "CranePermits$Permit" "number" "I", .fieldLink RX1 13 "CranePermits$Permit" "crane" "LCranePermits$Crane;", .fieldLink RX1 17 "CranePermits$Permit" "night" "I", .fieldLink RX1 20 "CranePermits$Permit" "hours" "I", .fieldLink RX1 23 "CranePermits$Permit" "first" "I", .fieldLink RX1 26 "CranePermits$Permit" "last" "I", .fieldLink RX1 29 "CranePermits$Permit" "swing" "I"] ++ wsX10)
def wsX1_isFor : List Cond := .code yX1_isFor cX1_isFor 2 (some .boolean) :: ([.fieldLink RX1 13 "CranePermits$Permit" "crane" "LCranePermits$Crane;", .fieldLink RX1 32 "CranePermits$Crane" "number" "I"] ++ wsX10 ++ wsX00)
def wsX1_isOf : List Cond := .code yX1_isOf cX1_isOf 3 (some .boolean) :: ([.fieldLink RX1 13 "CranePermits$Permit" "crane" "LCranePermits$Crane;", .fieldLink RX1 35 "CranePermits$Crane" "street" "I", .fieldLink RX1 17 "CranePermits$Permit" "night" "I"] ++ wsX10 ++ wsX00)
def wsX1_meets : List Cond := .code yX1_meets cX1_meets 5 (some .boolean) :: ([.fieldLink RX1 26 "CranePermits$Permit" "last" "I", .fieldLink RX1 23 "CranePermits$Permit" "first" "I", .fieldLink RX1 17 "CranePermits$Permit" "night" "I"] ++ wsX10)
def wsX1_isAheadOf : List Cond := .code yX1_isAheadOf cX1_isAheadOf 2 (some .boolean) :: ([.fieldLink RX1 17 "CranePermits$Permit" "night" "I", .fieldLink RX1 23 "CranePermits$Permit" "first" "I", .fieldLink RX1 7 "CranePermits$Permit" "number" "I"] ++ wsX10)
def wsJ7_fill_53178 : List Cond := .code yJ7_fill_53178 cJ7_fill_53178 4 none :: ([])
def wsX2_init : List Cond := .code yX2_init cX2_init 1 none :: ([.methodLink RX2 3 objectInit, .instanceMethod objectInit, .code objectInit ⟨#[0xb1]⟩ 1 none, .classLink RX2 9 RX0, .fieldLink RX2 11 "CranePermits$Site" "cranes" "[LCranePermits$Crane;", .fieldLink RX2 17 "CranePermits$Site" "craneCount" "I", .arrayClass .int, .fieldLink RX2 21 "CranePermits$Site" "noises" "[I", .fieldLink RX2 25 "CranePermits$Site" "settings" "[I", .fieldLink RX2 28 "CranePermits$Site" "winds" "[I", .fieldLink RX2 31 "CranePermits$Site" "allowances" "[I", .fieldLink RX2 34 "CranePermits$Site" "received" "[I", .fieldLink RX2 37 "CranePermits$Site" "given" "[I", .classLink RX2 40 RX1, .fieldLink RX2 42 "CranePermits$Site" "permits" "[LCranePermits$Permit;", .fieldLink RX2 46 "CranePermits$Site" "permitCount" "I", .fieldLink RX2 49 "CranePermits$Site" "states" "[I", .fieldLink RX2 52 "CranePermits$Site" "valid" "[LCranePermits$Permit;", .fieldLink RX2 55 "CranePermits$Site" "validCount" "I", .methodLink RX2 58 yJ7_fill_53178, .static yJ7_fill_53178, .initialized RJ7, .code yJ7_fill_53178 cJ7_fill_53178 4 none] ++ wsX20)
def wsX2_copyFrom : List Cond := .code yX2_copyFrom cX2_copyFrom 2 none :: ([.fieldLink RX2 11 "CranePermits$Site" "cranes" "[LCranePermits$Crane;", .methodLink RX2 64 arraycopyName, .native arraycopyName, .static arraycopyName, .initialized "java/lang/System", .fieldLink RX2 17 "CranePermits$Site" "craneCount" "I", .fieldLink RX2 21 "CranePermits$Site" "noises" "[I", .fieldLink RX2 25 "CranePermits$Site" "settings" "[I", .fieldLink RX2 28 "CranePermits$Site" "winds" "[I", .fieldLink RX2 31 "CranePermits$Site" "allowances" "[I", .fieldLink RX2 34 "CranePermits$Site" "received" "[I", .fieldLink RX2 37 "CranePermits$Site" "given" "[I", .fieldLink RX2 42 "CranePermits$Site" "permits" "[LCranePermits$Permit;", .fieldLink RX2 46 "CranePermits$Site" "permitCount" "I", .fieldLink RX2 49 "CranePermits$Site" "states" "[I", .fieldLink RX2 52 "CranePermits$Site" "valid" "[LCranePermits$Permit;", .fieldLink RX2 55 "CranePermits$Site" "validCount" "I"] ++ wsX20)
def wsX2_craneAt : List Cond := .code yX2_craneAt cX2_craneAt 3 (some (.object "CranePermits$Crane")) :: ([.fieldLink RX2 17 "CranePermits$Site" "craneCount" "I", .fieldLink RX2 11 "CranePermits$Site" "cranes" "[LCranePermits$Crane;"] ++ wsX20)
def wsX2_permitAt : List Cond := .code yX2_permitAt cX2_permitAt 3 (some (.object "CranePermits$Permit")) :: ([.fieldLink RX2 46 "CranePermits$Site" "permitCount" "I", .fieldLink RX2 42 "CranePermits$Site" "permits" "[LCranePermits$Permit;"] ++ wsX20)
def wsX2_validAt : List Cond := .code yX2_validAt cX2_validAt 3 (some (.object "CranePermits$Permit")) :: ([.fieldLink RX2 55 "CranePermits$Site" "validCount" "I", .fieldLink RX2 52 "CranePermits$Site" "valid" "[LCranePermits$Permit;"] ++ wsX20)
def wsX2_hasCraneIn : List Cond := .code yX2_hasCraneIn cX2_hasCraneIn 5 (some .boolean) :: ([.fieldLink RX2 17 "CranePermits$Site" "craneCount" "I", .fieldLink RX2 74 "CranePermits$Crane" "x" "I", .fieldLink RX2 77 "CranePermits$Crane" "y" "I", .methodLink RX2 70 yX2_craneAt, .instanceMethod yX2_craneAt, .selects RX2 yX2_craneAt yX2_craneAt, .initialized RX2, .code yX2_craneAt cX2_craneAt 3 (some (.object "CranePermits$Crane")), .fieldLink RX2 11 "CranePermits$Site" "cranes" "[LCranePermits$Crane;"] ++ wsX20 ++ wsX00)
def wsX4_put : List Cond := .code yX4_put cX4_put 3 none :: ([])
def wsX2_addCrane : List Cond := .code yX2_addCrane cX2_addCrane 3 none :: ([.fieldLink RX2 17 "CranePermits$Site" "craneCount" "I", .fieldLink RX2 11 "CranePermits$Site" "cranes" "[LCranePermits$Crane;", .fieldLink RX2 21 "CranePermits$Site" "noises" "[I", .static yX4_put, .initialized RX4, .code yX4_put cX4_put 3 none] ++ wsX20)
def wsX4_at : List Cond := .code yX4_at cX4_at 2 (some .int) :: ([])
def wsX2_stopWindOf : List Cond := .code yX2_stopWindOf cX2_stopWindOf 2 (some .int) :: ([.fieldLink RX2 25 "CranePermits$Site" "settings" "[I", .fieldLink RX2 88 "CranePermits$Crane" "height" "I", .static yX4_at, .initialized RX4, .code yX4_at cX4_at 2 (some .int)] ++ wsX20 ++ wsX00)
def wsX2_mustStop : List Cond := .code yX2_mustStop cX2_mustStop 3 (some .boolean) :: ([.fieldLink RX2 28 "CranePermits$Site" "winds" "[I", .static yX4_at, .initialized RX4, .code yX4_at cX4_at 2 (some .int), .methodLink RX2 91 yX2_stopWindOf, .instanceMethod yX2_stopWindOf, .selects RX2 yX2_stopWindOf yX2_stopWindOf, .initialized RX2, .code yX2_stopWindOf cX2_stopWindOf 2 (some .int), .fieldLink RX2 25 "CranePermits$Site" "settings" "[I", .fieldLink RX2 88 "CranePermits$Crane" "height" "I"] ++ wsX20 ++ wsX00)
def wsX4_streetNight : List Cond := .code yX4_streetNight cX4_streetNight 2 (some .int) :: ([])
def wsX2_allowanceOf : List Cond := .code yX2_allowanceOf cX2_allowanceOf 4 (some .int) :: ([.fieldLink RX2 31 "CranePermits$Site" "allowances" "[I", .fieldLink RX2 25 "CranePermits$Site" "settings" "[I", .static yX4_streetNight, .initialized RX4, .code yX4_streetNight cX4_streetNight 2 (some .int), .static yX4_at, .code yX4_at cX4_at 2 (some .int)] ++ wsX20)
def wsX2_creditsOf : List Cond := .code yX2_creditsOf cX2_creditsOf 4 (some .int) :: ([.fieldLink RX2 34 "CranePermits$Site" "received" "[I", .fieldLink RX2 37 "CranePermits$Site" "given" "[I", .static yX4_streetNight, .initialized RX4, .code yX4_streetNight cX4_streetNight 2 (some .int), .methodLink RX2 99 yX2_allowanceOf, .instanceMethod yX2_allowanceOf, .selects RX2 yX2_allowanceOf yX2_allowanceOf, .initialized RX2, .code yX2_allowanceOf cX2_allowanceOf 4 (some .int), .fieldLink RX2 31 "CranePermits$Site" "allowances" "[I", .fieldLink RX2 25 "CranePermits$Site" "settings" "[I", .static yX4_at, .code yX4_at cX4_at 2 (some .int)] ++ wsX20)
def wsX2_useOf : List Cond := .code yX2_useOf cX2_useOf 3 (some .int) :: ([.fieldLink RX2 21 "CranePermits$Site" "noises" "[I", .fieldLink RX2 102 "CranePermits$Crane" "number" "I", .static yX4_at, .initialized RX4, .code yX4_at cX4_at 2 (some .int)] ++ wsX20 ++ wsX00)
def wsX2_usedOf_r1 : List Cond := [Cond.fieldLink RX2 55 "CranePermits$Site" "validCount" "I", Cond.fieldLink RX2 113 "CranePermits$Permit" "crane" "LCranePermits$Crane;", Cond.fieldLink RX2 117 "CranePermits$Permit" "hours" "I", Cond.methodLink RX2 105 yX2_validAt, Cond.instanceMethod yX2_validAt, Cond.selects RX2 yX2_validAt yX2_validAt, Cond.initialized RX2, Cond.code yX2_validAt cX2_validAt 3 (some (.object "CranePermits$Permit")), Cond.fieldLink RX2 52 "CranePermits$Site" "valid" "[LCranePermits$Permit;", Cond.methodLink RX2 109 yX1_isOf, Cond.instanceMethod yX1_isOf, Cond.selects RX1 yX1_isOf yX1_isOf, Cond.initialized RX1, Cond.code yX1_isOf cX1_isOf 3 (some .boolean), Cond.fieldLink RX1 13 "CranePermits$Permit" "crane" "LCranePermits$Crane;", Cond.fieldLink RX1 35 "CranePermits$Crane" "street" "I", Cond.fieldLink RX1 17 "CranePermits$Permit" "night" "I", Cond.methodLink RX2 120 yX2_useOf, Cond.instanceMethod yX2_useOf, Cond.selects RX2 yX2_useOf yX2_useOf, Cond.code yX2_useOf cX2_useOf 3 (some .int), Cond.fieldLink RX2 21 "CranePermits$Site" "noises" "[I", Cond.fieldLink RX2 102 "CranePermits$Crane" "number" "I", Cond.static yX4_at]
def wsX2_usedOf_r2 : List Cond := [Cond.initialized RX4, Cond.code yX4_at cX4_at 2 (some .int)]
def wsX2_usedOf : List Cond := .code yX2_usedOf cX2_usedOf 6 (some .int) :: ((wsX2_usedOf_r1 ++ wsX2_usedOf_r2) ++ wsX20 ++ wsX10 ++ wsX00)
def wsX2_freeOf_r1 : List Cond := [Cond.methodLink RX2 124 yX2_creditsOf, Cond.instanceMethod yX2_creditsOf, Cond.selects RX2 yX2_creditsOf yX2_creditsOf, Cond.initialized RX2, Cond.code yX2_creditsOf cX2_creditsOf 4 (some .int), Cond.fieldLink RX2 34 "CranePermits$Site" "received" "[I", Cond.fieldLink RX2 37 "CranePermits$Site" "given" "[I", Cond.static yX4_streetNight, Cond.initialized RX4, Cond.code yX4_streetNight cX4_streetNight 2 (some .int), Cond.methodLink RX2 99 yX2_allowanceOf, Cond.instanceMethod yX2_allowanceOf, Cond.selects RX2 yX2_allowanceOf yX2_allowanceOf, Cond.code yX2_allowanceOf cX2_allowanceOf 4 (some .int), Cond.fieldLink RX2 31 "CranePermits$Site" "allowances" "[I", Cond.fieldLink RX2 25 "CranePermits$Site" "settings" "[I", Cond.static yX4_at, Cond.code yX4_at cX4_at 2 (some .int), Cond.methodLink RX2 127 yX2_usedOf, Cond.instanceMethod yX2_usedOf, Cond.selects RX2 yX2_usedOf yX2_usedOf, Cond.code yX2_usedOf cX2_usedOf 6 (some .int), Cond.fieldLink RX2 55 "CranePermits$Site" "validCount" "I", Cond.fieldLink RX2 113 "CranePermits$Permit" "crane" "LCranePermits$Crane;"]
def wsX2_freeOf_r2 : List Cond := [Cond.fieldLink RX2 117 "CranePermits$Permit" "hours" "I", Cond.methodLink RX2 105 yX2_validAt, Cond.instanceMethod yX2_validAt, Cond.selects RX2 yX2_validAt yX2_validAt, Cond.code yX2_validAt cX2_validAt 3 (some (.object "CranePermits$Permit")), Cond.fieldLink RX2 52 "CranePermits$Site" "valid" "[LCranePermits$Permit;", Cond.methodLink RX2 109 yX1_isOf, Cond.instanceMethod yX1_isOf, Cond.selects RX1 yX1_isOf yX1_isOf, Cond.initialized RX1, Cond.code yX1_isOf cX1_isOf 3 (some .boolean), Cond.fieldLink RX1 13 "CranePermits$Permit" "crane" "LCranePermits$Crane;", Cond.fieldLink RX1 35 "CranePermits$Crane" "street" "I", Cond.fieldLink RX1 17 "CranePermits$Permit" "night" "I", Cond.methodLink RX2 120 yX2_useOf, Cond.instanceMethod yX2_useOf, Cond.selects RX2 yX2_useOf yX2_useOf, Cond.code yX2_useOf cX2_useOf 3 (some .int), Cond.fieldLink RX2 21 "CranePermits$Site" "noises" "[I", Cond.fieldLink RX2 102 "CranePermits$Crane" "number" "I"]
def wsX2_freeOf : List Cond := .code yX2_freeOf cX2_freeOf 3 (some .int) :: ((wsX2_freeOf_r1 ++ wsX2_freeOf_r2) ++ wsX20 ++ wsX10 ++ wsX00)
def wsX2_usedByAll : List Cond := .code yX2_usedByAll cX2_usedByAll 4 (some .int) :: ([.fieldLink RX2 55 "CranePermits$Site" "validCount" "I", .fieldLink RX2 113 "CranePermits$Permit" "crane" "LCranePermits$Crane;", .fieldLink RX2 117 "CranePermits$Permit" "hours" "I", .methodLink RX2 105 yX2_validAt, .instanceMethod yX2_validAt, .selects RX2 yX2_validAt yX2_validAt, .initialized RX2, .code yX2_validAt cX2_validAt 3 (some (.object "CranePermits$Permit")), .fieldLink RX2 52 "CranePermits$Site" "valid" "[LCranePermits$Permit;", .methodLink RX2 120 yX2_useOf, .instanceMethod yX2_useOf, .selects RX2 yX2_useOf yX2_useOf, .code yX2_useOf cX2_useOf 3 (some .int), .fieldLink RX2 21 "CranePermits$Site" "noises" "[I", .fieldLink RX2 102 "CranePermits$Crane" "number" "I", .static yX4_at, .initialized RX4, .code yX4_at cX4_at 2 (some .int)] ++ wsX20 ++ wsX10 ++ wsX00)
def wsX2_validOfCrane : List Cond := .code yX2_validOfCrane cX2_validOfCrane 5 (some .int) :: ([.fieldLink RX2 55 "CranePermits$Site" "validCount" "I", .methodLink RX2 105 yX2_validAt, .instanceMethod yX2_validAt, .selects RX2 yX2_validAt yX2_validAt, .initialized RX2, .code yX2_validAt cX2_validAt 3 (some (.object "CranePermits$Permit")), .fieldLink RX2 52 "CranePermits$Site" "valid" "[LCranePermits$Permit;", .methodLink RX2 130 yX1_isFor, .instanceMethod yX1_isFor, .selects RX1 yX1_isFor yX1_isFor, .initialized RX1, .code yX1_isFor cX1_isFor 2 (some .boolean), .fieldLink RX1 13 "CranePermits$Permit" "crane" "LCranePermits$Crane;", .fieldLink RX1 32 "CranePermits$Crane" "number" "I"] ++ wsX20 ++ wsX10 ++ wsX00)
def wsX2_validOfStreet : List Cond := .code yX2_validOfStreet cX2_validOfStreet 6 (some .int) :: ([.fieldLink RX2 55 "CranePermits$Site" "validCount" "I", .methodLink RX2 105 yX2_validAt, .instanceMethod yX2_validAt, .selects RX2 yX2_validAt yX2_validAt, .initialized RX2, .code yX2_validAt cX2_validAt 3 (some (.object "CranePermits$Permit")), .fieldLink RX2 52 "CranePermits$Site" "valid" "[LCranePermits$Permit;", .methodLink RX2 109 yX1_isOf, .instanceMethod yX1_isOf, .selects RX1 yX1_isOf yX1_isOf, .initialized RX1, .code yX1_isOf cX1_isOf 3 (some .boolean), .fieldLink RX1 13 "CranePermits$Permit" "crane" "LCranePermits$Crane;", .fieldLink RX1 35 "CranePermits$Crane" "street" "I", .fieldLink RX1 17 "CranePermits$Permit" "night" "I"] ++ wsX20 ++ wsX10 ++ wsX00)
def wsX2_validAhead : List Cond := .code yX2_validAhead cX2_validAhead 5 (some .int) :: ([.fieldLink RX2 55 "CranePermits$Site" "validCount" "I", .methodLink RX2 105 yX2_validAt, .instanceMethod yX2_validAt, .selects RX2 yX2_validAt yX2_validAt, .initialized RX2, .code yX2_validAt cX2_validAt 3 (some (.object "CranePermits$Permit")), .fieldLink RX2 52 "CranePermits$Site" "valid" "[LCranePermits$Permit;", .methodLink RX2 134 yX1_isAheadOf, .instanceMethod yX1_isAheadOf, .selects RX1 yX1_isAheadOf yX1_isAheadOf, .initialized RX1, .code yX1_isAheadOf cX1_isAheadOf 2 (some .boolean), .fieldLink RX1 17 "CranePermits$Permit" "night" "I", .fieldLink RX1 23 "CranePermits$Permit" "first" "I", .fieldLink RX1 7 "CranePermits$Permit" "number" "I"] ++ wsX20 ++ wsX10)
def wsX2_permitsWith : List Cond := .code yX2_permitsWith cX2_permitsWith 4 (some .int) :: ([.fieldLink RX2 46 "CranePermits$Site" "permitCount" "I", .fieldLink RX2 49 "CranePermits$Site" "states" "[I", .static yX4_at, .initialized RX4, .code yX4_at cX4_at 2 (some .int)] ++ wsX20)
def wsX2_shareAir_r1 : List Cond := [Cond.fieldLink RX2 88 "CranePermits$Crane" "height" "I", Cond.fieldLink RX2 113 "CranePermits$Permit" "crane" "LCranePermits$Crane;", Cond.methodLink RX2 141 Lib.Math.abs.name, Cond.static Lib.Math.abs.name, Cond.initialized "java/lang/Math", Cond.code Lib.Math.abs.name Lib.Math.abs.code 1 (some .int), Cond.fieldLink RX2 25 "CranePermits$Site" "settings" "[I", Cond.fieldLink RX2 151 "CranePermits$Permit" "swing" "I", Cond.methodLink RX2 130 yX1_isFor, Cond.instanceMethod yX1_isFor, Cond.selects RX1 yX1_isFor yX1_isFor, Cond.initialized RX1, Cond.code yX1_isFor cX1_isFor 2 (some .boolean), Cond.fieldLink RX1 13 "CranePermits$Permit" "crane" "LCranePermits$Crane;", Cond.fieldLink RX1 32 "CranePermits$Crane" "number" "I", Cond.methodLink RX2 138 yX1_meets, Cond.instanceMethod yX1_meets, Cond.selects RX1 yX1_meets yX1_meets, Cond.code yX1_meets cX1_meets 5 (some .boolean), Cond.fieldLink RX1 26 "CranePermits$Permit" "last" "I", Cond.fieldLink RX1 23 "CranePermits$Permit" "first" "I", Cond.fieldLink RX1 17 "CranePermits$Permit" "night" "I", Cond.static yX4_at, Cond.initialized RX4]
def wsX2_shareAir_r2 : List Cond := [Cond.code yX4_at cX4_at 2 (some .int), Cond.methodLink RX2 147 yX0_airOf, Cond.instanceMethod yX0_airOf, Cond.selects RX0 yX0_airOf yX0_airOf, Cond.initialized RX0, Cond.code yX0_airOf cX0_airOf 8 (some .long), Cond.fieldLink RX0 9 "CranePermits$Crane" "eighths" "[J"]
def wsX2_shareAir : List Cond := .code yX2_shareAir cX2_shareAir 8 (some .boolean) :: ((wsX2_shareAir_r1 ++ wsX2_shareAir_r2) ++ wsX00 ++ wsX10 ++ wsX20)
def wsX2_lowestSharing_r1 : List Cond := [Cond.fieldLink RX2 55 "CranePermits$Site" "validCount" "I", Cond.fieldLink RX2 158 "CranePermits$Permit" "number" "I", Cond.methodLink RX2 105 yX2_validAt, Cond.instanceMethod yX2_validAt, Cond.selects RX2 yX2_validAt yX2_validAt, Cond.initialized RX2, Cond.code yX2_validAt cX2_validAt 3 (some (.object "CranePermits$Permit")), Cond.fieldLink RX2 52 "CranePermits$Site" "valid" "[LCranePermits$Permit;", Cond.methodLink RX2 154 yX2_shareAir, Cond.instanceMethod yX2_shareAir, Cond.selects RX2 yX2_shareAir yX2_shareAir, Cond.code yX2_shareAir cX2_shareAir 8 (some .boolean), Cond.fieldLink RX2 88 "CranePermits$Crane" "height" "I", Cond.fieldLink RX2 113 "CranePermits$Permit" "crane" "LCranePermits$Crane;", Cond.methodLink RX2 141 Lib.Math.abs.name, Cond.static Lib.Math.abs.name, Cond.initialized "java/lang/Math", Cond.code Lib.Math.abs.name Lib.Math.abs.code 1 (some .int), Cond.fieldLink RX2 25 "CranePermits$Site" "settings" "[I", Cond.fieldLink RX2 151 "CranePermits$Permit" "swing" "I", Cond.methodLink RX2 130 yX1_isFor, Cond.instanceMethod yX1_isFor, Cond.selects RX1 yX1_isFor yX1_isFor, Cond.initialized RX1]
def wsX2_lowestSharing_r2 : List Cond := [Cond.code yX1_isFor cX1_isFor 2 (some .boolean), Cond.fieldLink RX1 13 "CranePermits$Permit" "crane" "LCranePermits$Crane;", Cond.fieldLink RX1 32 "CranePermits$Crane" "number" "I", Cond.methodLink RX2 138 yX1_meets, Cond.instanceMethod yX1_meets, Cond.selects RX1 yX1_meets yX1_meets, Cond.code yX1_meets cX1_meets 5 (some .boolean), Cond.fieldLink RX1 26 "CranePermits$Permit" "last" "I", Cond.fieldLink RX1 23 "CranePermits$Permit" "first" "I", Cond.fieldLink RX1 17 "CranePermits$Permit" "night" "I", Cond.static yX4_at, Cond.initialized RX4, Cond.code yX4_at cX4_at 2 (some .int), Cond.methodLink RX2 147 yX0_airOf, Cond.instanceMethod yX0_airOf, Cond.selects RX0 yX0_airOf yX0_airOf, Cond.initialized RX0, Cond.code yX0_airOf cX0_airOf 8 (some .long), Cond.fieldLink RX0 9 "CranePermits$Crane" "eighths" "[J"]
def wsX2_lowestSharing : List Cond := .code yX2_lowestSharing cX2_lowestSharing 7 (some .int) :: ((wsX2_lowestSharing_r1 ++ wsX2_lowestSharing_r2) ++ wsX20 ++ wsX10 ++ wsX00)
def wsX2_sharingPairs_r1 : List Cond := [Cond.fieldLink RX2 55 "CranePermits$Site" "validCount" "I", Cond.fieldLink RX2 113 "CranePermits$Permit" "crane" "LCranePermits$Crane;", Cond.fieldLink RX2 159 "CranePermits$Permit" "night" "I", Cond.fieldLink RX2 117 "CranePermits$Permit" "hours" "I", Cond.fieldLink RX2 151 "CranePermits$Permit" "swing" "I", Cond.methodLink RX2 105 yX2_validAt, Cond.instanceMethod yX2_validAt, Cond.selects RX2 yX2_validAt yX2_validAt, Cond.initialized RX2, Cond.code yX2_validAt cX2_validAt 3 (some (.object "CranePermits$Permit")), Cond.fieldLink RX2 52 "CranePermits$Site" "valid" "[LCranePermits$Permit;", Cond.methodLink RX2 154 yX2_shareAir, Cond.instanceMethod yX2_shareAir, Cond.selects RX2 yX2_shareAir yX2_shareAir, Cond.code yX2_shareAir cX2_shareAir 8 (some .boolean), Cond.fieldLink RX2 88 "CranePermits$Crane" "height" "I", Cond.methodLink RX2 141 Lib.Math.abs.name, Cond.static Lib.Math.abs.name, Cond.initialized "java/lang/Math", Cond.code Lib.Math.abs.name Lib.Math.abs.code 1 (some .int), Cond.fieldLink RX2 25 "CranePermits$Site" "settings" "[I", Cond.methodLink RX2 130 yX1_isFor, Cond.instanceMethod yX1_isFor, Cond.selects RX1 yX1_isFor yX1_isFor]
def wsX2_sharingPairs_r2 : List Cond := [Cond.initialized RX1, Cond.code yX1_isFor cX1_isFor 2 (some .boolean), Cond.fieldLink RX1 13 "CranePermits$Permit" "crane" "LCranePermits$Crane;", Cond.fieldLink RX1 32 "CranePermits$Crane" "number" "I", Cond.methodLink RX2 138 yX1_meets, Cond.instanceMethod yX1_meets, Cond.selects RX1 yX1_meets yX1_meets, Cond.code yX1_meets cX1_meets 5 (some .boolean), Cond.fieldLink RX1 26 "CranePermits$Permit" "last" "I", Cond.fieldLink RX1 23 "CranePermits$Permit" "first" "I", Cond.fieldLink RX1 17 "CranePermits$Permit" "night" "I", Cond.static yX4_at, Cond.initialized RX4, Cond.code yX4_at cX4_at 2 (some .int), Cond.methodLink RX2 147 yX0_airOf, Cond.instanceMethod yX0_airOf, Cond.selects RX0 yX0_airOf yX0_airOf, Cond.initialized RX0, Cond.code yX0_airOf cX0_airOf 8 (some .long), Cond.fieldLink RX0 9 "CranePermits$Crane" "eighths" "[J"]
def wsX2_sharingPairs : List Cond := .code yX2_sharingPairs cX2_sharingPairs 6 (some .int) :: ((wsX2_sharingPairs_r1 ++ wsX2_sharingPairs_r2) ++ wsX20 ++ wsX10 ++ wsX00)
def wsX2_isBusy : List Cond := .code yX2_isBusy cX2_isBusy 6 (some .boolean) :: ([.fieldLink RX2 55 "CranePermits$Site" "validCount" "I", .methodLink RX2 105 yX2_validAt, .instanceMethod yX2_validAt, .selects RX2 yX2_validAt yX2_validAt, .initialized RX2, .code yX2_validAt cX2_validAt 3 (some (.object "CranePermits$Permit")), .fieldLink RX2 52 "CranePermits$Site" "valid" "[LCranePermits$Permit;", .methodLink RX2 130 yX1_isFor, .instanceMethod yX1_isFor, .selects RX1 yX1_isFor yX1_isFor, .initialized RX1, .code yX1_isFor cX1_isFor 2 (some .boolean), .fieldLink RX1 13 "CranePermits$Permit" "crane" "LCranePermits$Crane;", .fieldLink RX1 32 "CranePermits$Crane" "number" "I", .methodLink RX2 138 yX1_meets, .instanceMethod yX1_meets, .selects RX1 yX1_meets yX1_meets, .code yX1_meets cX1_meets 5 (some .boolean), .fieldLink RX1 26 "CranePermits$Permit" "last" "I", .fieldLink RX1 23 "CranePermits$Permit" "first" "I", .fieldLink RX1 17 "CranePermits$Permit" "night" "I"] ++ wsX20 ++ wsX10 ++ wsX00)
def wsX2_refusalOf_r1 : List Cond := [Cond.fieldLink RX2 174 "CranePermits$Crane" "street" "I", Cond.methodLink RX2 162 yX2_isBusy, Cond.instanceMethod yX2_isBusy, Cond.selects RX2 yX2_isBusy yX2_isBusy, Cond.initialized RX2, Cond.code yX2_isBusy cX2_isBusy 6 (some .boolean), Cond.fieldLink RX2 55 "CranePermits$Site" "validCount" "I", Cond.methodLink RX2 105 yX2_validAt, Cond.instanceMethod yX2_validAt, Cond.selects RX2 yX2_validAt yX2_validAt, Cond.code yX2_validAt cX2_validAt 3 (some (.object "CranePermits$Permit")), Cond.fieldLink RX2 52 "CranePermits$Site" "valid" "[LCranePermits$Permit;", Cond.methodLink RX2 130 yX1_isFor, Cond.instanceMethod yX1_isFor, Cond.selects RX1 yX1_isFor yX1_isFor, Cond.initialized RX1, Cond.code yX1_isFor cX1_isFor 2 (some .boolean), Cond.fieldLink RX1 13 "CranePermits$Permit" "crane" "LCranePermits$Crane;", Cond.fieldLink RX1 32 "CranePermits$Crane" "number" "I", Cond.methodLink RX2 138 yX1_meets, Cond.instanceMethod yX1_meets, Cond.selects RX1 yX1_meets yX1_meets, Cond.code yX1_meets cX1_meets 5 (some .boolean), Cond.fieldLink RX1 26 "CranePermits$Permit" "last" "I"]
def wsX2_refusalOf_r2 : List Cond := [Cond.fieldLink RX1 23 "CranePermits$Permit" "first" "I", Cond.fieldLink RX1 17 "CranePermits$Permit" "night" "I", Cond.methodLink RX2 166 yX2_mustStop, Cond.instanceMethod yX2_mustStop, Cond.selects RX2 yX2_mustStop yX2_mustStop, Cond.code yX2_mustStop cX2_mustStop 3 (some .boolean), Cond.fieldLink RX2 28 "CranePermits$Site" "winds" "[I", Cond.static yX4_at, Cond.initialized RX4, Cond.code yX4_at cX4_at 2 (some .int), Cond.methodLink RX2 91 yX2_stopWindOf, Cond.instanceMethod yX2_stopWindOf, Cond.selects RX2 yX2_stopWindOf yX2_stopWindOf, Cond.code yX2_stopWindOf cX2_stopWindOf 2 (some .int), Cond.fieldLink RX2 25 "CranePermits$Site" "settings" "[I", Cond.fieldLink RX2 88 "CranePermits$Crane" "height" "I", Cond.methodLink RX2 170 yX2_lowestSharing, Cond.instanceMethod yX2_lowestSharing, Cond.selects RX2 yX2_lowestSharing yX2_lowestSharing, Cond.code yX2_lowestSharing cX2_lowestSharing 7 (some .int), Cond.fieldLink RX2 158 "CranePermits$Permit" "number" "I", Cond.methodLink RX2 154 yX2_shareAir, Cond.instanceMethod yX2_shareAir, Cond.selects RX2 yX2_shareAir yX2_shareAir]
def wsX2_refusalOf_r3 : List Cond := [Cond.code yX2_shareAir cX2_shareAir 8 (some .boolean), Cond.fieldLink RX2 113 "CranePermits$Permit" "crane" "LCranePermits$Crane;", Cond.methodLink RX2 141 Lib.Math.abs.name, Cond.static Lib.Math.abs.name, Cond.initialized "java/lang/Math", Cond.code Lib.Math.abs.name Lib.Math.abs.code 1 (some .int), Cond.fieldLink RX2 151 "CranePermits$Permit" "swing" "I", Cond.methodLink RX2 147 yX0_airOf, Cond.instanceMethod yX0_airOf, Cond.selects RX0 yX0_airOf yX0_airOf, Cond.initialized RX0, Cond.code yX0_airOf cX0_airOf 8 (some .long), Cond.fieldLink RX0 9 "CranePermits$Crane" "eighths" "[J", Cond.methodLink RX2 127 yX2_usedOf, Cond.instanceMethod yX2_usedOf, Cond.selects RX2 yX2_usedOf yX2_usedOf, Cond.code yX2_usedOf cX2_usedOf 6 (some .int), Cond.fieldLink RX2 117 "CranePermits$Permit" "hours" "I", Cond.methodLink RX2 109 yX1_isOf, Cond.instanceMethod yX1_isOf, Cond.selects RX1 yX1_isOf yX1_isOf, Cond.code yX1_isOf cX1_isOf 3 (some .boolean), Cond.fieldLink RX1 35 "CranePermits$Crane" "street" "I", Cond.methodLink RX2 120 yX2_useOf]
def wsX2_refusalOf_r4 : List Cond := [Cond.instanceMethod yX2_useOf, Cond.selects RX2 yX2_useOf yX2_useOf, Cond.code yX2_useOf cX2_useOf 3 (some .int), Cond.fieldLink RX2 21 "CranePermits$Site" "noises" "[I", Cond.fieldLink RX2 102 "CranePermits$Crane" "number" "I", Cond.methodLink RX2 124 yX2_creditsOf, Cond.instanceMethod yX2_creditsOf, Cond.selects RX2 yX2_creditsOf yX2_creditsOf, Cond.code yX2_creditsOf cX2_creditsOf 4 (some .int), Cond.fieldLink RX2 34 "CranePermits$Site" "received" "[I", Cond.fieldLink RX2 37 "CranePermits$Site" "given" "[I", Cond.static yX4_streetNight, Cond.code yX4_streetNight cX4_streetNight 2 (some .int), Cond.methodLink RX2 99 yX2_allowanceOf, Cond.instanceMethod yX2_allowanceOf, Cond.selects RX2 yX2_allowanceOf yX2_allowanceOf, Cond.code yX2_allowanceOf cX2_allowanceOf 4 (some .int), Cond.fieldLink RX2 31 "CranePermits$Site" "allowances" "[I"]
def wsX2_refusalOf : List Cond := .code yX2_refusalOf cX2_refusalOf 6 (some .int) :: ((wsX2_refusalOf_r1 ++ (wsX2_refusalOf_r2 ++ (wsX2_refusalOf_r3 ++ wsX2_refusalOf_r4))) ++ wsX00 ++ wsX20 ++ wsX10)
def wsX2_hasRoom : List Cond := .code yX2_hasRoom cX2_hasRoom 1 (some .boolean) :: ([.fieldLink RX2 55 "CranePermits$Site" "validCount" "I", .fieldLink RX2 46 "CranePermits$Site" "permitCount" "I"] ++ wsX20)
def wsX2_grant : List Cond := .code yX2_grant cX2_grant 2 none :: ([.fieldLink RX2 55 "CranePermits$Site" "validCount" "I", .fieldLink RX2 52 "CranePermits$Site" "valid" "[LCranePermits$Permit;", .fieldLink RX2 46 "CranePermits$Site" "permitCount" "I", .fieldLink RX2 42 "CranePermits$Site" "permits" "[LCranePermits$Permit;", .fieldLink RX2 49 "CranePermits$Site" "states" "[I", .static yX4_put, .initialized RX4, .code yX4_put cX4_put 3 none] ++ wsX20)
def wsX2_end : List Cond := .code yX2_end cX2_end 6 none :: ([.fieldLink RX2 49 "CranePermits$Site" "states" "[I", .fieldLink RX2 158 "CranePermits$Permit" "number" "I", .fieldLink RX2 55 "CranePermits$Site" "validCount" "I", .fieldLink RX2 52 "CranePermits$Site" "valid" "[LCranePermits$Permit;", .static yX4_put, .initialized RX4, .code yX4_put cX4_put 3 none] ++ wsX20 ++ wsX10)
def wsX2_withdrawFailing_r1 : List Cond := [Cond.fieldLink RX2 55 "CranePermits$Site" "validCount" "I", Cond.fieldLink RX2 113 "CranePermits$Permit" "crane" "LCranePermits$Crane;", Cond.fieldLink RX2 159 "CranePermits$Permit" "night" "I", Cond.fieldLink RX2 174 "CranePermits$Crane" "street" "I", Cond.methodLink RX2 105 yX2_validAt, Cond.instanceMethod yX2_validAt, Cond.selects RX2 yX2_validAt yX2_validAt, Cond.initialized RX2, Cond.code yX2_validAt cX2_validAt 3 (some (.object "CranePermits$Permit")), Cond.fieldLink RX2 52 "CranePermits$Site" "valid" "[LCranePermits$Permit;", Cond.methodLink RX2 166 yX2_mustStop, Cond.instanceMethod yX2_mustStop, Cond.selects RX2 yX2_mustStop yX2_mustStop, Cond.code yX2_mustStop cX2_mustStop 3 (some .boolean), Cond.fieldLink RX2 28 "CranePermits$Site" "winds" "[I", Cond.static yX4_at, Cond.initialized RX4, Cond.code yX4_at cX4_at 2 (some .int), Cond.methodLink RX2 91 yX2_stopWindOf, Cond.instanceMethod yX2_stopWindOf, Cond.selects RX2 yX2_stopWindOf yX2_stopWindOf, Cond.code yX2_stopWindOf cX2_stopWindOf 2 (some .int), Cond.fieldLink RX2 25 "CranePermits$Site" "settings" "[I", Cond.fieldLink RX2 88 "CranePermits$Crane" "height" "I"]
def wsX2_withdrawFailing_r2 : List Cond := [Cond.methodLink RX2 177 yX2_freeOf, Cond.instanceMethod yX2_freeOf, Cond.selects RX2 yX2_freeOf yX2_freeOf, Cond.code yX2_freeOf cX2_freeOf 3 (some .int), Cond.methodLink RX2 124 yX2_creditsOf, Cond.instanceMethod yX2_creditsOf, Cond.selects RX2 yX2_creditsOf yX2_creditsOf, Cond.code yX2_creditsOf cX2_creditsOf 4 (some .int), Cond.fieldLink RX2 34 "CranePermits$Site" "received" "[I", Cond.fieldLink RX2 37 "CranePermits$Site" "given" "[I", Cond.static yX4_streetNight, Cond.code yX4_streetNight cX4_streetNight 2 (some .int), Cond.methodLink RX2 99 yX2_allowanceOf, Cond.instanceMethod yX2_allowanceOf, Cond.selects RX2 yX2_allowanceOf yX2_allowanceOf, Cond.code yX2_allowanceOf cX2_allowanceOf 4 (some .int), Cond.fieldLink RX2 31 "CranePermits$Site" "allowances" "[I", Cond.methodLink RX2 127 yX2_usedOf, Cond.instanceMethod yX2_usedOf, Cond.selects RX2 yX2_usedOf yX2_usedOf, Cond.code yX2_usedOf cX2_usedOf 6 (some .int), Cond.fieldLink RX2 117 "CranePermits$Permit" "hours" "I", Cond.methodLink RX2 109 yX1_isOf, Cond.instanceMethod yX1_isOf]
def wsX2_withdrawFailing_r3 : List Cond := [Cond.selects RX1 yX1_isOf yX1_isOf, Cond.initialized RX1, Cond.code yX1_isOf cX1_isOf 3 (some .boolean), Cond.fieldLink RX1 13 "CranePermits$Permit" "crane" "LCranePermits$Crane;", Cond.fieldLink RX1 35 "CranePermits$Crane" "street" "I", Cond.fieldLink RX1 17 "CranePermits$Permit" "night" "I", Cond.methodLink RX2 120 yX2_useOf, Cond.instanceMethod yX2_useOf, Cond.selects RX2 yX2_useOf yX2_useOf, Cond.code yX2_useOf cX2_useOf 3 (some .int), Cond.fieldLink RX2 21 "CranePermits$Site" "noises" "[I", Cond.fieldLink RX2 102 "CranePermits$Crane" "number" "I", Cond.methodLink RX2 180 yX2_end, Cond.instanceMethod yX2_end, Cond.selects RX2 yX2_end yX2_end, Cond.code yX2_end cX2_end 6 none, Cond.fieldLink RX2 49 "CranePermits$Site" "states" "[I", Cond.fieldLink RX2 158 "CranePermits$Permit" "number" "I", Cond.static yX4_put, Cond.code yX4_put cX4_put 3 none]
def wsX2_withdrawFailing : List Cond := .code yX2_withdrawFailing cX2_withdrawFailing 4 (some .int) :: ((wsX2_withdrawFailing_r1 ++ (wsX2_withdrawFailing_r2 ++ wsX2_withdrawFailing_r3)) ++ wsX20 ++ wsX10 ++ wsX00)
def wsX3_init : List Cond := .code yX3_init cX3_init 1 none :: ([.methodLink RX3 3 objectInit, .instanceMethod objectInit, .code objectInit ⟨#[0xb1]⟩ 1 none, .arrayClass .char, .fieldLink RX3 9 "CranePermits$Text" "signs" "[C", .fieldLink RX3 15 "CranePermits$Text" "length" "I", .fieldLink RX3 19 "CranePermits$Text" "start" "I", .fieldLink RX3 22 "CranePermits$Text" "next" "I", .fieldLink RX3 25 "CranePermits$Text" "formed" "Z", .fieldLink RX3 29 "CranePermits$Text" "crane" "I", .fieldLink RX3 32 "CranePermits$Text" "night" "I", .fieldLink RX3 35 "CranePermits$Text" "hours" "I", .fieldLink RX3 38 "CranePermits$Text" "swing" "I"] ++ wsX30)
def wsX3_append : List Cond := .code yX3_append cX3_append 2 none :: ([.fieldLink RX3 15 "CranePermits$Text" "length" "I", .fieldLink RX3 9 "CranePermits$Text" "signs" "[C"] ++ wsX30)
def wsX3_signAt : List Cond := .code yX3_signAt cX3_signAt 2 (some .int) :: ([.fieldLink RX3 15 "CranePermits$Text" "length" "I", .fieldLink RX3 9 "CranePermits$Text" "signs" "[C"] ++ wsX30)
def wsX4_isIn : List Cond := .code yX4_isIn cX4_isIn 3 (some .boolean) :: ([])
def wsX3_readNumber : List Cond := .code yX3_readNumber cX3_readNumber 4 (some .int) :: ([.fieldLink RX3 22 "CranePermits$Text" "next" "I", .fieldLink RX3 25 "CranePermits$Text" "formed" "Z", .methodLink RX3 49 yX3_signAt, .instanceMethod yX3_signAt, .selects RX3 yX3_signAt yX3_signAt, .initialized RX3, .code yX3_signAt cX3_signAt 2 (some .int), .fieldLink RX3 15 "CranePermits$Text" "length" "I", .fieldLink RX3 9 "CranePermits$Text" "signs" "[C", .static yX4_isIn, .initialized RX4, .code yX4_isIn cX4_isIn 3 (some .boolean)] ++ wsX30)
def wsX3_readSign : List Cond := .code yX3_readSign cX3_readSign 2 none :: ([.fieldLink RX3 22 "CranePermits$Text" "next" "I", .fieldLink RX3 25 "CranePermits$Text" "formed" "Z", .methodLink RX3 49 yX3_signAt, .instanceMethod yX3_signAt, .selects RX3 yX3_signAt yX3_signAt, .initialized RX3, .code yX3_signAt cX3_signAt 2 (some .int), .fieldLink RX3 15 "CranePermits$Text" "length" "I", .fieldLink RX3 9 "CranePermits$Text" "signs" "[C"] ++ wsX30)
def wsX3_readApplication_r1 : List Cond := [Cond.fieldLink RX3 22 "CranePermits$Text" "next" "I", Cond.fieldLink RX3 19 "CranePermits$Text" "start" "I", Cond.fieldLink RX3 25 "CranePermits$Text" "formed" "Z", Cond.fieldLink RX3 29 "CranePermits$Text" "crane" "I", Cond.fieldLink RX3 32 "CranePermits$Text" "night" "I", Cond.fieldLink RX3 35 "CranePermits$Text" "hours" "I", Cond.fieldLink RX3 38 "CranePermits$Text" "swing" "I", Cond.methodLink RX3 41 yX3_readNumber, Cond.instanceMethod yX3_readNumber, Cond.selects RX3 yX3_readNumber yX3_readNumber, Cond.initialized RX3, Cond.code yX3_readNumber cX3_readNumber 4 (some .int), Cond.methodLink RX3 49 yX3_signAt, Cond.instanceMethod yX3_signAt, Cond.selects RX3 yX3_signAt yX3_signAt, Cond.code yX3_signAt cX3_signAt 2 (some .int), Cond.fieldLink RX3 15 "CranePermits$Text" "length" "I", Cond.fieldLink RX3 9 "CranePermits$Text" "signs" "[C", Cond.static yX4_isIn, Cond.initialized RX4, Cond.code yX4_isIn cX4_isIn 3 (some .boolean), Cond.methodLink RX3 45 yX3_readSign, Cond.instanceMethod yX3_readSign, Cond.selects RX3 yX3_readSign yX3_readSign]
def wsX3_readApplication_r2 : List Cond := [Cond.code yX3_readSign cX3_readSign 2 none]
def wsX3_readApplication : List Cond := .code yX3_readApplication cX3_readApplication 3 (some .boolean) :: ((wsX3_readApplication_r1 ++ wsX3_readApplication_r2) ++ wsX30)
def wsX4_init_r1 : List Cond := [Cond.methodLink RX4 1 objectInit, Cond.instanceMethod objectInit, Cond.code objectInit ⟨#[0xb1]⟩ 1 none, Cond.classLink RX4 7 RX2, Cond.instantiable RX2 13, Cond.initialized RX2, Cond.fieldLink RX4 10 "CranePermits" "now" "LCranePermits$Site;", Cond.fieldLink RX4 16 "CranePermits" "trial" "LCranePermits$Site;", Cond.fieldLink RX4 19 "CranePermits" "past" "[LCranePermits$Site;", Cond.fieldLink RX4 23 "CranePermits" "pastCount" "I", Cond.classLink RX4 27 RX3, Cond.instantiable RX3 9, Cond.initialized RX3, Cond.fieldLink RX4 30 "CranePermits" "text" "LCranePermits$Text;", Cond.methodLink RX4 9 yX2_init, Cond.instanceMethod yX2_init, Cond.code yX2_init cX2_init 1 none, Cond.methodLink RX2 3 objectInit, Cond.classLink RX2 9 RX0, Cond.fieldLink RX2 11 "CranePermits$Site" "cranes" "[LCranePermits$Crane;", Cond.fieldLink RX2 17 "CranePermits$Site" "craneCount" "I", Cond.arrayClass .int, Cond.fieldLink RX2 21 "CranePermits$Site" "noises" "[I", Cond.fieldLink RX2 25 "CranePermits$Site" "settings" "[I"]
def wsX4_init_r2 : List Cond := [Cond.fieldLink RX2 28 "CranePermits$Site" "winds" "[I", Cond.fieldLink RX2 31 "CranePermits$Site" "allowances" "[I", Cond.fieldLink RX2 34 "CranePermits$Site" "received" "[I", Cond.fieldLink RX2 37 "CranePermits$Site" "given" "[I", Cond.classLink RX2 40 RX1, Cond.fieldLink RX2 42 "CranePermits$Site" "permits" "[LCranePermits$Permit;", Cond.fieldLink RX2 46 "CranePermits$Site" "permitCount" "I", Cond.fieldLink RX2 49 "CranePermits$Site" "states" "[I", Cond.fieldLink RX2 52 "CranePermits$Site" "valid" "[LCranePermits$Permit;", Cond.fieldLink RX2 55 "CranePermits$Site" "validCount" "I", Cond.methodLink RX2 58 yJ7_fill_53178, Cond.static yJ7_fill_53178, Cond.initialized RJ7, Cond.code yJ7_fill_53178 cJ7_fill_53178 4 none, Cond.instanceMethod yX3_init, Cond.code yX3_init cX3_init 1 none, Cond.methodLink RX3 3 objectInit, Cond.arrayClass .char, Cond.fieldLink RX3 9 "CranePermits$Text" "signs" "[C", Cond.fieldLink RX3 15 "CranePermits$Text" "length" "I", Cond.fieldLink RX3 19 "CranePermits$Text" "start" "I", Cond.fieldLink RX3 22 "CranePermits$Text" "next" "I", Cond.fieldLink RX3 25 "CranePermits$Text" "formed" "Z", Cond.fieldLink RX3 29 "CranePermits$Text" "crane" "I"]
def wsX4_init_r3 : List Cond := [Cond.fieldLink RX3 32 "CranePermits$Text" "night" "I", Cond.fieldLink RX3 35 "CranePermits$Text" "hours" "I", Cond.fieldLink RX3 38 "CranePermits$Text" "swing" "I"]
def wsX4_init : List Cond := .code yX4_init cX4_init 2 none :: ((wsX4_init_r1 ++ (wsX4_init_r2 ++ wsX4_init_r3)) ++ wsX20 ++ wsX40 ++ wsX30)
def wsX4_isCell : List Cond := .code yX4_isCell cX4_isCell 2 (some .boolean) :: ([.methodLink RX4 38 yX4_isIn, .static yX4_isIn, .initialized RX4, .code yX4_isIn cX4_isIn 3 (some .boolean)])
def wsX4_isStreet : List Cond := .code yX4_isStreet cX4_isStreet 1 (some .boolean) :: ([.methodLink RX4 38 yX4_isIn, .static yX4_isIn, .initialized RX4, .code yX4_isIn cX4_isIn 3 (some .boolean)])
def wsX4_remember_r1 : List Cond := [Cond.fieldLink RX4 23 "CranePermits" "pastCount" "I", Cond.fieldLink RX4 19 "CranePermits" "past" "[LCranePermits$Site;", Cond.methodLink RX4 261 arraycopyName, Cond.native arraycopyName, Cond.static arraycopyName, Cond.initialized "java/lang/System", Cond.fieldLink RX4 10 "CranePermits" "now" "LCranePermits$Site;", Cond.methodLink RX4 171 yX2_copyFrom, Cond.instanceMethod yX2_copyFrom, Cond.selects RX2 yX2_copyFrom yX2_copyFrom, Cond.initialized RX2, Cond.code yX2_copyFrom cX2_copyFrom 2 none, Cond.fieldLink RX2 11 "CranePermits$Site" "cranes" "[LCranePermits$Crane;", Cond.methodLink RX2 64 arraycopyName, Cond.fieldLink RX2 17 "CranePermits$Site" "craneCount" "I", Cond.fieldLink RX2 21 "CranePermits$Site" "noises" "[I", Cond.fieldLink RX2 25 "CranePermits$Site" "settings" "[I", Cond.fieldLink RX2 28 "CranePermits$Site" "winds" "[I", Cond.fieldLink RX2 31 "CranePermits$Site" "allowances" "[I", Cond.fieldLink RX2 34 "CranePermits$Site" "received" "[I", Cond.fieldLink RX2 37 "CranePermits$Site" "given" "[I", Cond.fieldLink RX2 42 "CranePermits$Site" "permits" "[LCranePermits$Permit;", Cond.fieldLink RX2 46 "CranePermits$Site" "permitCount" "I", Cond.fieldLink RX2 49 "CranePermits$Site" "states" "[I"]
def wsX4_remember_r2 : List Cond := [Cond.fieldLink RX2 52 "CranePermits$Site" "valid" "[LCranePermits$Permit;", Cond.fieldLink RX2 55 "CranePermits$Site" "validCount" "I"]
def wsX4_remember : List Cond := .code yX4_remember cX4_remember 2 none :: ((wsX4_remember_r1 ++ wsX4_remember_r2) ++ wsX40 ++ wsX20)
def wsX4_crane_r1 : List Cond := [Cond.fieldLink RX4 10 "CranePermits" "now" "LCranePermits$Site;", Cond.fieldLink RX4 49 "CranePermits$Site" "craneCount" "I", Cond.classLink RX4 55 RX0, Cond.instantiable RX0 7, Cond.initialized RX0, Cond.fieldLink RX4 64 "CranePermits$Crane" "number" "I", Cond.methodLink RX4 34 yX4_isCell, Cond.static yX4_isCell, Cond.initialized RX4, Cond.code yX4_isCell cX4_isCell 2 (some .boolean), Cond.methodLink RX4 38 yX4_isIn, Cond.static yX4_isIn, Cond.code yX4_isIn cX4_isIn 3 (some .boolean), Cond.methodLink RX4 42 yX4_isStreet, Cond.static yX4_isStreet, Cond.code yX4_isStreet cX4_isStreet 1 (some .boolean), Cond.methodLink RX4 46 yX2_hasCraneIn, Cond.instanceMethod yX2_hasCraneIn, Cond.selects RX2 yX2_hasCraneIn yX2_hasCraneIn, Cond.initialized RX2, Cond.code yX2_hasCraneIn cX2_hasCraneIn 5 (some .boolean), Cond.fieldLink RX2 17 "CranePermits$Site" "craneCount" "I", Cond.fieldLink RX2 74 "CranePermits$Crane" "x" "I", Cond.fieldLink RX2 77 "CranePermits$Crane" "y" "I"]
def wsX4_crane_r2 : List Cond := [Cond.methodLink RX2 70 yX2_craneAt, Cond.instanceMethod yX2_craneAt, Cond.selects RX2 yX2_craneAt yX2_craneAt, Cond.code yX2_craneAt cX2_craneAt 3 (some (.object "CranePermits$Crane")), Cond.fieldLink RX2 11 "CranePermits$Site" "cranes" "[LCranePermits$Crane;", Cond.methodLink RX4 52 yX4_remember, Cond.instanceMethod yX4_remember, Cond.selects RX4 yX4_remember yX4_remember, Cond.code yX4_remember cX4_remember 2 none, Cond.fieldLink RX4 23 "CranePermits" "pastCount" "I", Cond.fieldLink RX4 19 "CranePermits" "past" "[LCranePermits$Site;", Cond.methodLink RX4 261 arraycopyName, Cond.native arraycopyName, Cond.static arraycopyName, Cond.initialized "java/lang/System", Cond.methodLink RX4 171 yX2_copyFrom, Cond.instanceMethod yX2_copyFrom, Cond.selects RX2 yX2_copyFrom yX2_copyFrom, Cond.code yX2_copyFrom cX2_copyFrom 2 none, Cond.methodLink RX2 64 arraycopyName, Cond.fieldLink RX2 21 "CranePermits$Site" "noises" "[I", Cond.fieldLink RX2 25 "CranePermits$Site" "settings" "[I", Cond.fieldLink RX2 28 "CranePermits$Site" "winds" "[I", Cond.fieldLink RX2 31 "CranePermits$Site" "allowances" "[I"]
def wsX4_crane_r3 : List Cond := [Cond.fieldLink RX2 34 "CranePermits$Site" "received" "[I", Cond.fieldLink RX2 37 "CranePermits$Site" "given" "[I", Cond.fieldLink RX2 42 "CranePermits$Site" "permits" "[LCranePermits$Permit;", Cond.fieldLink RX2 46 "CranePermits$Site" "permitCount" "I", Cond.fieldLink RX2 49 "CranePermits$Site" "states" "[I", Cond.fieldLink RX2 52 "CranePermits$Site" "valid" "[LCranePermits$Permit;", Cond.fieldLink RX2 55 "CranePermits$Site" "validCount" "I", Cond.methodLink RX4 57 yX0_init, Cond.instanceMethod yX0_init, Cond.code yX0_init cX0_init 10 none, Cond.methodLink RX0 3 objectInit, Cond.instanceMethod objectInit, Cond.code objectInit ⟨#[0xb1]⟩ 1 none, Cond.arrayClass .long, Cond.fieldLink RX0 9 "CranePermits$Crane" "eighths" "[J", Cond.fieldLink RX0 15 "CranePermits$Crane" "number" "I", Cond.fieldLink RX0 19 "CranePermits$Crane" "x" "I", Cond.fieldLink RX0 22 "CranePermits$Crane" "y" "I", Cond.fieldLink RX0 25 "CranePermits$Crane" "reach" "I", Cond.fieldLink RX0 28 "CranePermits$Crane" "height" "I", Cond.fieldLink RX0 31 "CranePermits$Crane" "street" "I", Cond.methodLink RX0 34 yX0_markOwnCell, Cond.instanceMethod yX0_markOwnCell, Cond.selects RX0 yX0_markOwnCell yX0_markOwnCell]
def wsX4_crane_r4 : List Cond := [Cond.code yX0_markOwnCell cX0_markOwnCell 3 none, Cond.methodLink RX0 42 yX0_mark, Cond.instanceMethod yX0_mark, Cond.selects RX0 yX0_mark yX0_mark, Cond.code yX0_mark cX0_mark 4 none, Cond.methodLink RX0 38 yX0_directionOf, Cond.static yX0_directionOf, Cond.code yX0_directionOf cX0_directionOf 2 (some .int), Cond.methodLink RX4 60 yX2_addCrane, Cond.instanceMethod yX2_addCrane, Cond.selects RX2 yX2_addCrane yX2_addCrane, Cond.code yX2_addCrane cX2_addCrane 3 none, Cond.static yX4_put, Cond.code yX4_put cX4_put 3 none]
def wsX4_crane : List Cond := .code yX4_crane cX4_crane 8 (some .int) :: ((wsX4_crane_r1 ++ (wsX4_crane_r2 ++ (wsX4_crane_r3 ++ wsX4_crane_r4))) ++ wsX40 ++ wsX20 ++ wsX00)
def wsX4_noise_r1 : List Cond := [Cond.fieldLink RX4 10 "CranePermits" "now" "LCranePermits$Site;", Cond.fieldLink RX4 71 "CranePermits$Site" "noises" "[I", Cond.fieldLink RX4 64 "CranePermits$Crane" "number" "I", Cond.methodLink RX4 67 yX2_craneAt, Cond.instanceMethod yX2_craneAt, Cond.selects RX2 yX2_craneAt yX2_craneAt, Cond.initialized RX2, Cond.code yX2_craneAt cX2_craneAt 3 (some (.object "CranePermits$Crane")), Cond.fieldLink RX2 17 "CranePermits$Site" "craneCount" "I", Cond.fieldLink RX2 11 "CranePermits$Site" "cranes" "[LCranePermits$Crane;", Cond.methodLink RX4 38 yX4_isIn, Cond.static yX4_isIn, Cond.initialized RX4, Cond.code yX4_isIn cX4_isIn 3 (some .boolean), Cond.methodLink RX4 52 yX4_remember, Cond.instanceMethod yX4_remember, Cond.selects RX4 yX4_remember yX4_remember, Cond.code yX4_remember cX4_remember 2 none, Cond.fieldLink RX4 23 "CranePermits" "pastCount" "I", Cond.fieldLink RX4 19 "CranePermits" "past" "[LCranePermits$Site;", Cond.methodLink RX4 261 arraycopyName, Cond.native arraycopyName, Cond.static arraycopyName, Cond.initialized "java/lang/System"]
def wsX4_noise_r2 : List Cond := [Cond.methodLink RX4 171 yX2_copyFrom, Cond.instanceMethod yX2_copyFrom, Cond.selects RX2 yX2_copyFrom yX2_copyFrom, Cond.code yX2_copyFrom cX2_copyFrom 2 none, Cond.methodLink RX2 64 arraycopyName, Cond.fieldLink RX2 21 "CranePermits$Site" "noises" "[I", Cond.fieldLink RX2 25 "CranePermits$Site" "settings" "[I", Cond.fieldLink RX2 28 "CranePermits$Site" "winds" "[I", Cond.fieldLink RX2 31 "CranePermits$Site" "allowances" "[I", Cond.fieldLink RX2 34 "CranePermits$Site" "received" "[I", Cond.fieldLink RX2 37 "CranePermits$Site" "given" "[I", Cond.fieldLink RX2 42 "CranePermits$Site" "permits" "[LCranePermits$Permit;", Cond.fieldLink RX2 46 "CranePermits$Site" "permitCount" "I", Cond.fieldLink RX2 49 "CranePermits$Site" "states" "[I", Cond.fieldLink RX2 52 "CranePermits$Site" "valid" "[LCranePermits$Permit;", Cond.fieldLink RX2 55 "CranePermits$Site" "validCount" "I", Cond.methodLink RX4 75 yX4_put, Cond.static yX4_put, Cond.code yX4_put cX4_put 3 none, Cond.methodLink RX4 79 yX2_withdrawFailing, Cond.instanceMethod yX2_withdrawFailing, Cond.selects RX2 yX2_withdrawFailing yX2_withdrawFailing, Cond.code yX2_withdrawFailing cX2_withdrawFailing 4 (some .int), Cond.fieldLink RX2 113 "CranePermits$Permit" "crane" "LCranePermits$Crane;"]
def wsX4_noise_r3 : List Cond := [Cond.fieldLink RX2 159 "CranePermits$Permit" "night" "I", Cond.fieldLink RX2 174 "CranePermits$Crane" "street" "I", Cond.methodLink RX2 105 yX2_validAt, Cond.instanceMethod yX2_validAt, Cond.selects RX2 yX2_validAt yX2_validAt, Cond.code yX2_validAt cX2_validAt 3 (some (.object "CranePermits$Permit")), Cond.methodLink RX2 166 yX2_mustStop, Cond.instanceMethod yX2_mustStop, Cond.selects RX2 yX2_mustStop yX2_mustStop, Cond.code yX2_mustStop cX2_mustStop 3 (some .boolean), Cond.static yX4_at, Cond.code yX4_at cX4_at 2 (some .int), Cond.methodLink RX2 91 yX2_stopWindOf, Cond.instanceMethod yX2_stopWindOf, Cond.selects RX2 yX2_stopWindOf yX2_stopWindOf, Cond.code yX2_stopWindOf cX2_stopWindOf 2 (some .int), Cond.fieldLink RX2 88 "CranePermits$Crane" "height" "I", Cond.methodLink RX2 177 yX2_freeOf, Cond.instanceMethod yX2_freeOf, Cond.selects RX2 yX2_freeOf yX2_freeOf, Cond.code yX2_freeOf cX2_freeOf 3 (some .int), Cond.methodLink RX2 124 yX2_creditsOf, Cond.instanceMethod yX2_creditsOf, Cond.selects RX2 yX2_creditsOf yX2_creditsOf]
def wsX4_noise_r4 : List Cond := [Cond.code yX2_creditsOf cX2_creditsOf 4 (some .int), Cond.static yX4_streetNight, Cond.code yX4_streetNight cX4_streetNight 2 (some .int), Cond.methodLink RX2 99 yX2_allowanceOf, Cond.instanceMethod yX2_allowanceOf, Cond.selects RX2 yX2_allowanceOf yX2_allowanceOf, Cond.code yX2_allowanceOf cX2_allowanceOf 4 (some .int), Cond.methodLink RX2 127 yX2_usedOf, Cond.instanceMethod yX2_usedOf, Cond.selects RX2 yX2_usedOf yX2_usedOf, Cond.code yX2_usedOf cX2_usedOf 6 (some .int), Cond.fieldLink RX2 117 "CranePermits$Permit" "hours" "I", Cond.methodLink RX2 109 yX1_isOf, Cond.instanceMethod yX1_isOf, Cond.selects RX1 yX1_isOf yX1_isOf, Cond.initialized RX1, Cond.code yX1_isOf cX1_isOf 3 (some .boolean), Cond.fieldLink RX1 13 "CranePermits$Permit" "crane" "LCranePermits$Crane;", Cond.fieldLink RX1 35 "CranePermits$Crane" "street" "I", Cond.fieldLink RX1 17 "CranePermits$Permit" "night" "I", Cond.methodLink RX2 120 yX2_useOf, Cond.instanceMethod yX2_useOf, Cond.selects RX2 yX2_useOf yX2_useOf, Cond.code yX2_useOf cX2_useOf 3 (some .int)]
def wsX4_noise_r5 : List Cond := [Cond.fieldLink RX2 102 "CranePermits$Crane" "number" "I", Cond.methodLink RX2 180 yX2_end, Cond.instanceMethod yX2_end, Cond.selects RX2 yX2_end yX2_end, Cond.code yX2_end cX2_end 6 none, Cond.fieldLink RX2 158 "CranePermits$Permit" "number" "I"]
def wsX4_noise : List Cond := .code yX4_noise cX4_noise 4 (some .int) :: ((wsX4_noise_r1 ++ (wsX4_noise_r2 ++ (wsX4_noise_r3 ++ (wsX4_noise_r4 ++ wsX4_noise_r5)))) ++ wsX40 ++ wsX20 ++ wsX00 ++ wsX10)
def wsX4_craneOf_r1 : List Cond := [Cond.fieldLink RX4 10 "CranePermits" "now" "LCranePermits$Site;", Cond.fieldLink RX4 83 "CranePermits$Crane" "x" "I", Cond.fieldLink RX4 86 "CranePermits$Crane" "y" "I", Cond.fieldLink RX4 89 "CranePermits$Crane" "reach" "I", Cond.fieldLink RX4 92 "CranePermits$Crane" "height" "I", Cond.fieldLink RX4 95 "CranePermits$Crane" "street" "I", Cond.fieldLink RX4 71 "CranePermits$Site" "noises" "[I", Cond.fieldLink RX4 64 "CranePermits$Crane" "number" "I", Cond.methodLink RX4 67 yX2_craneAt, Cond.instanceMethod yX2_craneAt, Cond.selects RX2 yX2_craneAt yX2_craneAt, Cond.initialized RX2, Cond.code yX2_craneAt cX2_craneAt 3 (some (.object "CranePermits$Crane")), Cond.fieldLink RX2 17 "CranePermits$Site" "craneCount" "I", Cond.fieldLink RX2 11 "CranePermits$Site" "cranes" "[LCranePermits$Crane;", Cond.methodLink RX4 98 yX4_at, Cond.static yX4_at, Cond.initialized RX4, Cond.code yX4_at cX4_at 2 (some .int), Cond.methodLink RX4 102 yX2_validOfCrane, Cond.instanceMethod yX2_validOfCrane, Cond.selects RX2 yX2_validOfCrane yX2_validOfCrane, Cond.code yX2_validOfCrane cX2_validOfCrane 5 (some .int), Cond.fieldLink RX2 55 "CranePermits$Site" "validCount" "I"]
def wsX4_craneOf_r2 : List Cond := [Cond.methodLink RX2 105 yX2_validAt, Cond.instanceMethod yX2_validAt, Cond.selects RX2 yX2_validAt yX2_validAt, Cond.code yX2_validAt cX2_validAt 3 (some (.object "CranePermits$Permit")), Cond.fieldLink RX2 52 "CranePermits$Site" "valid" "[LCranePermits$Permit;", Cond.methodLink RX2 130 yX1_isFor, Cond.instanceMethod yX1_isFor, Cond.selects RX1 yX1_isFor yX1_isFor, Cond.initialized RX1, Cond.code yX1_isFor cX1_isFor 2 (some .boolean), Cond.fieldLink RX1 13 "CranePermits$Permit" "crane" "LCranePermits$Crane;", Cond.fieldLink RX1 32 "CranePermits$Crane" "number" "I", Cond.methodLink RX4 106 yX2_stopWindOf, Cond.instanceMethod yX2_stopWindOf, Cond.selects RX2 yX2_stopWindOf yX2_stopWindOf, Cond.code yX2_stopWindOf cX2_stopWindOf 2 (some .int), Cond.fieldLink RX2 25 "CranePermits$Site" "settings" "[I", Cond.fieldLink RX2 88 "CranePermits$Crane" "height" "I"]
def wsX4_craneOf : List Cond := .code yX4_craneOf cX4_craneOf 4 (some .int) :: ((wsX4_craneOf_r1 ++ wsX4_craneOf_r2) ++ wsX40 ++ wsX00 ++ wsX20 ++ wsX10)
def wsX4_set_r1 : List Cond := [Cond.fieldLink RX4 109 "CranePermits" "SETTING_LEAST" "[I", Cond.fieldLink RX4 112 "CranePermits" "SETTING_MOST" "[I", Cond.fieldLink RX4 10 "CranePermits" "now" "LCranePermits$Site;", Cond.fieldLink RX4 115 "CranePermits$Site" "settings" "[I", Cond.methodLink RX4 38 yX4_isIn, Cond.static yX4_isIn, Cond.initialized RX4, Cond.code yX4_isIn cX4_isIn 3 (some .boolean), Cond.methodLink RX4 98 yX4_at, Cond.static yX4_at, Cond.code yX4_at cX4_at 2 (some .int), Cond.methodLink RX4 52 yX4_remember, Cond.instanceMethod yX4_remember, Cond.selects RX4 yX4_remember yX4_remember, Cond.code yX4_remember cX4_remember 2 none, Cond.fieldLink RX4 23 "CranePermits" "pastCount" "I", Cond.fieldLink RX4 19 "CranePermits" "past" "[LCranePermits$Site;", Cond.methodLink RX4 261 arraycopyName, Cond.native arraycopyName, Cond.static arraycopyName, Cond.initialized "java/lang/System", Cond.methodLink RX4 171 yX2_copyFrom, Cond.instanceMethod yX2_copyFrom, Cond.selects RX2 yX2_copyFrom yX2_copyFrom]
def wsX4_set_r2 : List Cond := [Cond.initialized RX2, Cond.code yX2_copyFrom cX2_copyFrom 2 none, Cond.fieldLink RX2 11 "CranePermits$Site" "cranes" "[LCranePermits$Crane;", Cond.methodLink RX2 64 arraycopyName, Cond.fieldLink RX2 17 "CranePermits$Site" "craneCount" "I", Cond.fieldLink RX2 21 "CranePermits$Site" "noises" "[I", Cond.fieldLink RX2 25 "CranePermits$Site" "settings" "[I", Cond.fieldLink RX2 28 "CranePermits$Site" "winds" "[I", Cond.fieldLink RX2 31 "CranePermits$Site" "allowances" "[I", Cond.fieldLink RX2 34 "CranePermits$Site" "received" "[I", Cond.fieldLink RX2 37 "CranePermits$Site" "given" "[I", Cond.fieldLink RX2 42 "CranePermits$Site" "permits" "[LCranePermits$Permit;", Cond.fieldLink RX2 46 "CranePermits$Site" "permitCount" "I", Cond.fieldLink RX2 49 "CranePermits$Site" "states" "[I", Cond.fieldLink RX2 52 "CranePermits$Site" "valid" "[LCranePermits$Permit;", Cond.fieldLink RX2 55 "CranePermits$Site" "validCount" "I", Cond.methodLink RX4 75 yX4_put, Cond.static yX4_put, Cond.code yX4_put cX4_put 3 none, Cond.methodLink RX4 79 yX2_withdrawFailing, Cond.instanceMethod yX2_withdrawFailing, Cond.selects RX2 yX2_withdrawFailing yX2_withdrawFailing, Cond.code yX2_withdrawFailing cX2_withdrawFailing 4 (some .int), Cond.fieldLink RX2 113 "CranePermits$Permit" "crane" "LCranePermits$Crane;"]
def wsX4_set_r3 : List Cond := [Cond.fieldLink RX2 159 "CranePermits$Permit" "night" "I", Cond.fieldLink RX2 174 "CranePermits$Crane" "street" "I", Cond.methodLink RX2 105 yX2_validAt, Cond.instanceMethod yX2_validAt, Cond.selects RX2 yX2_validAt yX2_validAt, Cond.code yX2_validAt cX2_validAt 3 (some (.object "CranePermits$Permit")), Cond.methodLink RX2 166 yX2_mustStop, Cond.instanceMethod yX2_mustStop, Cond.selects RX2 yX2_mustStop yX2_mustStop, Cond.code yX2_mustStop cX2_mustStop 3 (some .boolean), Cond.methodLink RX2 91 yX2_stopWindOf, Cond.instanceMethod yX2_stopWindOf, Cond.selects RX2 yX2_stopWindOf yX2_stopWindOf, Cond.code yX2_stopWindOf cX2_stopWindOf 2 (some .int), Cond.fieldLink RX2 88 "CranePermits$Crane" "height" "I", Cond.methodLink RX2 177 yX2_freeOf, Cond.instanceMethod yX2_freeOf, Cond.selects RX2 yX2_freeOf yX2_freeOf, Cond.code yX2_freeOf cX2_freeOf 3 (some .int), Cond.methodLink RX2 124 yX2_creditsOf, Cond.instanceMethod yX2_creditsOf, Cond.selects RX2 yX2_creditsOf yX2_creditsOf, Cond.code yX2_creditsOf cX2_creditsOf 4 (some .int), Cond.static yX4_streetNight]
def wsX4_set_r4 : List Cond := [Cond.code yX4_streetNight cX4_streetNight 2 (some .int), Cond.methodLink RX2 99 yX2_allowanceOf, Cond.instanceMethod yX2_allowanceOf, Cond.selects RX2 yX2_allowanceOf yX2_allowanceOf, Cond.code yX2_allowanceOf cX2_allowanceOf 4 (some .int), Cond.methodLink RX2 127 yX2_usedOf, Cond.instanceMethod yX2_usedOf, Cond.selects RX2 yX2_usedOf yX2_usedOf, Cond.code yX2_usedOf cX2_usedOf 6 (some .int), Cond.fieldLink RX2 117 "CranePermits$Permit" "hours" "I", Cond.methodLink RX2 109 yX1_isOf, Cond.instanceMethod yX1_isOf, Cond.selects RX1 yX1_isOf yX1_isOf, Cond.initialized RX1, Cond.code yX1_isOf cX1_isOf 3 (some .boolean), Cond.fieldLink RX1 13 "CranePermits$Permit" "crane" "LCranePermits$Crane;", Cond.fieldLink RX1 35 "CranePermits$Crane" "street" "I", Cond.fieldLink RX1 17 "CranePermits$Permit" "night" "I", Cond.methodLink RX2 120 yX2_useOf, Cond.instanceMethod yX2_useOf, Cond.selects RX2 yX2_useOf yX2_useOf, Cond.code yX2_useOf cX2_useOf 3 (some .int), Cond.fieldLink RX2 102 "CranePermits$Crane" "number" "I", Cond.methodLink RX2 180 yX2_end]
def wsX4_set_r5 : List Cond := [Cond.instanceMethod yX2_end, Cond.selects RX2 yX2_end yX2_end, Cond.code yX2_end cX2_end 6 none, Cond.fieldLink RX2 158 "CranePermits$Permit" "number" "I"]
def wsX4_set : List Cond := .code yX4_set cX4_set 3 (some .int) :: ((wsX4_set_r1 ++ (wsX4_set_r2 ++ (wsX4_set_r3 ++ (wsX4_set_r4 ++ wsX4_set_r5)))) ++ wsX40 ++ wsX20 ++ wsX10 ++ wsX00)
def wsX4_isNight : List Cond := .code yX4_isNight cX4_isNight 1 (some .boolean) :: ([.methodLink RX4 38 yX4_isIn, .static yX4_isIn, .initialized RX4, .code yX4_isIn cX4_isIn 3 (some .boolean)])
def wsX4_wind_r1 : List Cond := [Cond.fieldLink RX4 10 "CranePermits" "now" "LCranePermits$Site;", Cond.fieldLink RX4 121 "CranePermits$Site" "winds" "[I", Cond.methodLink RX4 118 yX4_isNight, Cond.static yX4_isNight, Cond.initialized RX4, Cond.code yX4_isNight cX4_isNight 1 (some .boolean), Cond.methodLink RX4 38 yX4_isIn, Cond.static yX4_isIn, Cond.code yX4_isIn cX4_isIn 3 (some .boolean), Cond.methodLink RX4 52 yX4_remember, Cond.instanceMethod yX4_remember, Cond.selects RX4 yX4_remember yX4_remember, Cond.code yX4_remember cX4_remember 2 none, Cond.fieldLink RX4 23 "CranePermits" "pastCount" "I", Cond.fieldLink RX4 19 "CranePermits" "past" "[LCranePermits$Site;", Cond.methodLink RX4 261 arraycopyName, Cond.native arraycopyName, Cond.static arraycopyName, Cond.initialized "java/lang/System", Cond.methodLink RX4 171 yX2_copyFrom, Cond.instanceMethod yX2_copyFrom, Cond.selects RX2 yX2_copyFrom yX2_copyFrom, Cond.initialized RX2, Cond.code yX2_copyFrom cX2_copyFrom 2 none]
def wsX4_wind_r2 : List Cond := [Cond.fieldLink RX2 11 "CranePermits$Site" "cranes" "[LCranePermits$Crane;", Cond.methodLink RX2 64 arraycopyName, Cond.fieldLink RX2 17 "CranePermits$Site" "craneCount" "I", Cond.fieldLink RX2 21 "CranePermits$Site" "noises" "[I", Cond.fieldLink RX2 25 "CranePermits$Site" "settings" "[I", Cond.fieldLink RX2 28 "CranePermits$Site" "winds" "[I", Cond.fieldLink RX2 31 "CranePermits$Site" "allowances" "[I", Cond.fieldLink RX2 34 "CranePermits$Site" "received" "[I", Cond.fieldLink RX2 37 "CranePermits$Site" "given" "[I", Cond.fieldLink RX2 42 "CranePermits$Site" "permits" "[LCranePermits$Permit;", Cond.fieldLink RX2 46 "CranePermits$Site" "permitCount" "I", Cond.fieldLink RX2 49 "CranePermits$Site" "states" "[I", Cond.fieldLink RX2 52 "CranePermits$Site" "valid" "[LCranePermits$Permit;", Cond.fieldLink RX2 55 "CranePermits$Site" "validCount" "I", Cond.methodLink RX4 75 yX4_put, Cond.static yX4_put, Cond.code yX4_put cX4_put 3 none, Cond.methodLink RX4 79 yX2_withdrawFailing, Cond.instanceMethod yX2_withdrawFailing, Cond.selects RX2 yX2_withdrawFailing yX2_withdrawFailing, Cond.code yX2_withdrawFailing cX2_withdrawFailing 4 (some .int), Cond.fieldLink RX2 113 "CranePermits$Permit" "crane" "LCranePermits$Crane;", Cond.fieldLink RX2 159 "CranePermits$Permit" "night" "I", Cond.fieldLink RX2 174 "CranePermits$Crane" "street" "I"]
def wsX4_wind_r3 : List Cond := [Cond.methodLink RX2 105 yX2_validAt, Cond.instanceMethod yX2_validAt, Cond.selects RX2 yX2_validAt yX2_validAt, Cond.code yX2_validAt cX2_validAt 3 (some (.object "CranePermits$Permit")), Cond.methodLink RX2 166 yX2_mustStop, Cond.instanceMethod yX2_mustStop, Cond.selects RX2 yX2_mustStop yX2_mustStop, Cond.code yX2_mustStop cX2_mustStop 3 (some .boolean), Cond.static yX4_at, Cond.code yX4_at cX4_at 2 (some .int), Cond.methodLink RX2 91 yX2_stopWindOf, Cond.instanceMethod yX2_stopWindOf, Cond.selects RX2 yX2_stopWindOf yX2_stopWindOf, Cond.code yX2_stopWindOf cX2_stopWindOf 2 (some .int), Cond.fieldLink RX2 88 "CranePermits$Crane" "height" "I", Cond.methodLink RX2 177 yX2_freeOf, Cond.instanceMethod yX2_freeOf, Cond.selects RX2 yX2_freeOf yX2_freeOf, Cond.code yX2_freeOf cX2_freeOf 3 (some .int), Cond.methodLink RX2 124 yX2_creditsOf, Cond.instanceMethod yX2_creditsOf, Cond.selects RX2 yX2_creditsOf yX2_creditsOf, Cond.code yX2_creditsOf cX2_creditsOf 4 (some .int), Cond.static yX4_streetNight]
def wsX4_wind_r4 : List Cond := [Cond.code yX4_streetNight cX4_streetNight 2 (some .int), Cond.methodLink RX2 99 yX2_allowanceOf, Cond.instanceMethod yX2_allowanceOf, Cond.selects RX2 yX2_allowanceOf yX2_allowanceOf, Cond.code yX2_allowanceOf cX2_allowanceOf 4 (some .int), Cond.methodLink RX2 127 yX2_usedOf, Cond.instanceMethod yX2_usedOf, Cond.selects RX2 yX2_usedOf yX2_usedOf, Cond.code yX2_usedOf cX2_usedOf 6 (some .int), Cond.fieldLink RX2 117 "CranePermits$Permit" "hours" "I", Cond.methodLink RX2 109 yX1_isOf, Cond.instanceMethod yX1_isOf, Cond.selects RX1 yX1_isOf yX1_isOf, Cond.initialized RX1, Cond.code yX1_isOf cX1_isOf 3 (some .boolean), Cond.fieldLink RX1 13 "CranePermits$Permit" "crane" "LCranePermits$Crane;", Cond.fieldLink RX1 35 "CranePermits$Crane" "street" "I", Cond.fieldLink RX1 17 "CranePermits$Permit" "night" "I", Cond.methodLink RX2 120 yX2_useOf, Cond.instanceMethod yX2_useOf, Cond.selects RX2 yX2_useOf yX2_useOf, Cond.code yX2_useOf cX2_useOf 3 (some .int), Cond.fieldLink RX2 102 "CranePermits$Crane" "number" "I", Cond.methodLink RX2 180 yX2_end]
def wsX4_wind_r5 : List Cond := [Cond.instanceMethod yX2_end, Cond.selects RX2 yX2_end yX2_end, Cond.code yX2_end cX2_end 6 none, Cond.fieldLink RX2 158 "CranePermits$Permit" "number" "I"]
def wsX4_wind : List Cond := .code yX4_wind cX4_wind 3 (some .int) :: ((wsX4_wind_r1 ++ (wsX4_wind_r2 ++ (wsX4_wind_r3 ++ (wsX4_wind_r4 ++ wsX4_wind_r5)))) ++ wsX40 ++ wsX20 ++ wsX10 ++ wsX00)
def wsX4_allow_r1 : List Cond := [Cond.fieldLink RX4 10 "CranePermits" "now" "LCranePermits$Site;", Cond.fieldLink RX4 124 "CranePermits$Site" "allowances" "[I", Cond.methodLink RX4 42 yX4_isStreet, Cond.static yX4_isStreet, Cond.initialized RX4, Cond.code yX4_isStreet cX4_isStreet 1 (some .boolean), Cond.methodLink RX4 38 yX4_isIn, Cond.static yX4_isIn, Cond.code yX4_isIn cX4_isIn 3 (some .boolean), Cond.methodLink RX4 118 yX4_isNight, Cond.static yX4_isNight, Cond.code yX4_isNight cX4_isNight 1 (some .boolean), Cond.methodLink RX4 52 yX4_remember, Cond.instanceMethod yX4_remember, Cond.selects RX4 yX4_remember yX4_remember, Cond.code yX4_remember cX4_remember 2 none, Cond.fieldLink RX4 23 "CranePermits" "pastCount" "I", Cond.fieldLink RX4 19 "CranePermits" "past" "[LCranePermits$Site;", Cond.methodLink RX4 261 arraycopyName, Cond.native arraycopyName, Cond.static arraycopyName, Cond.initialized "java/lang/System", Cond.methodLink RX4 171 yX2_copyFrom, Cond.instanceMethod yX2_copyFrom]
def wsX4_allow_r2 : List Cond := [Cond.selects RX2 yX2_copyFrom yX2_copyFrom, Cond.initialized RX2, Cond.code yX2_copyFrom cX2_copyFrom 2 none, Cond.fieldLink RX2 11 "CranePermits$Site" "cranes" "[LCranePermits$Crane;", Cond.methodLink RX2 64 arraycopyName, Cond.fieldLink RX2 17 "CranePermits$Site" "craneCount" "I", Cond.fieldLink RX2 21 "CranePermits$Site" "noises" "[I", Cond.fieldLink RX2 25 "CranePermits$Site" "settings" "[I", Cond.fieldLink RX2 28 "CranePermits$Site" "winds" "[I", Cond.fieldLink RX2 31 "CranePermits$Site" "allowances" "[I", Cond.fieldLink RX2 34 "CranePermits$Site" "received" "[I", Cond.fieldLink RX2 37 "CranePermits$Site" "given" "[I", Cond.fieldLink RX2 42 "CranePermits$Site" "permits" "[LCranePermits$Permit;", Cond.fieldLink RX2 46 "CranePermits$Site" "permitCount" "I", Cond.fieldLink RX2 49 "CranePermits$Site" "states" "[I", Cond.fieldLink RX2 52 "CranePermits$Site" "valid" "[LCranePermits$Permit;", Cond.fieldLink RX2 55 "CranePermits$Site" "validCount" "I", Cond.methodLink RX4 127 yX4_streetNight, Cond.static yX4_streetNight, Cond.code yX4_streetNight cX4_streetNight 2 (some .int), Cond.methodLink RX4 75 yX4_put, Cond.static yX4_put, Cond.code yX4_put cX4_put 3 none, Cond.methodLink RX4 79 yX2_withdrawFailing]
def wsX4_allow_r3 : List Cond := [Cond.instanceMethod yX2_withdrawFailing, Cond.selects RX2 yX2_withdrawFailing yX2_withdrawFailing, Cond.code yX2_withdrawFailing cX2_withdrawFailing 4 (some .int), Cond.fieldLink RX2 113 "CranePermits$Permit" "crane" "LCranePermits$Crane;", Cond.fieldLink RX2 159 "CranePermits$Permit" "night" "I", Cond.fieldLink RX2 174 "CranePermits$Crane" "street" "I", Cond.methodLink RX2 105 yX2_validAt, Cond.instanceMethod yX2_validAt, Cond.selects RX2 yX2_validAt yX2_validAt, Cond.code yX2_validAt cX2_validAt 3 (some (.object "CranePermits$Permit")), Cond.methodLink RX2 166 yX2_mustStop, Cond.instanceMethod yX2_mustStop, Cond.selects RX2 yX2_mustStop yX2_mustStop, Cond.code yX2_mustStop cX2_mustStop 3 (some .boolean), Cond.static yX4_at, Cond.code yX4_at cX4_at 2 (some .int), Cond.methodLink RX2 91 yX2_stopWindOf, Cond.instanceMethod yX2_stopWindOf, Cond.selects RX2 yX2_stopWindOf yX2_stopWindOf, Cond.code yX2_stopWindOf cX2_stopWindOf 2 (some .int), Cond.fieldLink RX2 88 "CranePermits$Crane" "height" "I", Cond.methodLink RX2 177 yX2_freeOf, Cond.instanceMethod yX2_freeOf, Cond.selects RX2 yX2_freeOf yX2_freeOf]
def wsX4_allow_r4 : List Cond := [Cond.code yX2_freeOf cX2_freeOf 3 (some .int), Cond.methodLink RX2 124 yX2_creditsOf, Cond.instanceMethod yX2_creditsOf, Cond.selects RX2 yX2_creditsOf yX2_creditsOf, Cond.code yX2_creditsOf cX2_creditsOf 4 (some .int), Cond.methodLink RX2 99 yX2_allowanceOf, Cond.instanceMethod yX2_allowanceOf, Cond.selects RX2 yX2_allowanceOf yX2_allowanceOf, Cond.code yX2_allowanceOf cX2_allowanceOf 4 (some .int), Cond.methodLink RX2 127 yX2_usedOf, Cond.instanceMethod yX2_usedOf, Cond.selects RX2 yX2_usedOf yX2_usedOf, Cond.code yX2_usedOf cX2_usedOf 6 (some .int), Cond.fieldLink RX2 117 "CranePermits$Permit" "hours" "I", Cond.methodLink RX2 109 yX1_isOf, Cond.instanceMethod yX1_isOf, Cond.selects RX1 yX1_isOf yX1_isOf, Cond.initialized RX1, Cond.code yX1_isOf cX1_isOf 3 (some .boolean), Cond.fieldLink RX1 13 "CranePermits$Permit" "crane" "LCranePermits$Crane;", Cond.fieldLink RX1 35 "CranePermits$Crane" "street" "I", Cond.fieldLink RX1 17 "CranePermits$Permit" "night" "I", Cond.methodLink RX2 120 yX2_useOf, Cond.instanceMethod yX2_useOf]
def wsX4_allow_r5 : List Cond := [Cond.selects RX2 yX2_useOf yX2_useOf, Cond.code yX2_useOf cX2_useOf 3 (some .int), Cond.fieldLink RX2 102 "CranePermits$Crane" "number" "I", Cond.methodLink RX2 180 yX2_end, Cond.instanceMethod yX2_end, Cond.selects RX2 yX2_end yX2_end, Cond.code yX2_end cX2_end 6 none, Cond.fieldLink RX2 158 "CranePermits$Permit" "number" "I"]
def wsX4_allow : List Cond := .code yX4_allow cX4_allow 4 (some .int) :: ((wsX4_allow_r1 ++ (wsX4_allow_r2 ++ (wsX4_allow_r3 ++ (wsX4_allow_r4 ++ wsX4_allow_r5)))) ++ wsX40 ++ wsX20 ++ wsX10 ++ wsX00)
def wsX4_transfer_r1 : List Cond := [Cond.fieldLink RX4 10 "CranePermits" "now" "LCranePermits$Site;", Cond.fieldLink RX4 134 "CranePermits$Site" "given" "[I", Cond.fieldLink RX4 137 "CranePermits$Site" "received" "[I", Cond.methodLink RX4 42 yX4_isStreet, Cond.static yX4_isStreet, Cond.initialized RX4, Cond.code yX4_isStreet cX4_isStreet 1 (some .boolean), Cond.methodLink RX4 38 yX4_isIn, Cond.static yX4_isIn, Cond.code yX4_isIn cX4_isIn 3 (some .boolean), Cond.methodLink RX4 118 yX4_isNight, Cond.static yX4_isNight, Cond.code yX4_isNight cX4_isNight 1 (some .boolean), Cond.methodLink RX4 131 yX2_freeOf, Cond.instanceMethod yX2_freeOf, Cond.selects RX2 yX2_freeOf yX2_freeOf, Cond.initialized RX2, Cond.code yX2_freeOf cX2_freeOf 3 (some .int), Cond.methodLink RX2 124 yX2_creditsOf, Cond.instanceMethod yX2_creditsOf, Cond.selects RX2 yX2_creditsOf yX2_creditsOf, Cond.code yX2_creditsOf cX2_creditsOf 4 (some .int), Cond.fieldLink RX2 34 "CranePermits$Site" "received" "[I", Cond.fieldLink RX2 37 "CranePermits$Site" "given" "[I"]
def wsX4_transfer_r2 : List Cond := [Cond.static yX4_streetNight, Cond.code yX4_streetNight cX4_streetNight 2 (some .int), Cond.methodLink RX2 99 yX2_allowanceOf, Cond.instanceMethod yX2_allowanceOf, Cond.selects RX2 yX2_allowanceOf yX2_allowanceOf, Cond.code yX2_allowanceOf cX2_allowanceOf 4 (some .int), Cond.fieldLink RX2 31 "CranePermits$Site" "allowances" "[I", Cond.fieldLink RX2 25 "CranePermits$Site" "settings" "[I", Cond.static yX4_at, Cond.code yX4_at cX4_at 2 (some .int), Cond.methodLink RX2 127 yX2_usedOf, Cond.instanceMethod yX2_usedOf, Cond.selects RX2 yX2_usedOf yX2_usedOf, Cond.code yX2_usedOf cX2_usedOf 6 (some .int), Cond.fieldLink RX2 55 "CranePermits$Site" "validCount" "I", Cond.fieldLink RX2 113 "CranePermits$Permit" "crane" "LCranePermits$Crane;", Cond.fieldLink RX2 117 "CranePermits$Permit" "hours" "I", Cond.methodLink RX2 105 yX2_validAt, Cond.instanceMethod yX2_validAt, Cond.selects RX2 yX2_validAt yX2_validAt, Cond.code yX2_validAt cX2_validAt 3 (some (.object "CranePermits$Permit")), Cond.fieldLink RX2 52 "CranePermits$Site" "valid" "[LCranePermits$Permit;", Cond.methodLink RX2 109 yX1_isOf, Cond.instanceMethod yX1_isOf]
def wsX4_transfer_r3 : List Cond := [Cond.selects RX1 yX1_isOf yX1_isOf, Cond.initialized RX1, Cond.code yX1_isOf cX1_isOf 3 (some .boolean), Cond.fieldLink RX1 13 "CranePermits$Permit" "crane" "LCranePermits$Crane;", Cond.fieldLink RX1 35 "CranePermits$Crane" "street" "I", Cond.fieldLink RX1 17 "CranePermits$Permit" "night" "I", Cond.methodLink RX2 120 yX2_useOf, Cond.instanceMethod yX2_useOf, Cond.selects RX2 yX2_useOf yX2_useOf, Cond.code yX2_useOf cX2_useOf 3 (some .int), Cond.fieldLink RX2 21 "CranePermits$Site" "noises" "[I", Cond.fieldLink RX2 102 "CranePermits$Crane" "number" "I", Cond.methodLink RX4 52 yX4_remember, Cond.instanceMethod yX4_remember, Cond.selects RX4 yX4_remember yX4_remember, Cond.code yX4_remember cX4_remember 2 none, Cond.fieldLink RX4 23 "CranePermits" "pastCount" "I", Cond.fieldLink RX4 19 "CranePermits" "past" "[LCranePermits$Site;", Cond.methodLink RX4 261 arraycopyName, Cond.native arraycopyName, Cond.static arraycopyName, Cond.initialized "java/lang/System", Cond.methodLink RX4 171 yX2_copyFrom, Cond.instanceMethod yX2_copyFrom]
def wsX4_transfer_r4 : List Cond := [Cond.selects RX2 yX2_copyFrom yX2_copyFrom, Cond.code yX2_copyFrom cX2_copyFrom 2 none, Cond.fieldLink RX2 11 "CranePermits$Site" "cranes" "[LCranePermits$Crane;", Cond.methodLink RX2 64 arraycopyName, Cond.fieldLink RX2 17 "CranePermits$Site" "craneCount" "I", Cond.fieldLink RX2 28 "CranePermits$Site" "winds" "[I", Cond.fieldLink RX2 42 "CranePermits$Site" "permits" "[LCranePermits$Permit;", Cond.fieldLink RX2 46 "CranePermits$Site" "permitCount" "I", Cond.fieldLink RX2 49 "CranePermits$Site" "states" "[I", Cond.methodLink RX4 127 yX4_streetNight, Cond.methodLink RX4 98 yX4_at, Cond.methodLink RX4 75 yX4_put, Cond.static yX4_put, Cond.code yX4_put cX4_put 3 none]
def wsX4_transfer : List Cond := .code yX4_transfer cX4_transfer 8 (some .int) :: ((wsX4_transfer_r1 ++ (wsX4_transfer_r2 ++ (wsX4_transfer_r3 ++ wsX4_transfer_r4))) ++ wsX40 ++ wsX20 ++ wsX10 ++ wsX00)
def wsX4_street_r1 : List Cond := [Cond.fieldLink RX4 10 "CranePermits" "now" "LCranePermits$Site;", Cond.fieldLink RX4 137 "CranePermits$Site" "received" "[I", Cond.fieldLink RX4 134 "CranePermits$Site" "given" "[I", Cond.fieldLink RX4 121 "CranePermits$Site" "winds" "[I", Cond.methodLink RX4 42 yX4_isStreet, Cond.static yX4_isStreet, Cond.initialized RX4, Cond.code yX4_isStreet cX4_isStreet 1 (some .boolean), Cond.methodLink RX4 38 yX4_isIn, Cond.static yX4_isIn, Cond.code yX4_isIn cX4_isIn 3 (some .boolean), Cond.methodLink RX4 118 yX4_isNight, Cond.static yX4_isNight, Cond.code yX4_isNight cX4_isNight 1 (some .boolean), Cond.methodLink RX4 140 yX2_allowanceOf, Cond.instanceMethod yX2_allowanceOf, Cond.selects RX2 yX2_allowanceOf yX2_allowanceOf, Cond.initialized RX2, Cond.code yX2_allowanceOf cX2_allowanceOf 4 (some .int), Cond.fieldLink RX2 31 "CranePermits$Site" "allowances" "[I", Cond.fieldLink RX2 25 "CranePermits$Site" "settings" "[I", Cond.static yX4_streetNight, Cond.code yX4_streetNight cX4_streetNight 2 (some .int), Cond.static yX4_at]
def wsX4_street_r2 : List Cond := [Cond.code yX4_at cX4_at 2 (some .int), Cond.methodLink RX4 127 yX4_streetNight, Cond.methodLink RX4 98 yX4_at, Cond.methodLink RX4 143 yX2_creditsOf, Cond.instanceMethod yX2_creditsOf, Cond.selects RX2 yX2_creditsOf yX2_creditsOf, Cond.code yX2_creditsOf cX2_creditsOf 4 (some .int), Cond.fieldLink RX2 34 "CranePermits$Site" "received" "[I", Cond.fieldLink RX2 37 "CranePermits$Site" "given" "[I", Cond.methodLink RX2 99 yX2_allowanceOf, Cond.methodLink RX4 146 yX2_usedOf, Cond.instanceMethod yX2_usedOf, Cond.selects RX2 yX2_usedOf yX2_usedOf, Cond.code yX2_usedOf cX2_usedOf 6 (some .int), Cond.fieldLink RX2 55 "CranePermits$Site" "validCount" "I", Cond.fieldLink RX2 113 "CranePermits$Permit" "crane" "LCranePermits$Crane;", Cond.fieldLink RX2 117 "CranePermits$Permit" "hours" "I", Cond.methodLink RX2 105 yX2_validAt, Cond.instanceMethod yX2_validAt, Cond.selects RX2 yX2_validAt yX2_validAt, Cond.code yX2_validAt cX2_validAt 3 (some (.object "CranePermits$Permit")), Cond.fieldLink RX2 52 "CranePermits$Site" "valid" "[LCranePermits$Permit;", Cond.methodLink RX2 109 yX1_isOf, Cond.instanceMethod yX1_isOf]
def wsX4_street_r3 : List Cond := [Cond.selects RX1 yX1_isOf yX1_isOf, Cond.initialized RX1, Cond.code yX1_isOf cX1_isOf 3 (some .boolean), Cond.fieldLink RX1 13 "CranePermits$Permit" "crane" "LCranePermits$Crane;", Cond.fieldLink RX1 35 "CranePermits$Crane" "street" "I", Cond.fieldLink RX1 17 "CranePermits$Permit" "night" "I", Cond.methodLink RX2 120 yX2_useOf, Cond.instanceMethod yX2_useOf, Cond.selects RX2 yX2_useOf yX2_useOf, Cond.code yX2_useOf cX2_useOf 3 (some .int), Cond.fieldLink RX2 21 "CranePermits$Site" "noises" "[I", Cond.fieldLink RX2 102 "CranePermits$Crane" "number" "I", Cond.methodLink RX4 149 yX2_validOfStreet, Cond.instanceMethod yX2_validOfStreet, Cond.selects RX2 yX2_validOfStreet yX2_validOfStreet, Cond.code yX2_validOfStreet cX2_validOfStreet 6 (some .int)]
def wsX4_street : List Cond := .code yX4_street cX4_street 4 (some .int) :: ((wsX4_street_r1 ++ (wsX4_street_r2 ++ wsX4_street_r3)) ++ wsX40 ++ wsX20 ++ wsX10 ++ wsX00)
def wsX4_count_r1 : List Cond := [Cond.fieldLink RX4 10 "CranePermits" "now" "LCranePermits$Site;", Cond.fieldLink RX4 49 "CranePermits$Site" "craneCount" "I", Cond.fieldLink RX4 152 "CranePermits$Site" "validCount" "I", Cond.fieldLink RX4 155 "CranePermits$Site" "permitCount" "I", Cond.fieldLink RX4 23 "CranePermits" "pastCount" "I", Cond.fieldLink RX4 30 "CranePermits" "text" "LCranePermits$Text;", Cond.fieldLink RX4 168 "CranePermits$Text" "length" "I", Cond.fieldLink RX4 115 "CranePermits$Site" "settings" "[I", Cond.methodLink RX4 158 yX2_permitsWith, Cond.instanceMethod yX2_permitsWith, Cond.selects RX2 yX2_permitsWith yX2_permitsWith, Cond.initialized RX2, Cond.code yX2_permitsWith cX2_permitsWith 4 (some .int), Cond.fieldLink RX2 46 "CranePermits$Site" "permitCount" "I", Cond.fieldLink RX2 49 "CranePermits$Site" "states" "[I", Cond.static yX4_at, Cond.initialized RX4, Cond.code yX4_at cX4_at 2 (some .int), Cond.methodLink RX4 162 yX2_usedByAll, Cond.instanceMethod yX2_usedByAll, Cond.selects RX2 yX2_usedByAll yX2_usedByAll, Cond.code yX2_usedByAll cX2_usedByAll 4 (some .int), Cond.fieldLink RX2 55 "CranePermits$Site" "validCount" "I", Cond.fieldLink RX2 113 "CranePermits$Permit" "crane" "LCranePermits$Crane;"]
def wsX4_count_r2 : List Cond := [Cond.fieldLink RX2 117 "CranePermits$Permit" "hours" "I", Cond.methodLink RX2 105 yX2_validAt, Cond.instanceMethod yX2_validAt, Cond.selects RX2 yX2_validAt yX2_validAt, Cond.code yX2_validAt cX2_validAt 3 (some (.object "CranePermits$Permit")), Cond.fieldLink RX2 52 "CranePermits$Site" "valid" "[LCranePermits$Permit;", Cond.methodLink RX2 120 yX2_useOf, Cond.instanceMethod yX2_useOf, Cond.selects RX2 yX2_useOf yX2_useOf, Cond.code yX2_useOf cX2_useOf 3 (some .int), Cond.fieldLink RX2 21 "CranePermits$Site" "noises" "[I", Cond.fieldLink RX2 102 "CranePermits$Crane" "number" "I", Cond.methodLink RX4 165 yX2_sharingPairs, Cond.instanceMethod yX2_sharingPairs, Cond.selects RX2 yX2_sharingPairs yX2_sharingPairs, Cond.code yX2_sharingPairs cX2_sharingPairs 6 (some .int), Cond.fieldLink RX2 159 "CranePermits$Permit" "night" "I", Cond.fieldLink RX2 151 "CranePermits$Permit" "swing" "I", Cond.methodLink RX2 154 yX2_shareAir, Cond.instanceMethod yX2_shareAir, Cond.selects RX2 yX2_shareAir yX2_shareAir, Cond.code yX2_shareAir cX2_shareAir 8 (some .boolean), Cond.fieldLink RX2 88 "CranePermits$Crane" "height" "I", Cond.methodLink RX2 141 Lib.Math.abs.name]
def wsX4_count_r3 : List Cond := [Cond.static Lib.Math.abs.name, Cond.initialized "java/lang/Math", Cond.code Lib.Math.abs.name Lib.Math.abs.code 1 (some .int), Cond.fieldLink RX2 25 "CranePermits$Site" "settings" "[I", Cond.methodLink RX2 130 yX1_isFor, Cond.instanceMethod yX1_isFor, Cond.selects RX1 yX1_isFor yX1_isFor, Cond.initialized RX1, Cond.code yX1_isFor cX1_isFor 2 (some .boolean), Cond.fieldLink RX1 13 "CranePermits$Permit" "crane" "LCranePermits$Crane;", Cond.fieldLink RX1 32 "CranePermits$Crane" "number" "I", Cond.methodLink RX2 138 yX1_meets, Cond.instanceMethod yX1_meets, Cond.selects RX1 yX1_meets yX1_meets, Cond.code yX1_meets cX1_meets 5 (some .boolean), Cond.fieldLink RX1 26 "CranePermits$Permit" "last" "I", Cond.fieldLink RX1 23 "CranePermits$Permit" "first" "I", Cond.fieldLink RX1 17 "CranePermits$Permit" "night" "I", Cond.methodLink RX2 147 yX0_airOf, Cond.instanceMethod yX0_airOf, Cond.selects RX0 yX0_airOf yX0_airOf, Cond.initialized RX0, Cond.code yX0_airOf cX0_airOf 8 (some .long), Cond.fieldLink RX0 9 "CranePermits$Crane" "eighths" "[J"]
def wsX4_count_r4 : List Cond := [Cond.methodLink RX4 98 yX4_at]
def wsX4_count : List Cond := .code yX4_count cX4_count 2 (some .int) :: ((wsX4_count_r1 ++ (wsX4_count_r2 ++ (wsX4_count_r3 ++ wsX4_count_r4))) ++ wsX40 ++ wsX20 ++ wsX30 ++ wsX10 ++ wsX00)
def wsX4_undo_r1 : List Cond := [Cond.fieldLink RX4 23 "CranePermits" "pastCount" "I", Cond.fieldLink RX4 19 "CranePermits" "past" "[LCranePermits$Site;", Cond.fieldLink RX4 10 "CranePermits" "now" "LCranePermits$Site;", Cond.methodLink RX4 171 yX2_copyFrom, Cond.instanceMethod yX2_copyFrom, Cond.selects RX2 yX2_copyFrom yX2_copyFrom, Cond.initialized RX2, Cond.code yX2_copyFrom cX2_copyFrom 2 none, Cond.fieldLink RX2 11 "CranePermits$Site" "cranes" "[LCranePermits$Crane;", Cond.methodLink RX2 64 arraycopyName, Cond.native arraycopyName, Cond.static arraycopyName, Cond.initialized "java/lang/System", Cond.fieldLink RX2 17 "CranePermits$Site" "craneCount" "I", Cond.fieldLink RX2 21 "CranePermits$Site" "noises" "[I", Cond.fieldLink RX2 25 "CranePermits$Site" "settings" "[I", Cond.fieldLink RX2 28 "CranePermits$Site" "winds" "[I", Cond.fieldLink RX2 31 "CranePermits$Site" "allowances" "[I", Cond.fieldLink RX2 34 "CranePermits$Site" "received" "[I", Cond.fieldLink RX2 37 "CranePermits$Site" "given" "[I", Cond.fieldLink RX2 42 "CranePermits$Site" "permits" "[LCranePermits$Permit;", Cond.fieldLink RX2 46 "CranePermits$Site" "permitCount" "I", Cond.fieldLink RX2 49 "CranePermits$Site" "states" "[I", Cond.fieldLink RX2 52 "CranePermits$Site" "valid" "[LCranePermits$Permit;"]
def wsX4_undo_r2 : List Cond := [Cond.fieldLink RX2 55 "CranePermits$Site" "validCount" "I"]
def wsX4_undo : List Cond := .code yX4_undo cX4_undo 1 (some .int) :: ((wsX4_undo_r1 ++ wsX4_undo_r2) ++ wsX40 ++ wsX20)
def wsX4_isSwing : List Cond := .code yX4_isSwing cX4_isSwing 1 (some .boolean) :: ([.methodLink RX4 38 yX4_isIn, .static yX4_isIn, .initialized RX4, .code yX4_isIn cX4_isIn 3 (some .boolean)])
def wsX4_covers : List Cond := .code yX4_covers cX4_covers 9 (some .int) :: ([.fieldLink RX4 10 "CranePermits" "now" "LCranePermits$Site;", .methodLink RX4 67 yX2_craneAt, .instanceMethod yX2_craneAt, .selects RX2 yX2_craneAt yX2_craneAt, .initialized RX2, .code yX2_craneAt cX2_craneAt 3 (some (.object "CranePermits$Crane")), .fieldLink RX2 17 "CranePermits$Site" "craneCount" "I", .fieldLink RX2 11 "CranePermits$Site" "cranes" "[LCranePermits$Crane;", .methodLink RX4 175 yX4_isSwing, .static yX4_isSwing, .initialized RX4, .code yX4_isSwing cX4_isSwing 1 (some .boolean), .methodLink RX4 38 yX4_isIn, .static yX4_isIn, .code yX4_isIn cX4_isIn 3 (some .boolean), .methodLink RX4 34 yX4_isCell, .static yX4_isCell, .code yX4_isCell cX4_isCell 2 (some .boolean), .methodLink RX4 178 yX0_airOf, .instanceMethod yX0_airOf, .selects RX0 yX0_airOf yX0_airOf, .initialized RX0, .code yX0_airOf cX0_airOf 8 (some .long), .fieldLink RX0 9 "CranePermits$Crane" "eighths" "[J"] ++ wsX40 ++ wsX20 ++ wsX00)
def wsJ13_bitCount_95d88 : List Cond := .code yJ13_bitCount_95d88 cJ13_bitCount_95d88 2 (some .int) :: ([.constantLong RJ13 314 (6148914691236517205), .constantLong RJ13 316 (3689348814741910323), .constantLong RJ13 318 (1085102592571150095)])
def wsX4_area_r1 : List Cond := [Cond.fieldLink RX4 10 "CranePermits" "now" "LCranePermits$Site;", Cond.methodLink RX4 67 yX2_craneAt, Cond.instanceMethod yX2_craneAt, Cond.selects RX2 yX2_craneAt yX2_craneAt, Cond.initialized RX2, Cond.code yX2_craneAt cX2_craneAt 3 (some (.object "CranePermits$Crane")), Cond.fieldLink RX2 17 "CranePermits$Site" "craneCount" "I", Cond.fieldLink RX2 11 "CranePermits$Site" "cranes" "[LCranePermits$Crane;", Cond.methodLink RX4 175 yX4_isSwing, Cond.static yX4_isSwing, Cond.initialized RX4, Cond.code yX4_isSwing cX4_isSwing 1 (some .boolean), Cond.methodLink RX4 38 yX4_isIn, Cond.static yX4_isIn, Cond.code yX4_isIn cX4_isIn 3 (some .boolean), Cond.methodLink RX4 178 yX0_airOf, Cond.instanceMethod yX0_airOf, Cond.selects RX0 yX0_airOf yX0_airOf, Cond.initialized RX0, Cond.code yX0_airOf cX0_airOf 8 (some .long), Cond.fieldLink RX0 9 "CranePermits$Crane" "eighths" "[J", Cond.methodLink RX4 182 yJ13_bitCount_95d88, Cond.static yJ13_bitCount_95d88, Cond.initialized RJ13]
def wsX4_area_r2 : List Cond := [Cond.code yJ13_bitCount_95d88 cJ13_bitCount_95d88 2 (some .int), Cond.constantLong RJ13 314 (6148914691236517205), Cond.constantLong RJ13 316 (3689348814741910323), Cond.constantLong RJ13 318 (1085102592571150095)]
def wsX4_area : List Cond := .code yX4_area cX4_area 6 (some .int) :: ((wsX4_area_r1 ++ wsX4_area_r2) ++ wsX40 ++ wsX20 ++ wsX00)
def wsX4_isPlan : List Cond := .code yX4_isPlan cX4_isPlan 3 (some .boolean) :: ([.methodLink RX4 118 yX4_isNight, .static yX4_isNight, .initialized RX4, .code yX4_isNight cX4_isNight 1 (some .boolean), .methodLink RX4 38 yX4_isIn, .static yX4_isIn, .code yX4_isIn cX4_isIn 3 (some .boolean), .methodLink RX4 175 yX4_isSwing, .static yX4_isSwing, .code yX4_isSwing cX4_isSwing 1 (some .boolean)])
def wsX4_refusal_r1 : List Cond := [Cond.fieldLink RX4 10 "CranePermits" "now" "LCranePermits$Site;", Cond.methodLink RX4 67 yX2_craneAt, Cond.instanceMethod yX2_craneAt, Cond.selects RX2 yX2_craneAt yX2_craneAt, Cond.initialized RX2, Cond.code yX2_craneAt cX2_craneAt 3 (some (.object "CranePermits$Crane")), Cond.fieldLink RX2 17 "CranePermits$Site" "craneCount" "I", Cond.fieldLink RX2 11 "CranePermits$Site" "cranes" "[LCranePermits$Crane;", Cond.methodLink RX4 188 yX4_isPlan, Cond.static yX4_isPlan, Cond.initialized RX4, Cond.code yX4_isPlan cX4_isPlan 3 (some .boolean), Cond.methodLink RX4 118 yX4_isNight, Cond.static yX4_isNight, Cond.code yX4_isNight cX4_isNight 1 (some .boolean), Cond.methodLink RX4 38 yX4_isIn, Cond.static yX4_isIn, Cond.code yX4_isIn cX4_isIn 3 (some .boolean), Cond.methodLink RX4 175 yX4_isSwing, Cond.static yX4_isSwing, Cond.code yX4_isSwing cX4_isSwing 1 (some .boolean), Cond.methodLink RX4 191 yX2_refusalOf, Cond.instanceMethod yX2_refusalOf, Cond.selects RX2 yX2_refusalOf yX2_refusalOf]
def wsX4_refusal_r2 : List Cond := [Cond.code yX2_refusalOf cX2_refusalOf 6 (some .int), Cond.fieldLink RX2 174 "CranePermits$Crane" "street" "I", Cond.methodLink RX2 162 yX2_isBusy, Cond.instanceMethod yX2_isBusy, Cond.selects RX2 yX2_isBusy yX2_isBusy, Cond.code yX2_isBusy cX2_isBusy 6 (some .boolean), Cond.fieldLink RX2 55 "CranePermits$Site" "validCount" "I", Cond.methodLink RX2 105 yX2_validAt, Cond.instanceMethod yX2_validAt, Cond.selects RX2 yX2_validAt yX2_validAt, Cond.code yX2_validAt cX2_validAt 3 (some (.object "CranePermits$Permit")), Cond.fieldLink RX2 52 "CranePermits$Site" "valid" "[LCranePermits$Permit;", Cond.methodLink RX2 130 yX1_isFor, Cond.instanceMethod yX1_isFor, Cond.selects RX1 yX1_isFor yX1_isFor, Cond.initialized RX1, Cond.code yX1_isFor cX1_isFor 2 (some .boolean), Cond.fieldLink RX1 13 "CranePermits$Permit" "crane" "LCranePermits$Crane;", Cond.fieldLink RX1 32 "CranePermits$Crane" "number" "I", Cond.methodLink RX2 138 yX1_meets, Cond.instanceMethod yX1_meets, Cond.selects RX1 yX1_meets yX1_meets, Cond.code yX1_meets cX1_meets 5 (some .boolean), Cond.fieldLink RX1 26 "CranePermits$Permit" "last" "I"]
def wsX4_refusal_r3 : List Cond := [Cond.fieldLink RX1 23 "CranePermits$Permit" "first" "I", Cond.fieldLink RX1 17 "CranePermits$Permit" "night" "I", Cond.methodLink RX2 166 yX2_mustStop, Cond.instanceMethod yX2_mustStop, Cond.selects RX2 yX2_mustStop yX2_mustStop, Cond.code yX2_mustStop cX2_mustStop 3 (some .boolean), Cond.fieldLink RX2 28 "CranePermits$Site" "winds" "[I", Cond.static yX4_at, Cond.code yX4_at cX4_at 2 (some .int), Cond.methodLink RX2 91 yX2_stopWindOf, Cond.instanceMethod yX2_stopWindOf, Cond.selects RX2 yX2_stopWindOf yX2_stopWindOf, Cond.code yX2_stopWindOf cX2_stopWindOf 2 (some .int), Cond.fieldLink RX2 25 "CranePermits$Site" "settings" "[I", Cond.fieldLink RX2 88 "CranePermits$Crane" "height" "I", Cond.methodLink RX2 170 yX2_lowestSharing, Cond.instanceMethod yX2_lowestSharing, Cond.selects RX2 yX2_lowestSharing yX2_lowestSharing, Cond.code yX2_lowestSharing cX2_lowestSharing 7 (some .int), Cond.fieldLink RX2 158 "CranePermits$Permit" "number" "I", Cond.methodLink RX2 154 yX2_shareAir, Cond.instanceMethod yX2_shareAir, Cond.selects RX2 yX2_shareAir yX2_shareAir, Cond.code yX2_shareAir cX2_shareAir 8 (some .boolean)]
def wsX4_refusal_r4 : List Cond := [Cond.fieldLink RX2 113 "CranePermits$Permit" "crane" "LCranePermits$Crane;", Cond.methodLink RX2 141 Lib.Math.abs.name, Cond.static Lib.Math.abs.name, Cond.initialized "java/lang/Math", Cond.code Lib.Math.abs.name Lib.Math.abs.code 1 (some .int), Cond.fieldLink RX2 151 "CranePermits$Permit" "swing" "I", Cond.methodLink RX2 147 yX0_airOf, Cond.instanceMethod yX0_airOf, Cond.selects RX0 yX0_airOf yX0_airOf, Cond.initialized RX0, Cond.code yX0_airOf cX0_airOf 8 (some .long), Cond.fieldLink RX0 9 "CranePermits$Crane" "eighths" "[J", Cond.methodLink RX2 127 yX2_usedOf, Cond.instanceMethod yX2_usedOf, Cond.selects RX2 yX2_usedOf yX2_usedOf, Cond.code yX2_usedOf cX2_usedOf 6 (some .int), Cond.fieldLink RX2 117 "CranePermits$Permit" "hours" "I", Cond.methodLink RX2 109 yX1_isOf, Cond.instanceMethod yX1_isOf, Cond.selects RX1 yX1_isOf yX1_isOf, Cond.code yX1_isOf cX1_isOf 3 (some .boolean), Cond.fieldLink RX1 35 "CranePermits$Crane" "street" "I", Cond.methodLink RX2 120 yX2_useOf, Cond.instanceMethod yX2_useOf]
def wsX4_refusal_r5 : List Cond := [Cond.selects RX2 yX2_useOf yX2_useOf, Cond.code yX2_useOf cX2_useOf 3 (some .int), Cond.fieldLink RX2 21 "CranePermits$Site" "noises" "[I", Cond.fieldLink RX2 102 "CranePermits$Crane" "number" "I", Cond.methodLink RX2 124 yX2_creditsOf, Cond.instanceMethod yX2_creditsOf, Cond.selects RX2 yX2_creditsOf yX2_creditsOf, Cond.code yX2_creditsOf cX2_creditsOf 4 (some .int), Cond.fieldLink RX2 34 "CranePermits$Site" "received" "[I", Cond.fieldLink RX2 37 "CranePermits$Site" "given" "[I", Cond.static yX4_streetNight, Cond.code yX4_streetNight cX4_streetNight 2 (some .int), Cond.methodLink RX2 99 yX2_allowanceOf, Cond.instanceMethod yX2_allowanceOf, Cond.selects RX2 yX2_allowanceOf yX2_allowanceOf, Cond.code yX2_allowanceOf cX2_allowanceOf 4 (some .int), Cond.fieldLink RX2 31 "CranePermits$Site" "allowances" "[I"]
def wsX4_refusal : List Cond := .code yX4_refusal cX4_refusal 6 (some .int) :: ((wsX4_refusal_r1 ++ (wsX4_refusal_r2 ++ (wsX4_refusal_r3 ++ (wsX4_refusal_r4 ++ wsX4_refusal_r5)))) ++ wsX40 ++ wsX20 ++ wsX00 ++ wsX10)
def wsX4_apply_r1 : List Cond := [Cond.fieldLink RX4 10 "CranePermits" "now" "LCranePermits$Site;", Cond.classLink RX4 199 RX1, Cond.instantiable RX1 7, Cond.initialized RX1, Cond.fieldLink RX4 155 "CranePermits$Site" "permitCount" "I", Cond.fieldLink RX4 208 "CranePermits$Permit" "number" "I", Cond.methodLink RX4 67 yX2_craneAt, Cond.instanceMethod yX2_craneAt, Cond.selects RX2 yX2_craneAt yX2_craneAt, Cond.initialized RX2, Cond.code yX2_craneAt cX2_craneAt 3 (some (.object "CranePermits$Crane")), Cond.fieldLink RX2 17 "CranePermits$Site" "craneCount" "I", Cond.fieldLink RX2 11 "CranePermits$Site" "cranes" "[LCranePermits$Crane;", Cond.methodLink RX4 188 yX4_isPlan, Cond.static yX4_isPlan, Cond.initialized RX4, Cond.code yX4_isPlan cX4_isPlan 3 (some .boolean), Cond.methodLink RX4 118 yX4_isNight, Cond.static yX4_isNight, Cond.code yX4_isNight cX4_isNight 1 (some .boolean), Cond.methodLink RX4 38 yX4_isIn, Cond.static yX4_isIn, Cond.code yX4_isIn cX4_isIn 3 (some .boolean), Cond.methodLink RX4 175 yX4_isSwing]
def wsX4_apply_r2 : List Cond := [Cond.static yX4_isSwing, Cond.code yX4_isSwing cX4_isSwing 1 (some .boolean), Cond.methodLink RX4 191 yX2_refusalOf, Cond.instanceMethod yX2_refusalOf, Cond.selects RX2 yX2_refusalOf yX2_refusalOf, Cond.code yX2_refusalOf cX2_refusalOf 6 (some .int), Cond.fieldLink RX2 174 "CranePermits$Crane" "street" "I", Cond.methodLink RX2 162 yX2_isBusy, Cond.instanceMethod yX2_isBusy, Cond.selects RX2 yX2_isBusy yX2_isBusy, Cond.code yX2_isBusy cX2_isBusy 6 (some .boolean), Cond.fieldLink RX2 55 "CranePermits$Site" "validCount" "I", Cond.methodLink RX2 105 yX2_validAt, Cond.instanceMethod yX2_validAt, Cond.selects RX2 yX2_validAt yX2_validAt, Cond.code yX2_validAt cX2_validAt 3 (some (.object "CranePermits$Permit")), Cond.fieldLink RX2 52 "CranePermits$Site" "valid" "[LCranePermits$Permit;", Cond.methodLink RX2 130 yX1_isFor, Cond.instanceMethod yX1_isFor, Cond.selects RX1 yX1_isFor yX1_isFor, Cond.code yX1_isFor cX1_isFor 2 (some .boolean), Cond.fieldLink RX1 13 "CranePermits$Permit" "crane" "LCranePermits$Crane;", Cond.fieldLink RX1 32 "CranePermits$Crane" "number" "I", Cond.methodLink RX2 138 yX1_meets]
def wsX4_apply_r3 : List Cond := [Cond.instanceMethod yX1_meets, Cond.selects RX1 yX1_meets yX1_meets, Cond.code yX1_meets cX1_meets 5 (some .boolean), Cond.fieldLink RX1 26 "CranePermits$Permit" "last" "I", Cond.fieldLink RX1 23 "CranePermits$Permit" "first" "I", Cond.fieldLink RX1 17 "CranePermits$Permit" "night" "I", Cond.methodLink RX2 166 yX2_mustStop, Cond.instanceMethod yX2_mustStop, Cond.selects RX2 yX2_mustStop yX2_mustStop, Cond.code yX2_mustStop cX2_mustStop 3 (some .boolean), Cond.fieldLink RX2 28 "CranePermits$Site" "winds" "[I", Cond.static yX4_at, Cond.code yX4_at cX4_at 2 (some .int), Cond.methodLink RX2 91 yX2_stopWindOf, Cond.instanceMethod yX2_stopWindOf, Cond.selects RX2 yX2_stopWindOf yX2_stopWindOf, Cond.code yX2_stopWindOf cX2_stopWindOf 2 (some .int), Cond.fieldLink RX2 25 "CranePermits$Site" "settings" "[I", Cond.fieldLink RX2 88 "CranePermits$Crane" "height" "I", Cond.methodLink RX2 170 yX2_lowestSharing, Cond.instanceMethod yX2_lowestSharing, Cond.selects RX2 yX2_lowestSharing yX2_lowestSharing, Cond.code yX2_lowestSharing cX2_lowestSharing 7 (some .int), Cond.fieldLink RX2 158 "CranePermits$Permit" "number" "I"]
def wsX4_apply_r4 : List Cond := [Cond.methodLink RX2 154 yX2_shareAir, Cond.instanceMethod yX2_shareAir, Cond.selects RX2 yX2_shareAir yX2_shareAir, Cond.code yX2_shareAir cX2_shareAir 8 (some .boolean), Cond.fieldLink RX2 113 "CranePermits$Permit" "crane" "LCranePermits$Crane;", Cond.methodLink RX2 141 Lib.Math.abs.name, Cond.static Lib.Math.abs.name, Cond.initialized "java/lang/Math", Cond.code Lib.Math.abs.name Lib.Math.abs.code 1 (some .int), Cond.fieldLink RX2 151 "CranePermits$Permit" "swing" "I", Cond.methodLink RX2 147 yX0_airOf, Cond.instanceMethod yX0_airOf, Cond.selects RX0 yX0_airOf yX0_airOf, Cond.initialized RX0, Cond.code yX0_airOf cX0_airOf 8 (some .long), Cond.fieldLink RX0 9 "CranePermits$Crane" "eighths" "[J", Cond.methodLink RX2 127 yX2_usedOf, Cond.instanceMethod yX2_usedOf, Cond.selects RX2 yX2_usedOf yX2_usedOf, Cond.code yX2_usedOf cX2_usedOf 6 (some .int), Cond.fieldLink RX2 117 "CranePermits$Permit" "hours" "I", Cond.methodLink RX2 109 yX1_isOf, Cond.instanceMethod yX1_isOf, Cond.selects RX1 yX1_isOf yX1_isOf]
def wsX4_apply_r5 : List Cond := [Cond.code yX1_isOf cX1_isOf 3 (some .boolean), Cond.fieldLink RX1 35 "CranePermits$Crane" "street" "I", Cond.methodLink RX2 120 yX2_useOf, Cond.instanceMethod yX2_useOf, Cond.selects RX2 yX2_useOf yX2_useOf, Cond.code yX2_useOf cX2_useOf 3 (some .int), Cond.fieldLink RX2 21 "CranePermits$Site" "noises" "[I", Cond.fieldLink RX2 102 "CranePermits$Crane" "number" "I", Cond.methodLink RX2 124 yX2_creditsOf, Cond.instanceMethod yX2_creditsOf, Cond.selects RX2 yX2_creditsOf yX2_creditsOf, Cond.code yX2_creditsOf cX2_creditsOf 4 (some .int), Cond.fieldLink RX2 34 "CranePermits$Site" "received" "[I", Cond.fieldLink RX2 37 "CranePermits$Site" "given" "[I", Cond.static yX4_streetNight, Cond.code yX4_streetNight cX4_streetNight 2 (some .int), Cond.methodLink RX2 99 yX2_allowanceOf, Cond.instanceMethod yX2_allowanceOf, Cond.selects RX2 yX2_allowanceOf yX2_allowanceOf, Cond.code yX2_allowanceOf cX2_allowanceOf 4 (some .int), Cond.fieldLink RX2 31 "CranePermits$Site" "allowances" "[I", Cond.methodLink RX4 195 yX2_hasRoom, Cond.instanceMethod yX2_hasRoom, Cond.selects RX2 yX2_hasRoom yX2_hasRoom]
def wsX4_apply_r6 : List Cond := [Cond.code yX2_hasRoom cX2_hasRoom 1 (some .boolean), Cond.fieldLink RX2 46 "CranePermits$Site" "permitCount" "I", Cond.methodLink RX4 52 yX4_remember, Cond.instanceMethod yX4_remember, Cond.selects RX4 yX4_remember yX4_remember, Cond.code yX4_remember cX4_remember 2 none, Cond.fieldLink RX4 23 "CranePermits" "pastCount" "I", Cond.fieldLink RX4 19 "CranePermits" "past" "[LCranePermits$Site;", Cond.methodLink RX4 261 arraycopyName, Cond.native arraycopyName, Cond.static arraycopyName, Cond.initialized "java/lang/System", Cond.methodLink RX4 171 yX2_copyFrom, Cond.instanceMethod yX2_copyFrom, Cond.selects RX2 yX2_copyFrom yX2_copyFrom, Cond.code yX2_copyFrom cX2_copyFrom 2 none, Cond.methodLink RX2 64 arraycopyName, Cond.fieldLink RX2 42 "CranePermits$Site" "permits" "[LCranePermits$Permit;", Cond.fieldLink RX2 49 "CranePermits$Site" "states" "[I", Cond.methodLink RX4 201 yX1_init, Cond.instanceMethod yX1_init, Cond.code yX1_init cX1_init 6 none, Cond.methodLink RX1 1 objectInit, Cond.instanceMethod objectInit]
def wsX4_apply_r7 : List Cond := [Cond.code objectInit ⟨#[0xb1]⟩ 1 none, Cond.fieldLink RX1 7 "CranePermits$Permit" "number" "I", Cond.fieldLink RX1 20 "CranePermits$Permit" "hours" "I", Cond.fieldLink RX1 29 "CranePermits$Permit" "swing" "I", Cond.methodLink RX4 204 yX2_grant, Cond.instanceMethod yX2_grant, Cond.selects RX2 yX2_grant yX2_grant, Cond.code yX2_grant cX2_grant 2 none, Cond.static yX4_put, Cond.code yX4_put cX4_put 3 none]
def wsX4_apply : List Cond := .code yX4_apply cX4_apply 7 (some .int) :: ((wsX4_apply_r1 ++ (wsX4_apply_r2 ++ (wsX4_apply_r3 ++ (wsX4_apply_r4 ++ (wsX4_apply_r5 ++ (wsX4_apply_r6 ++ wsX4_apply_r7)))))) ++ wsX40 ++ wsX10 ++ wsX20 ++ wsX00)
def wsX4_withdraw_r1 : List Cond := [Cond.fieldLink RX4 10 "CranePermits" "now" "LCranePermits$Site;", Cond.fieldLink RX4 213 "CranePermits$Site" "states" "[I", Cond.fieldLink RX4 208 "CranePermits$Permit" "number" "I", Cond.fieldLink RX4 220 "CranePermits$Permit" "crane" "LCranePermits$Crane;", Cond.fieldLink RX4 224 "CranePermits$Permit" "hours" "I", Cond.methodLink RX4 209 yX2_permitAt, Cond.instanceMethod yX2_permitAt, Cond.selects RX2 yX2_permitAt yX2_permitAt, Cond.initialized RX2, Cond.code yX2_permitAt cX2_permitAt 3 (some (.object "CranePermits$Permit")), Cond.fieldLink RX2 46 "CranePermits$Site" "permitCount" "I", Cond.fieldLink RX2 42 "CranePermits$Site" "permits" "[LCranePermits$Permit;", Cond.methodLink RX4 98 yX4_at, Cond.static yX4_at, Cond.initialized RX4, Cond.code yX4_at cX4_at 2 (some .int), Cond.methodLink RX4 52 yX4_remember, Cond.instanceMethod yX4_remember, Cond.selects RX4 yX4_remember yX4_remember, Cond.code yX4_remember cX4_remember 2 none, Cond.fieldLink RX4 23 "CranePermits" "pastCount" "I", Cond.fieldLink RX4 19 "CranePermits" "past" "[LCranePermits$Site;", Cond.methodLink RX4 261 arraycopyName, Cond.native arraycopyName]
def wsX4_withdraw_r2 : List Cond := [Cond.static arraycopyName, Cond.initialized "java/lang/System", Cond.methodLink RX4 171 yX2_copyFrom, Cond.instanceMethod yX2_copyFrom, Cond.selects RX2 yX2_copyFrom yX2_copyFrom, Cond.code yX2_copyFrom cX2_copyFrom 2 none, Cond.fieldLink RX2 11 "CranePermits$Site" "cranes" "[LCranePermits$Crane;", Cond.methodLink RX2 64 arraycopyName, Cond.fieldLink RX2 17 "CranePermits$Site" "craneCount" "I", Cond.fieldLink RX2 21 "CranePermits$Site" "noises" "[I", Cond.fieldLink RX2 25 "CranePermits$Site" "settings" "[I", Cond.fieldLink RX2 28 "CranePermits$Site" "winds" "[I", Cond.fieldLink RX2 31 "CranePermits$Site" "allowances" "[I", Cond.fieldLink RX2 34 "CranePermits$Site" "received" "[I", Cond.fieldLink RX2 37 "CranePermits$Site" "given" "[I", Cond.fieldLink RX2 49 "CranePermits$Site" "states" "[I", Cond.fieldLink RX2 52 "CranePermits$Site" "valid" "[LCranePermits$Permit;", Cond.fieldLink RX2 55 "CranePermits$Site" "validCount" "I", Cond.methodLink RX4 216 yX2_end, Cond.instanceMethod yX2_end, Cond.selects RX2 yX2_end yX2_end, Cond.code yX2_end cX2_end 6 none, Cond.fieldLink RX2 158 "CranePermits$Permit" "number" "I", Cond.static yX4_put]
def wsX4_withdraw_r3 : List Cond := [Cond.code yX4_put cX4_put 3 none, Cond.methodLink RX4 227 yX2_useOf, Cond.instanceMethod yX2_useOf, Cond.selects RX2 yX2_useOf yX2_useOf, Cond.code yX2_useOf cX2_useOf 3 (some .int), Cond.fieldLink RX2 102 "CranePermits$Crane" "number" "I"]
def wsX4_withdraw : List Cond := .code yX4_withdraw cX4_withdraw 3 (some .int) :: ((wsX4_withdraw_r1 ++ (wsX4_withdraw_r2 ++ wsX4_withdraw_r3)) ++ wsX40 ++ wsX20 ++ wsX10 ++ wsX00)
def wsX4_permit_r1 : List Cond := [Cond.fieldLink RX4 10 "CranePermits" "now" "LCranePermits$Site;", Cond.fieldLink RX4 220 "CranePermits$Permit" "crane" "LCranePermits$Crane;", Cond.fieldLink RX4 64 "CranePermits$Crane" "number" "I", Cond.fieldLink RX4 231 "CranePermits$Permit" "night" "I", Cond.fieldLink RX4 224 "CranePermits$Permit" "hours" "I", Cond.fieldLink RX4 234 "CranePermits$Permit" "swing" "I", Cond.fieldLink RX4 213 "CranePermits$Site" "states" "[I", Cond.fieldLink RX4 208 "CranePermits$Permit" "number" "I", Cond.methodLink RX4 209 yX2_permitAt, Cond.instanceMethod yX2_permitAt, Cond.selects RX2 yX2_permitAt yX2_permitAt, Cond.initialized RX2, Cond.code yX2_permitAt cX2_permitAt 3 (some (.object "CranePermits$Permit")), Cond.fieldLink RX2 46 "CranePermits$Site" "permitCount" "I", Cond.fieldLink RX2 42 "CranePermits$Site" "permits" "[LCranePermits$Permit;", Cond.methodLink RX4 227 yX2_useOf, Cond.instanceMethod yX2_useOf, Cond.selects RX2 yX2_useOf yX2_useOf, Cond.code yX2_useOf cX2_useOf 3 (some .int), Cond.fieldLink RX2 21 "CranePermits$Site" "noises" "[I", Cond.fieldLink RX2 102 "CranePermits$Crane" "number" "I", Cond.static yX4_at, Cond.initialized RX4, Cond.code yX4_at cX4_at 2 (some .int)]
def wsX4_permit_r2 : List Cond := [Cond.methodLink RX4 98 yX4_at]
def wsX4_permit : List Cond := .code yX4_permit cX4_permit 4 (some .int) :: ((wsX4_permit_r1 ++ wsX4_permit_r2) ++ wsX40 ++ wsX10 ++ wsX00 ++ wsX20)
def wsX4_inOrder : List Cond := .code yX4_inOrder cX4_inOrder 4 (some .int) :: ([.fieldLink RX4 10 "CranePermits" "now" "LCranePermits$Site;", .fieldLink RX4 152 "CranePermits$Site" "validCount" "I", .fieldLink RX4 208 "CranePermits$Permit" "number" "I", .methodLink RX4 237 yX2_validAt, .instanceMethod yX2_validAt, .selects RX2 yX2_validAt yX2_validAt, .initialized RX2, .code yX2_validAt cX2_validAt 3 (some (.object "CranePermits$Permit")), .fieldLink RX2 55 "CranePermits$Site" "validCount" "I", .fieldLink RX2 52 "CranePermits$Site" "valid" "[LCranePermits$Permit;", .methodLink RX4 240 yX2_validAhead, .instanceMethod yX2_validAhead, .selects RX2 yX2_validAhead yX2_validAhead, .code yX2_validAhead cX2_validAhead 5 (some .int), .methodLink RX2 105 yX2_validAt, .methodLink RX2 134 yX1_isAheadOf, .instanceMethod yX1_isAheadOf, .selects RX1 yX1_isAheadOf yX1_isAheadOf, .initialized RX1, .code yX1_isAheadOf cX1_isAheadOf 2 (some .boolean), .fieldLink RX1 17 "CranePermits$Permit" "night" "I", .fieldLink RX1 23 "CranePermits$Permit" "first" "I", .fieldLink RX1 7 "CranePermits$Permit" "number" "I"] ++ wsX40 ++ wsX20 ++ wsX10)
def wsX4_shares_r1 : List Cond := [Cond.fieldLink RX4 10 "CranePermits" "now" "LCranePermits$Site;", Cond.fieldLink RX4 220 "CranePermits$Permit" "crane" "LCranePermits$Crane;", Cond.fieldLink RX4 231 "CranePermits$Permit" "night" "I", Cond.fieldLink RX4 224 "CranePermits$Permit" "hours" "I", Cond.fieldLink RX4 234 "CranePermits$Permit" "swing" "I", Cond.methodLink RX4 209 yX2_permitAt, Cond.instanceMethod yX2_permitAt, Cond.selects RX2 yX2_permitAt yX2_permitAt, Cond.initialized RX2, Cond.code yX2_permitAt cX2_permitAt 3 (some (.object "CranePermits$Permit")), Cond.fieldLink RX2 46 "CranePermits$Site" "permitCount" "I", Cond.fieldLink RX2 42 "CranePermits$Site" "permits" "[LCranePermits$Permit;", Cond.methodLink RX4 244 yX2_shareAir, Cond.instanceMethod yX2_shareAir, Cond.selects RX2 yX2_shareAir yX2_shareAir, Cond.code yX2_shareAir cX2_shareAir 8 (some .boolean), Cond.fieldLink RX2 88 "CranePermits$Crane" "height" "I", Cond.fieldLink RX2 113 "CranePermits$Permit" "crane" "LCranePermits$Crane;", Cond.methodLink RX2 141 Lib.Math.abs.name, Cond.static Lib.Math.abs.name, Cond.initialized "java/lang/Math", Cond.code Lib.Math.abs.name Lib.Math.abs.code 1 (some .int), Cond.fieldLink RX2 25 "CranePermits$Site" "settings" "[I", Cond.fieldLink RX2 151 "CranePermits$Permit" "swing" "I"]
def wsX4_shares_r2 : List Cond := [Cond.methodLink RX2 130 yX1_isFor, Cond.instanceMethod yX1_isFor, Cond.selects RX1 yX1_isFor yX1_isFor, Cond.initialized RX1, Cond.code yX1_isFor cX1_isFor 2 (some .boolean), Cond.fieldLink RX1 13 "CranePermits$Permit" "crane" "LCranePermits$Crane;", Cond.fieldLink RX1 32 "CranePermits$Crane" "number" "I", Cond.methodLink RX2 138 yX1_meets, Cond.instanceMethod yX1_meets, Cond.selects RX1 yX1_meets yX1_meets, Cond.code yX1_meets cX1_meets 5 (some .boolean), Cond.fieldLink RX1 26 "CranePermits$Permit" "last" "I", Cond.fieldLink RX1 23 "CranePermits$Permit" "first" "I", Cond.fieldLink RX1 17 "CranePermits$Permit" "night" "I", Cond.static yX4_at, Cond.initialized RX4, Cond.code yX4_at cX4_at 2 (some .int), Cond.methodLink RX2 147 yX0_airOf, Cond.instanceMethod yX0_airOf, Cond.selects RX0 yX0_airOf yX0_airOf, Cond.initialized RX0, Cond.code yX0_airOf cX0_airOf 8 (some .long), Cond.fieldLink RX0 9 "CranePermits$Crane" "eighths" "[J"]
def wsX4_shares : List Cond := .code yX4_shares cX4_shares 6 (some .int) :: ((wsX4_shares_r1 ++ wsX4_shares_r2) ++ wsX40 ++ wsX10 ++ wsX20 ++ wsX00)
def wsX4_inTheWay_r1 : List Cond := [Cond.fieldLink RX4 10 "CranePermits" "now" "LCranePermits$Site;", Cond.methodLink RX4 67 yX2_craneAt, Cond.instanceMethod yX2_craneAt, Cond.selects RX2 yX2_craneAt yX2_craneAt, Cond.initialized RX2, Cond.code yX2_craneAt cX2_craneAt 3 (some (.object "CranePermits$Crane")), Cond.fieldLink RX2 17 "CranePermits$Site" "craneCount" "I", Cond.fieldLink RX2 11 "CranePermits$Site" "cranes" "[LCranePermits$Crane;", Cond.methodLink RX4 188 yX4_isPlan, Cond.static yX4_isPlan, Cond.initialized RX4, Cond.code yX4_isPlan cX4_isPlan 3 (some .boolean), Cond.methodLink RX4 118 yX4_isNight, Cond.static yX4_isNight, Cond.code yX4_isNight cX4_isNight 1 (some .boolean), Cond.methodLink RX4 38 yX4_isIn, Cond.static yX4_isIn, Cond.code yX4_isIn cX4_isIn 3 (some .boolean), Cond.methodLink RX4 175 yX4_isSwing, Cond.static yX4_isSwing, Cond.code yX4_isSwing cX4_isSwing 1 (some .boolean), Cond.methodLink RX4 248 yX2_lowestSharing, Cond.instanceMethod yX2_lowestSharing, Cond.selects RX2 yX2_lowestSharing yX2_lowestSharing]
def wsX4_inTheWay_r2 : List Cond := [Cond.code yX2_lowestSharing cX2_lowestSharing 7 (some .int), Cond.fieldLink RX2 55 "CranePermits$Site" "validCount" "I", Cond.fieldLink RX2 158 "CranePermits$Permit" "number" "I", Cond.methodLink RX2 105 yX2_validAt, Cond.instanceMethod yX2_validAt, Cond.selects RX2 yX2_validAt yX2_validAt, Cond.code yX2_validAt cX2_validAt 3 (some (.object "CranePermits$Permit")), Cond.fieldLink RX2 52 "CranePermits$Site" "valid" "[LCranePermits$Permit;", Cond.methodLink RX2 154 yX2_shareAir, Cond.instanceMethod yX2_shareAir, Cond.selects RX2 yX2_shareAir yX2_shareAir, Cond.code yX2_shareAir cX2_shareAir 8 (some .boolean), Cond.fieldLink RX2 88 "CranePermits$Crane" "height" "I", Cond.fieldLink RX2 113 "CranePermits$Permit" "crane" "LCranePermits$Crane;", Cond.methodLink RX2 141 Lib.Math.abs.name, Cond.static Lib.Math.abs.name, Cond.initialized "java/lang/Math", Cond.code Lib.Math.abs.name Lib.Math.abs.code 1 (some .int), Cond.fieldLink RX2 25 "CranePermits$Site" "settings" "[I", Cond.fieldLink RX2 151 "CranePermits$Permit" "swing" "I", Cond.methodLink RX2 130 yX1_isFor, Cond.instanceMethod yX1_isFor, Cond.selects RX1 yX1_isFor yX1_isFor, Cond.initialized RX1]
def wsX4_inTheWay_r3 : List Cond := [Cond.code yX1_isFor cX1_isFor 2 (some .boolean), Cond.fieldLink RX1 13 "CranePermits$Permit" "crane" "LCranePermits$Crane;", Cond.fieldLink RX1 32 "CranePermits$Crane" "number" "I", Cond.methodLink RX2 138 yX1_meets, Cond.instanceMethod yX1_meets, Cond.selects RX1 yX1_meets yX1_meets, Cond.code yX1_meets cX1_meets 5 (some .boolean), Cond.fieldLink RX1 26 "CranePermits$Permit" "last" "I", Cond.fieldLink RX1 23 "CranePermits$Permit" "first" "I", Cond.fieldLink RX1 17 "CranePermits$Permit" "night" "I", Cond.static yX4_at, Cond.code yX4_at cX4_at 2 (some .int), Cond.methodLink RX2 147 yX0_airOf, Cond.instanceMethod yX0_airOf, Cond.selects RX0 yX0_airOf yX0_airOf, Cond.initialized RX0, Cond.code yX0_airOf cX0_airOf 8 (some .long), Cond.fieldLink RX0 9 "CranePermits$Crane" "eighths" "[J"]
def wsX4_inTheWay : List Cond := .code yX4_inTheWay cX4_inTheWay 7 (some .int) :: ((wsX4_inTheWay_r1 ++ (wsX4_inTheWay_r2 ++ wsX4_inTheWay_r3)) ++ wsX40 ++ wsX20 ++ wsX10 ++ wsX00)
def wsX4_firstFree_r1 : List Cond := [Cond.fieldLink RX4 10 "CranePermits" "now" "LCranePermits$Site;", Cond.methodLink RX4 67 yX2_craneAt, Cond.instanceMethod yX2_craneAt, Cond.selects RX2 yX2_craneAt yX2_craneAt, Cond.initialized RX2, Cond.code yX2_craneAt cX2_craneAt 3 (some (.object "CranePermits$Crane")), Cond.fieldLink RX2 17 "CranePermits$Site" "craneCount" "I", Cond.fieldLink RX2 11 "CranePermits$Site" "cranes" "[LCranePermits$Crane;", Cond.methodLink RX4 175 yX4_isSwing, Cond.static yX4_isSwing, Cond.initialized RX4, Cond.code yX4_isSwing cX4_isSwing 1 (some .boolean), Cond.methodLink RX4 38 yX4_isIn, Cond.static yX4_isIn, Cond.code yX4_isIn cX4_isIn 3 (some .boolean), Cond.methodLink RX4 118 yX4_isNight, Cond.static yX4_isNight, Cond.code yX4_isNight cX4_isNight 1 (some .boolean), Cond.methodLink RX4 191 yX2_refusalOf, Cond.instanceMethod yX2_refusalOf, Cond.selects RX2 yX2_refusalOf yX2_refusalOf, Cond.code yX2_refusalOf cX2_refusalOf 6 (some .int), Cond.fieldLink RX2 174 "CranePermits$Crane" "street" "I", Cond.methodLink RX2 162 yX2_isBusy]
def wsX4_firstFree_r2 : List Cond := [Cond.instanceMethod yX2_isBusy, Cond.selects RX2 yX2_isBusy yX2_isBusy, Cond.code yX2_isBusy cX2_isBusy 6 (some .boolean), Cond.fieldLink RX2 55 "CranePermits$Site" "validCount" "I", Cond.methodLink RX2 105 yX2_validAt, Cond.instanceMethod yX2_validAt, Cond.selects RX2 yX2_validAt yX2_validAt, Cond.code yX2_validAt cX2_validAt 3 (some (.object "CranePermits$Permit")), Cond.fieldLink RX2 52 "CranePermits$Site" "valid" "[LCranePermits$Permit;", Cond.methodLink RX2 130 yX1_isFor, Cond.instanceMethod yX1_isFor, Cond.selects RX1 yX1_isFor yX1_isFor, Cond.initialized RX1, Cond.code yX1_isFor cX1_isFor 2 (some .boolean), Cond.fieldLink RX1 13 "CranePermits$Permit" "crane" "LCranePermits$Crane;", Cond.fieldLink RX1 32 "CranePermits$Crane" "number" "I", Cond.methodLink RX2 138 yX1_meets, Cond.instanceMethod yX1_meets, Cond.selects RX1 yX1_meets yX1_meets, Cond.code yX1_meets cX1_meets 5 (some .boolean), Cond.fieldLink RX1 26 "CranePermits$Permit" "last" "I", Cond.fieldLink RX1 23 "CranePermits$Permit" "first" "I", Cond.fieldLink RX1 17 "CranePermits$Permit" "night" "I", Cond.methodLink RX2 166 yX2_mustStop]
def wsX4_firstFree_r3 : List Cond := [Cond.instanceMethod yX2_mustStop, Cond.selects RX2 yX2_mustStop yX2_mustStop, Cond.code yX2_mustStop cX2_mustStop 3 (some .boolean), Cond.fieldLink RX2 28 "CranePermits$Site" "winds" "[I", Cond.static yX4_at, Cond.code yX4_at cX4_at 2 (some .int), Cond.methodLink RX2 91 yX2_stopWindOf, Cond.instanceMethod yX2_stopWindOf, Cond.selects RX2 yX2_stopWindOf yX2_stopWindOf, Cond.code yX2_stopWindOf cX2_stopWindOf 2 (some .int), Cond.fieldLink RX2 25 "CranePermits$Site" "settings" "[I", Cond.fieldLink RX2 88 "CranePermits$Crane" "height" "I", Cond.methodLink RX2 170 yX2_lowestSharing, Cond.instanceMethod yX2_lowestSharing, Cond.selects RX2 yX2_lowestSharing yX2_lowestSharing, Cond.code yX2_lowestSharing cX2_lowestSharing 7 (some .int), Cond.fieldLink RX2 158 "CranePermits$Permit" "number" "I", Cond.methodLink RX2 154 yX2_shareAir, Cond.instanceMethod yX2_shareAir, Cond.selects RX2 yX2_shareAir yX2_shareAir, Cond.code yX2_shareAir cX2_shareAir 8 (some .boolean), Cond.fieldLink RX2 113 "CranePermits$Permit" "crane" "LCranePermits$Crane;", Cond.methodLink RX2 141 Lib.Math.abs.name, Cond.static Lib.Math.abs.name]
def wsX4_firstFree_r4 : List Cond := [Cond.initialized "java/lang/Math", Cond.code Lib.Math.abs.name Lib.Math.abs.code 1 (some .int), Cond.fieldLink RX2 151 "CranePermits$Permit" "swing" "I", Cond.methodLink RX2 147 yX0_airOf, Cond.instanceMethod yX0_airOf, Cond.selects RX0 yX0_airOf yX0_airOf, Cond.initialized RX0, Cond.code yX0_airOf cX0_airOf 8 (some .long), Cond.fieldLink RX0 9 "CranePermits$Crane" "eighths" "[J", Cond.methodLink RX2 127 yX2_usedOf, Cond.instanceMethod yX2_usedOf, Cond.selects RX2 yX2_usedOf yX2_usedOf, Cond.code yX2_usedOf cX2_usedOf 6 (some .int), Cond.fieldLink RX2 117 "CranePermits$Permit" "hours" "I", Cond.methodLink RX2 109 yX1_isOf, Cond.instanceMethod yX1_isOf, Cond.selects RX1 yX1_isOf yX1_isOf, Cond.code yX1_isOf cX1_isOf 3 (some .boolean), Cond.fieldLink RX1 35 "CranePermits$Crane" "street" "I", Cond.methodLink RX2 120 yX2_useOf, Cond.instanceMethod yX2_useOf, Cond.selects RX2 yX2_useOf yX2_useOf, Cond.code yX2_useOf cX2_useOf 3 (some .int), Cond.fieldLink RX2 21 "CranePermits$Site" "noises" "[I"]
def wsX4_firstFree_r5 : List Cond := [Cond.fieldLink RX2 102 "CranePermits$Crane" "number" "I", Cond.methodLink RX2 124 yX2_creditsOf, Cond.instanceMethod yX2_creditsOf, Cond.selects RX2 yX2_creditsOf yX2_creditsOf, Cond.code yX2_creditsOf cX2_creditsOf 4 (some .int), Cond.fieldLink RX2 34 "CranePermits$Site" "received" "[I", Cond.fieldLink RX2 37 "CranePermits$Site" "given" "[I", Cond.static yX4_streetNight, Cond.code yX4_streetNight cX4_streetNight 2 (some .int), Cond.methodLink RX2 99 yX2_allowanceOf, Cond.instanceMethod yX2_allowanceOf, Cond.selects RX2 yX2_allowanceOf yX2_allowanceOf, Cond.code yX2_allowanceOf cX2_allowanceOf 4 (some .int), Cond.fieldLink RX2 31 "CranePermits$Site" "allowances" "[I"]
def wsX4_firstFree : List Cond := .code yX4_firstFree cX4_firstFree 9 (some .int) :: ((wsX4_firstFree_r1 ++ (wsX4_firstFree_r2 ++ (wsX4_firstFree_r3 ++ (wsX4_firstFree_r4 ++ wsX4_firstFree_r5)))) ++ wsX40 ++ wsX20 ++ wsX00 ++ wsX10)
def wsX4_type : List Cond := .code yX4_type cX4_type 2 (some .int) :: ([.fieldLink RX4 30 "CranePermits" "text" "LCranePermits$Text;", .fieldLink RX4 168 "CranePermits$Text" "length" "I", .methodLink RX4 38 yX4_isIn, .static yX4_isIn, .initialized RX4, .code yX4_isIn cX4_isIn 3 (some .boolean), .methodLink RX4 251 yX3_append, .instanceMethod yX3_append, .selects RX3 yX3_append yX3_append, .initialized RX3, .code yX3_append cX3_append 2 none, .fieldLink RX3 15 "CranePermits$Text" "length" "I", .fieldLink RX3 9 "CranePermits$Text" "signs" "[C"] ++ wsX40 ++ wsX30)
def wsX4_clearText : List Cond := .code yX4_clearText cX4_clearText 2 (some .int) :: ([.fieldLink RX4 30 "CranePermits" "text" "LCranePermits$Text;", .fieldLink RX4 168 "CranePermits$Text" "length" "I"] ++ wsX40 ++ wsX30)
def wsX4_tryApplication_r1 : List Cond := [Cond.fieldLink RX4 30 "CranePermits" "text" "LCranePermits$Text;", Cond.fieldLink RX4 16 "CranePermits" "trial" "LCranePermits$Site;", Cond.fieldLink RX4 276 "CranePermits$Text" "crane" "I", Cond.fieldLink RX4 278 "CranePermits$Text" "night" "I", Cond.fieldLink RX4 279 "CranePermits$Text" "hours" "I", Cond.fieldLink RX4 280 "CranePermits$Text" "swing" "I", Cond.classLink RX4 199 RX1, Cond.instantiable RX1 7, Cond.initialized RX1, Cond.fieldLink RX4 155 "CranePermits$Site" "permitCount" "I", Cond.methodLink RX4 273 yX3_readApplication, Cond.instanceMethod yX3_readApplication, Cond.selects RX3 yX3_readApplication yX3_readApplication, Cond.initialized RX3, Cond.code yX3_readApplication cX3_readApplication 3 (some .boolean), Cond.fieldLink RX3 22 "CranePermits$Text" "next" "I", Cond.fieldLink RX3 19 "CranePermits$Text" "start" "I", Cond.fieldLink RX3 25 "CranePermits$Text" "formed" "Z", Cond.fieldLink RX3 29 "CranePermits$Text" "crane" "I", Cond.fieldLink RX3 32 "CranePermits$Text" "night" "I", Cond.fieldLink RX3 35 "CranePermits$Text" "hours" "I", Cond.fieldLink RX3 38 "CranePermits$Text" "swing" "I", Cond.methodLink RX3 41 yX3_readNumber, Cond.instanceMethod yX3_readNumber]
def wsX4_tryApplication_r2 : List Cond := [Cond.selects RX3 yX3_readNumber yX3_readNumber, Cond.code yX3_readNumber cX3_readNumber 4 (some .int), Cond.methodLink RX3 49 yX3_signAt, Cond.instanceMethod yX3_signAt, Cond.selects RX3 yX3_signAt yX3_signAt, Cond.code yX3_signAt cX3_signAt 2 (some .int), Cond.fieldLink RX3 15 "CranePermits$Text" "length" "I", Cond.fieldLink RX3 9 "CranePermits$Text" "signs" "[C", Cond.static yX4_isIn, Cond.initialized RX4, Cond.code yX4_isIn cX4_isIn 3 (some .boolean), Cond.methodLink RX3 45 yX3_readSign, Cond.instanceMethod yX3_readSign, Cond.selects RX3 yX3_readSign yX3_readSign, Cond.code yX3_readSign cX3_readSign 2 none, Cond.methodLink RX4 67 yX2_craneAt, Cond.instanceMethod yX2_craneAt, Cond.selects RX2 yX2_craneAt yX2_craneAt, Cond.initialized RX2, Cond.code yX2_craneAt cX2_craneAt 3 (some (.object "CranePermits$Crane")), Cond.fieldLink RX2 17 "CranePermits$Site" "craneCount" "I", Cond.fieldLink RX2 11 "CranePermits$Site" "cranes" "[LCranePermits$Crane;", Cond.methodLink RX4 188 yX4_isPlan, Cond.static yX4_isPlan]
def wsX4_tryApplication_r3 : List Cond := [Cond.code yX4_isPlan cX4_isPlan 3 (some .boolean), Cond.methodLink RX4 118 yX4_isNight, Cond.static yX4_isNight, Cond.code yX4_isNight cX4_isNight 1 (some .boolean), Cond.methodLink RX4 38 yX4_isIn, Cond.methodLink RX4 175 yX4_isSwing, Cond.static yX4_isSwing, Cond.code yX4_isSwing cX4_isSwing 1 (some .boolean), Cond.methodLink RX4 191 yX2_refusalOf, Cond.instanceMethod yX2_refusalOf, Cond.selects RX2 yX2_refusalOf yX2_refusalOf, Cond.code yX2_refusalOf cX2_refusalOf 6 (some .int), Cond.fieldLink RX2 174 "CranePermits$Crane" "street" "I", Cond.methodLink RX2 162 yX2_isBusy, Cond.instanceMethod yX2_isBusy, Cond.selects RX2 yX2_isBusy yX2_isBusy, Cond.code yX2_isBusy cX2_isBusy 6 (some .boolean), Cond.fieldLink RX2 55 "CranePermits$Site" "validCount" "I", Cond.methodLink RX2 105 yX2_validAt, Cond.instanceMethod yX2_validAt, Cond.selects RX2 yX2_validAt yX2_validAt, Cond.code yX2_validAt cX2_validAt 3 (some (.object "CranePermits$Permit")), Cond.fieldLink RX2 52 "CranePermits$Site" "valid" "[LCranePermits$Permit;", Cond.methodLink RX2 130 yX1_isFor]
def wsX4_tryApplication_r4 : List Cond := [Cond.instanceMethod yX1_isFor, Cond.selects RX1 yX1_isFor yX1_isFor, Cond.code yX1_isFor cX1_isFor 2 (some .boolean), Cond.fieldLink RX1 13 "CranePermits$Permit" "crane" "LCranePermits$Crane;", Cond.fieldLink RX1 32 "CranePermits$Crane" "number" "I", Cond.methodLink RX2 138 yX1_meets, Cond.instanceMethod yX1_meets, Cond.selects RX1 yX1_meets yX1_meets, Cond.code yX1_meets cX1_meets 5 (some .boolean), Cond.fieldLink RX1 26 "CranePermits$Permit" "last" "I", Cond.fieldLink RX1 23 "CranePermits$Permit" "first" "I", Cond.fieldLink RX1 17 "CranePermits$Permit" "night" "I", Cond.methodLink RX2 166 yX2_mustStop, Cond.instanceMethod yX2_mustStop, Cond.selects RX2 yX2_mustStop yX2_mustStop, Cond.code yX2_mustStop cX2_mustStop 3 (some .boolean), Cond.fieldLink RX2 28 "CranePermits$Site" "winds" "[I", Cond.static yX4_at, Cond.code yX4_at cX4_at 2 (some .int), Cond.methodLink RX2 91 yX2_stopWindOf, Cond.instanceMethod yX2_stopWindOf, Cond.selects RX2 yX2_stopWindOf yX2_stopWindOf, Cond.code yX2_stopWindOf cX2_stopWindOf 2 (some .int), Cond.fieldLink RX2 25 "CranePermits$Site" "settings" "[I"]
def wsX4_tryApplication_r5 : List Cond := [Cond.fieldLink RX2 88 "CranePermits$Crane" "height" "I", Cond.methodLink RX2 170 yX2_lowestSharing, Cond.instanceMethod yX2_lowestSharing, Cond.selects RX2 yX2_lowestSharing yX2_lowestSharing, Cond.code yX2_lowestSharing cX2_lowestSharing 7 (some .int), Cond.fieldLink RX2 158 "CranePermits$Permit" "number" "I", Cond.methodLink RX2 154 yX2_shareAir, Cond.instanceMethod yX2_shareAir, Cond.selects RX2 yX2_shareAir yX2_shareAir, Cond.code yX2_shareAir cX2_shareAir 8 (some .boolean), Cond.fieldLink RX2 113 "CranePermits$Permit" "crane" "LCranePermits$Crane;", Cond.methodLink RX2 141 Lib.Math.abs.name, Cond.static Lib.Math.abs.name, Cond.initialized "java/lang/Math", Cond.code Lib.Math.abs.name Lib.Math.abs.code 1 (some .int), Cond.fieldLink RX2 151 "CranePermits$Permit" "swing" "I", Cond.methodLink RX2 147 yX0_airOf, Cond.instanceMethod yX0_airOf, Cond.selects RX0 yX0_airOf yX0_airOf, Cond.initialized RX0, Cond.code yX0_airOf cX0_airOf 8 (some .long), Cond.fieldLink RX0 9 "CranePermits$Crane" "eighths" "[J", Cond.methodLink RX2 127 yX2_usedOf, Cond.instanceMethod yX2_usedOf]
def wsX4_tryApplication_r6 : List Cond := [Cond.selects RX2 yX2_usedOf yX2_usedOf, Cond.code yX2_usedOf cX2_usedOf 6 (some .int), Cond.fieldLink RX2 117 "CranePermits$Permit" "hours" "I", Cond.methodLink RX2 109 yX1_isOf, Cond.instanceMethod yX1_isOf, Cond.selects RX1 yX1_isOf yX1_isOf, Cond.code yX1_isOf cX1_isOf 3 (some .boolean), Cond.fieldLink RX1 35 "CranePermits$Crane" "street" "I", Cond.methodLink RX2 120 yX2_useOf, Cond.instanceMethod yX2_useOf, Cond.selects RX2 yX2_useOf yX2_useOf, Cond.code yX2_useOf cX2_useOf 3 (some .int), Cond.fieldLink RX2 21 "CranePermits$Site" "noises" "[I", Cond.fieldLink RX2 102 "CranePermits$Crane" "number" "I", Cond.methodLink RX2 124 yX2_creditsOf, Cond.instanceMethod yX2_creditsOf, Cond.selects RX2 yX2_creditsOf yX2_creditsOf, Cond.code yX2_creditsOf cX2_creditsOf 4 (some .int), Cond.fieldLink RX2 34 "CranePermits$Site" "received" "[I", Cond.fieldLink RX2 37 "CranePermits$Site" "given" "[I", Cond.static yX4_streetNight, Cond.code yX4_streetNight cX4_streetNight 2 (some .int), Cond.methodLink RX2 99 yX2_allowanceOf, Cond.instanceMethod yX2_allowanceOf]
def wsX4_tryApplication_r7 : List Cond := [Cond.selects RX2 yX2_allowanceOf yX2_allowanceOf, Cond.code yX2_allowanceOf cX2_allowanceOf 4 (some .int), Cond.fieldLink RX2 31 "CranePermits$Site" "allowances" "[I", Cond.methodLink RX4 195 yX2_hasRoom, Cond.instanceMethod yX2_hasRoom, Cond.selects RX2 yX2_hasRoom yX2_hasRoom, Cond.code yX2_hasRoom cX2_hasRoom 1 (some .boolean), Cond.fieldLink RX2 46 "CranePermits$Site" "permitCount" "I", Cond.methodLink RX4 201 yX1_init, Cond.instanceMethod yX1_init, Cond.code yX1_init cX1_init 6 none, Cond.methodLink RX1 1 objectInit, Cond.instanceMethod objectInit, Cond.code objectInit ⟨#[0xb1]⟩ 1 none, Cond.fieldLink RX1 7 "CranePermits$Permit" "number" "I", Cond.fieldLink RX1 20 "CranePermits$Permit" "hours" "I", Cond.fieldLink RX1 29 "CranePermits$Permit" "swing" "I", Cond.methodLink RX4 204 yX2_grant, Cond.instanceMethod yX2_grant, Cond.selects RX2 yX2_grant yX2_grant, Cond.code yX2_grant cX2_grant 2 none, Cond.fieldLink RX2 42 "CranePermits$Site" "permits" "[LCranePermits$Permit;", Cond.fieldLink RX2 49 "CranePermits$Site" "states" "[I", Cond.static yX4_put]
def wsX4_tryApplication_r8 : List Cond := [Cond.code yX4_put cX4_put 3 none]
def wsX4_tryApplication : List Cond := .code yX4_tryApplication cX4_tryApplication 3 (some .int) :: ((wsX4_tryApplication_r1 ++ (wsX4_tryApplication_r2 ++ (wsX4_tryApplication_r3 ++ (wsX4_tryApplication_r4 ++ (wsX4_tryApplication_r5 ++ (wsX4_tryApplication_r6 ++ (wsX4_tryApplication_r7 ++ wsX4_tryApplication_r8))))))) ++ wsX40 ++ wsX30 ++ wsX10 ++ wsX20 ++ wsX00)
def wsX4_tryText_r1 : List Cond := [Cond.fieldLink RX4 30 "CranePermits" "text" "LCranePermits$Text;", Cond.fieldLink RX4 267 "CranePermits$Text" "next" "I", Cond.fieldLink RX4 168 "CranePermits$Text" "length" "I", Cond.methodLink RX4 270 yX4_tryApplication, Cond.instanceMethod yX4_tryApplication, Cond.selects RX4 yX4_tryApplication yX4_tryApplication, Cond.initialized RX4, Cond.code yX4_tryApplication cX4_tryApplication 3 (some .int), Cond.fieldLink RX4 16 "CranePermits" "trial" "LCranePermits$Site;", Cond.fieldLink RX4 276 "CranePermits$Text" "crane" "I", Cond.fieldLink RX4 278 "CranePermits$Text" "night" "I", Cond.fieldLink RX4 279 "CranePermits$Text" "hours" "I", Cond.fieldLink RX4 280 "CranePermits$Text" "swing" "I", Cond.classLink RX4 199 RX1, Cond.instantiable RX1 7, Cond.initialized RX1, Cond.fieldLink RX4 155 "CranePermits$Site" "permitCount" "I", Cond.methodLink RX4 273 yX3_readApplication, Cond.instanceMethod yX3_readApplication, Cond.selects RX3 yX3_readApplication yX3_readApplication, Cond.initialized RX3, Cond.code yX3_readApplication cX3_readApplication 3 (some .boolean), Cond.fieldLink RX3 22 "CranePermits$Text" "next" "I", Cond.fieldLink RX3 19 "CranePermits$Text" "start" "I"]
def wsX4_tryText_r2 : List Cond := [Cond.fieldLink RX3 25 "CranePermits$Text" "formed" "Z", Cond.fieldLink RX3 29 "CranePermits$Text" "crane" "I", Cond.fieldLink RX3 32 "CranePermits$Text" "night" "I", Cond.fieldLink RX3 35 "CranePermits$Text" "hours" "I", Cond.fieldLink RX3 38 "CranePermits$Text" "swing" "I", Cond.methodLink RX3 41 yX3_readNumber, Cond.instanceMethod yX3_readNumber, Cond.selects RX3 yX3_readNumber yX3_readNumber, Cond.code yX3_readNumber cX3_readNumber 4 (some .int), Cond.methodLink RX3 49 yX3_signAt, Cond.instanceMethod yX3_signAt, Cond.selects RX3 yX3_signAt yX3_signAt, Cond.code yX3_signAt cX3_signAt 2 (some .int), Cond.fieldLink RX3 15 "CranePermits$Text" "length" "I", Cond.fieldLink RX3 9 "CranePermits$Text" "signs" "[C", Cond.static yX4_isIn, Cond.code yX4_isIn cX4_isIn 3 (some .boolean), Cond.methodLink RX3 45 yX3_readSign, Cond.instanceMethod yX3_readSign, Cond.selects RX3 yX3_readSign yX3_readSign, Cond.code yX3_readSign cX3_readSign 2 none, Cond.methodLink RX4 67 yX2_craneAt, Cond.instanceMethod yX2_craneAt, Cond.selects RX2 yX2_craneAt yX2_craneAt]
def wsX4_tryText_r3 : List Cond := [Cond.initialized RX2, Cond.code yX2_craneAt cX2_craneAt 3 (some (.object "CranePermits$Crane")), Cond.fieldLink RX2 17 "CranePermits$Site" "craneCount" "I", Cond.fieldLink RX2 11 "CranePermits$Site" "cranes" "[LCranePermits$Crane;", Cond.methodLink RX4 188 yX4_isPlan, Cond.static yX4_isPlan, Cond.code yX4_isPlan cX4_isPlan 3 (some .boolean), Cond.methodLink RX4 118 yX4_isNight, Cond.static yX4_isNight, Cond.code yX4_isNight cX4_isNight 1 (some .boolean), Cond.methodLink RX4 38 yX4_isIn, Cond.methodLink RX4 175 yX4_isSwing, Cond.static yX4_isSwing, Cond.code yX4_isSwing cX4_isSwing 1 (some .boolean), Cond.methodLink RX4 191 yX2_refusalOf, Cond.instanceMethod yX2_refusalOf, Cond.selects RX2 yX2_refusalOf yX2_refusalOf, Cond.code yX2_refusalOf cX2_refusalOf 6 (some .int), Cond.fieldLink RX2 174 "CranePermits$Crane" "street" "I", Cond.methodLink RX2 162 yX2_isBusy, Cond.instanceMethod yX2_isBusy, Cond.selects RX2 yX2_isBusy yX2_isBusy, Cond.code yX2_isBusy cX2_isBusy 6 (some .boolean), Cond.fieldLink RX2 55 "CranePermits$Site" "validCount" "I"]
def wsX4_tryText_r4 : List Cond := [Cond.methodLink RX2 105 yX2_validAt, Cond.instanceMethod yX2_validAt, Cond.selects RX2 yX2_validAt yX2_validAt, Cond.code yX2_validAt cX2_validAt 3 (some (.object "CranePermits$Permit")), Cond.fieldLink RX2 52 "CranePermits$Site" "valid" "[LCranePermits$Permit;", Cond.methodLink RX2 130 yX1_isFor, Cond.instanceMethod yX1_isFor, Cond.selects RX1 yX1_isFor yX1_isFor, Cond.code yX1_isFor cX1_isFor 2 (some .boolean), Cond.fieldLink RX1 13 "CranePermits$Permit" "crane" "LCranePermits$Crane;", Cond.fieldLink RX1 32 "CranePermits$Crane" "number" "I", Cond.methodLink RX2 138 yX1_meets, Cond.instanceMethod yX1_meets, Cond.selects RX1 yX1_meets yX1_meets, Cond.code yX1_meets cX1_meets 5 (some .boolean), Cond.fieldLink RX1 26 "CranePermits$Permit" "last" "I", Cond.fieldLink RX1 23 "CranePermits$Permit" "first" "I", Cond.fieldLink RX1 17 "CranePermits$Permit" "night" "I", Cond.methodLink RX2 166 yX2_mustStop, Cond.instanceMethod yX2_mustStop, Cond.selects RX2 yX2_mustStop yX2_mustStop, Cond.code yX2_mustStop cX2_mustStop 3 (some .boolean), Cond.fieldLink RX2 28 "CranePermits$Site" "winds" "[I", Cond.static yX4_at]
def wsX4_tryText_r5 : List Cond := [Cond.code yX4_at cX4_at 2 (some .int), Cond.methodLink RX2 91 yX2_stopWindOf, Cond.instanceMethod yX2_stopWindOf, Cond.selects RX2 yX2_stopWindOf yX2_stopWindOf, Cond.code yX2_stopWindOf cX2_stopWindOf 2 (some .int), Cond.fieldLink RX2 25 "CranePermits$Site" "settings" "[I", Cond.fieldLink RX2 88 "CranePermits$Crane" "height" "I", Cond.methodLink RX2 170 yX2_lowestSharing, Cond.instanceMethod yX2_lowestSharing, Cond.selects RX2 yX2_lowestSharing yX2_lowestSharing, Cond.code yX2_lowestSharing cX2_lowestSharing 7 (some .int), Cond.fieldLink RX2 158 "CranePermits$Permit" "number" "I", Cond.methodLink RX2 154 yX2_shareAir, Cond.instanceMethod yX2_shareAir, Cond.selects RX2 yX2_shareAir yX2_shareAir, Cond.code yX2_shareAir cX2_shareAir 8 (some .boolean), Cond.fieldLink RX2 113 "CranePermits$Permit" "crane" "LCranePermits$Crane;", Cond.methodLink RX2 141 Lib.Math.abs.name, Cond.static Lib.Math.abs.name, Cond.initialized "java/lang/Math", Cond.code Lib.Math.abs.name Lib.Math.abs.code 1 (some .int), Cond.fieldLink RX2 151 "CranePermits$Permit" "swing" "I", Cond.methodLink RX2 147 yX0_airOf, Cond.instanceMethod yX0_airOf]
def wsX4_tryText_r6 : List Cond := [Cond.selects RX0 yX0_airOf yX0_airOf, Cond.initialized RX0, Cond.code yX0_airOf cX0_airOf 8 (some .long), Cond.fieldLink RX0 9 "CranePermits$Crane" "eighths" "[J", Cond.methodLink RX2 127 yX2_usedOf, Cond.instanceMethod yX2_usedOf, Cond.selects RX2 yX2_usedOf yX2_usedOf, Cond.code yX2_usedOf cX2_usedOf 6 (some .int), Cond.fieldLink RX2 117 "CranePermits$Permit" "hours" "I", Cond.methodLink RX2 109 yX1_isOf, Cond.instanceMethod yX1_isOf, Cond.selects RX1 yX1_isOf yX1_isOf, Cond.code yX1_isOf cX1_isOf 3 (some .boolean), Cond.fieldLink RX1 35 "CranePermits$Crane" "street" "I", Cond.methodLink RX2 120 yX2_useOf, Cond.instanceMethod yX2_useOf, Cond.selects RX2 yX2_useOf yX2_useOf, Cond.code yX2_useOf cX2_useOf 3 (some .int), Cond.fieldLink RX2 21 "CranePermits$Site" "noises" "[I", Cond.fieldLink RX2 102 "CranePermits$Crane" "number" "I", Cond.methodLink RX2 124 yX2_creditsOf, Cond.instanceMethod yX2_creditsOf, Cond.selects RX2 yX2_creditsOf yX2_creditsOf, Cond.code yX2_creditsOf cX2_creditsOf 4 (some .int)]
def wsX4_tryText_r7 : List Cond := [Cond.fieldLink RX2 34 "CranePermits$Site" "received" "[I", Cond.fieldLink RX2 37 "CranePermits$Site" "given" "[I", Cond.static yX4_streetNight, Cond.code yX4_streetNight cX4_streetNight 2 (some .int), Cond.methodLink RX2 99 yX2_allowanceOf, Cond.instanceMethod yX2_allowanceOf, Cond.selects RX2 yX2_allowanceOf yX2_allowanceOf, Cond.code yX2_allowanceOf cX2_allowanceOf 4 (some .int), Cond.fieldLink RX2 31 "CranePermits$Site" "allowances" "[I", Cond.methodLink RX4 195 yX2_hasRoom, Cond.instanceMethod yX2_hasRoom, Cond.selects RX2 yX2_hasRoom yX2_hasRoom, Cond.code yX2_hasRoom cX2_hasRoom 1 (some .boolean), Cond.fieldLink RX2 46 "CranePermits$Site" "permitCount" "I", Cond.methodLink RX4 201 yX1_init, Cond.instanceMethod yX1_init, Cond.code yX1_init cX1_init 6 none, Cond.methodLink RX1 1 objectInit, Cond.instanceMethod objectInit, Cond.code objectInit ⟨#[0xb1]⟩ 1 none, Cond.fieldLink RX1 7 "CranePermits$Permit" "number" "I", Cond.fieldLink RX1 20 "CranePermits$Permit" "hours" "I", Cond.fieldLink RX1 29 "CranePermits$Permit" "swing" "I", Cond.methodLink RX4 204 yX2_grant]
def wsX4_tryText_r8 : List Cond := [Cond.instanceMethod yX2_grant, Cond.selects RX2 yX2_grant yX2_grant, Cond.code yX2_grant cX2_grant 2 none, Cond.fieldLink RX2 42 "CranePermits$Site" "permits" "[LCranePermits$Permit;", Cond.fieldLink RX2 49 "CranePermits$Site" "states" "[I", Cond.static yX4_put, Cond.code yX4_put cX4_put 3 none]
def wsX4_tryText : List Cond := .code yX4_tryText cX4_tryText 3 (some .int) :: ((wsX4_tryText_r1 ++ (wsX4_tryText_r2 ++ (wsX4_tryText_r3 ++ (wsX4_tryText_r4 ++ (wsX4_tryText_r5 ++ (wsX4_tryText_r6 ++ (wsX4_tryText_r7 ++ wsX4_tryText_r8))))))) ++ wsX40 ++ wsX30 ++ wsX10 ++ wsX20 ++ wsX00)
def wsX4_fault_r1 : List Cond := [Cond.fieldLink RX4 16 "CranePermits" "trial" "LCranePermits$Site;", Cond.fieldLink RX4 10 "CranePermits" "now" "LCranePermits$Site;", Cond.fieldLink RX4 30 "CranePermits" "text" "LCranePermits$Text;", Cond.fieldLink RX4 258 "CranePermits$Text" "start" "I", Cond.methodLink RX4 38 yX4_isIn, Cond.static yX4_isIn, Cond.initialized RX4, Cond.code yX4_isIn cX4_isIn 3 (some .boolean), Cond.methodLink RX4 171 yX2_copyFrom, Cond.instanceMethod yX2_copyFrom, Cond.selects RX2 yX2_copyFrom yX2_copyFrom, Cond.initialized RX2, Cond.code yX2_copyFrom cX2_copyFrom 2 none, Cond.fieldLink RX2 11 "CranePermits$Site" "cranes" "[LCranePermits$Crane;", Cond.methodLink RX2 64 arraycopyName, Cond.native arraycopyName, Cond.static arraycopyName, Cond.initialized "java/lang/System", Cond.fieldLink RX2 17 "CranePermits$Site" "craneCount" "I", Cond.fieldLink RX2 21 "CranePermits$Site" "noises" "[I", Cond.fieldLink RX2 25 "CranePermits$Site" "settings" "[I", Cond.fieldLink RX2 28 "CranePermits$Site" "winds" "[I", Cond.fieldLink RX2 31 "CranePermits$Site" "allowances" "[I", Cond.fieldLink RX2 34 "CranePermits$Site" "received" "[I"]
def wsX4_fault_r2 : List Cond := [Cond.fieldLink RX2 37 "CranePermits$Site" "given" "[I", Cond.fieldLink RX2 42 "CranePermits$Site" "permits" "[LCranePermits$Permit;", Cond.fieldLink RX2 46 "CranePermits$Site" "permitCount" "I", Cond.fieldLink RX2 49 "CranePermits$Site" "states" "[I", Cond.fieldLink RX2 52 "CranePermits$Site" "valid" "[LCranePermits$Permit;", Cond.fieldLink RX2 55 "CranePermits$Site" "validCount" "I", Cond.methodLink RX4 255 yX4_tryText, Cond.instanceMethod yX4_tryText, Cond.selects RX4 yX4_tryText yX4_tryText, Cond.code yX4_tryText cX4_tryText 3 (some .int), Cond.fieldLink RX4 267 "CranePermits$Text" "next" "I", Cond.fieldLink RX4 168 "CranePermits$Text" "length" "I", Cond.methodLink RX4 270 yX4_tryApplication, Cond.instanceMethod yX4_tryApplication, Cond.selects RX4 yX4_tryApplication yX4_tryApplication, Cond.code yX4_tryApplication cX4_tryApplication 3 (some .int), Cond.fieldLink RX4 276 "CranePermits$Text" "crane" "I", Cond.fieldLink RX4 278 "CranePermits$Text" "night" "I", Cond.fieldLink RX4 279 "CranePermits$Text" "hours" "I", Cond.fieldLink RX4 280 "CranePermits$Text" "swing" "I", Cond.classLink RX4 199 RX1, Cond.instantiable RX1 7, Cond.initialized RX1, Cond.fieldLink RX4 155 "CranePermits$Site" "permitCount" "I"]
def wsX4_fault_r3 : List Cond := [Cond.methodLink RX4 273 yX3_readApplication, Cond.instanceMethod yX3_readApplication, Cond.selects RX3 yX3_readApplication yX3_readApplication, Cond.initialized RX3, Cond.code yX3_readApplication cX3_readApplication 3 (some .boolean), Cond.fieldLink RX3 22 "CranePermits$Text" "next" "I", Cond.fieldLink RX3 19 "CranePermits$Text" "start" "I", Cond.fieldLink RX3 25 "CranePermits$Text" "formed" "Z", Cond.fieldLink RX3 29 "CranePermits$Text" "crane" "I", Cond.fieldLink RX3 32 "CranePermits$Text" "night" "I", Cond.fieldLink RX3 35 "CranePermits$Text" "hours" "I", Cond.fieldLink RX3 38 "CranePermits$Text" "swing" "I", Cond.methodLink RX3 41 yX3_readNumber, Cond.instanceMethod yX3_readNumber, Cond.selects RX3 yX3_readNumber yX3_readNumber, Cond.code yX3_readNumber cX3_readNumber 4 (some .int), Cond.methodLink RX3 49 yX3_signAt, Cond.instanceMethod yX3_signAt, Cond.selects RX3 yX3_signAt yX3_signAt, Cond.code yX3_signAt cX3_signAt 2 (some .int), Cond.fieldLink RX3 15 "CranePermits$Text" "length" "I", Cond.fieldLink RX3 9 "CranePermits$Text" "signs" "[C", Cond.methodLink RX3 45 yX3_readSign, Cond.instanceMethod yX3_readSign]
def wsX4_fault_r4 : List Cond := [Cond.selects RX3 yX3_readSign yX3_readSign, Cond.code yX3_readSign cX3_readSign 2 none, Cond.methodLink RX4 67 yX2_craneAt, Cond.instanceMethod yX2_craneAt, Cond.selects RX2 yX2_craneAt yX2_craneAt, Cond.code yX2_craneAt cX2_craneAt 3 (some (.object "CranePermits$Crane")), Cond.methodLink RX4 188 yX4_isPlan, Cond.static yX4_isPlan, Cond.code yX4_isPlan cX4_isPlan 3 (some .boolean), Cond.methodLink RX4 118 yX4_isNight, Cond.static yX4_isNight, Cond.code yX4_isNight cX4_isNight 1 (some .boolean), Cond.methodLink RX4 175 yX4_isSwing, Cond.static yX4_isSwing, Cond.code yX4_isSwing cX4_isSwing 1 (some .boolean), Cond.methodLink RX4 191 yX2_refusalOf, Cond.instanceMethod yX2_refusalOf, Cond.selects RX2 yX2_refusalOf yX2_refusalOf, Cond.code yX2_refusalOf cX2_refusalOf 6 (some .int), Cond.fieldLink RX2 174 "CranePermits$Crane" "street" "I", Cond.methodLink RX2 162 yX2_isBusy, Cond.instanceMethod yX2_isBusy, Cond.selects RX2 yX2_isBusy yX2_isBusy, Cond.code yX2_isBusy cX2_isBusy 6 (some .boolean)]
def wsX4_fault_r5 : List Cond := [Cond.methodLink RX2 105 yX2_validAt, Cond.instanceMethod yX2_validAt, Cond.selects RX2 yX2_validAt yX2_validAt, Cond.code yX2_validAt cX2_validAt 3 (some (.object "CranePermits$Permit")), Cond.methodLink RX2 130 yX1_isFor, Cond.instanceMethod yX1_isFor, Cond.selects RX1 yX1_isFor yX1_isFor, Cond.code yX1_isFor cX1_isFor 2 (some .boolean), Cond.fieldLink RX1 13 "CranePermits$Permit" "crane" "LCranePermits$Crane;", Cond.fieldLink RX1 32 "CranePermits$Crane" "number" "I", Cond.methodLink RX2 138 yX1_meets, Cond.instanceMethod yX1_meets, Cond.selects RX1 yX1_meets yX1_meets, Cond.code yX1_meets cX1_meets 5 (some .boolean), Cond.fieldLink RX1 26 "CranePermits$Permit" "last" "I", Cond.fieldLink RX1 23 "CranePermits$Permit" "first" "I", Cond.fieldLink RX1 17 "CranePermits$Permit" "night" "I", Cond.methodLink RX2 166 yX2_mustStop, Cond.instanceMethod yX2_mustStop, Cond.selects RX2 yX2_mustStop yX2_mustStop, Cond.code yX2_mustStop cX2_mustStop 3 (some .boolean), Cond.static yX4_at, Cond.code yX4_at cX4_at 2 (some .int), Cond.methodLink RX2 91 yX2_stopWindOf]
def wsX4_fault_r6 : List Cond := [Cond.instanceMethod yX2_stopWindOf, Cond.selects RX2 yX2_stopWindOf yX2_stopWindOf, Cond.code yX2_stopWindOf cX2_stopWindOf 2 (some .int), Cond.fieldLink RX2 88 "CranePermits$Crane" "height" "I", Cond.methodLink RX2 170 yX2_lowestSharing, Cond.instanceMethod yX2_lowestSharing, Cond.selects RX2 yX2_lowestSharing yX2_lowestSharing, Cond.code yX2_lowestSharing cX2_lowestSharing 7 (some .int), Cond.fieldLink RX2 158 "CranePermits$Permit" "number" "I", Cond.methodLink RX2 154 yX2_shareAir, Cond.instanceMethod yX2_shareAir, Cond.selects RX2 yX2_shareAir yX2_shareAir, Cond.code yX2_shareAir cX2_shareAir 8 (some .boolean), Cond.fieldLink RX2 113 "CranePermits$Permit" "crane" "LCranePermits$Crane;", Cond.methodLink RX2 141 Lib.Math.abs.name, Cond.static Lib.Math.abs.name, Cond.initialized "java/lang/Math", Cond.code Lib.Math.abs.name Lib.Math.abs.code 1 (some .int), Cond.fieldLink RX2 151 "CranePermits$Permit" "swing" "I", Cond.methodLink RX2 147 yX0_airOf, Cond.instanceMethod yX0_airOf, Cond.selects RX0 yX0_airOf yX0_airOf, Cond.initialized RX0, Cond.code yX0_airOf cX0_airOf 8 (some .long)]
def wsX4_fault_r7 : List Cond := [Cond.fieldLink RX0 9 "CranePermits$Crane" "eighths" "[J", Cond.methodLink RX2 127 yX2_usedOf, Cond.instanceMethod yX2_usedOf, Cond.selects RX2 yX2_usedOf yX2_usedOf, Cond.code yX2_usedOf cX2_usedOf 6 (some .int), Cond.fieldLink RX2 117 "CranePermits$Permit" "hours" "I", Cond.methodLink RX2 109 yX1_isOf, Cond.instanceMethod yX1_isOf, Cond.selects RX1 yX1_isOf yX1_isOf, Cond.code yX1_isOf cX1_isOf 3 (some .boolean), Cond.fieldLink RX1 35 "CranePermits$Crane" "street" "I", Cond.methodLink RX2 120 yX2_useOf, Cond.instanceMethod yX2_useOf, Cond.selects RX2 yX2_useOf yX2_useOf, Cond.code yX2_useOf cX2_useOf 3 (some .int), Cond.fieldLink RX2 102 "CranePermits$Crane" "number" "I", Cond.methodLink RX2 124 yX2_creditsOf, Cond.instanceMethod yX2_creditsOf, Cond.selects RX2 yX2_creditsOf yX2_creditsOf, Cond.code yX2_creditsOf cX2_creditsOf 4 (some .int), Cond.static yX4_streetNight, Cond.code yX4_streetNight cX4_streetNight 2 (some .int), Cond.methodLink RX2 99 yX2_allowanceOf, Cond.instanceMethod yX2_allowanceOf]
def wsX4_fault_r8 : List Cond := [Cond.selects RX2 yX2_allowanceOf yX2_allowanceOf, Cond.code yX2_allowanceOf cX2_allowanceOf 4 (some .int), Cond.methodLink RX4 195 yX2_hasRoom, Cond.instanceMethod yX2_hasRoom, Cond.selects RX2 yX2_hasRoom yX2_hasRoom, Cond.code yX2_hasRoom cX2_hasRoom 1 (some .boolean), Cond.methodLink RX4 201 yX1_init, Cond.instanceMethod yX1_init, Cond.code yX1_init cX1_init 6 none, Cond.methodLink RX1 1 objectInit, Cond.instanceMethod objectInit, Cond.code objectInit ⟨#[0xb1]⟩ 1 none, Cond.fieldLink RX1 7 "CranePermits$Permit" "number" "I", Cond.fieldLink RX1 20 "CranePermits$Permit" "hours" "I", Cond.fieldLink RX1 29 "CranePermits$Permit" "swing" "I", Cond.methodLink RX4 204 yX2_grant, Cond.instanceMethod yX2_grant, Cond.selects RX2 yX2_grant yX2_grant, Cond.code yX2_grant cX2_grant 2 none, Cond.static yX4_put, Cond.code yX4_put cX4_put 3 none]
def wsX4_fault : List Cond := .code yX4_fault cX4_fault 3 (some .int) :: ((wsX4_fault_r1 ++ (wsX4_fault_r2 ++ (wsX4_fault_r3 ++ (wsX4_fault_r4 ++ (wsX4_fault_r5 ++ (wsX4_fault_r6 ++ (wsX4_fault_r7 ++ wsX4_fault_r8))))))) ++ wsX40 ++ wsX30 ++ wsX20 ++ wsX10 ++ wsX00)
def wsX4_enter_r1 : List Cond := [Cond.fieldLink RX4 16 "CranePermits" "trial" "LCranePermits$Site;", Cond.fieldLink RX4 10 "CranePermits" "now" "LCranePermits$Site;", Cond.fieldLink RX4 155 "CranePermits$Site" "permitCount" "I", Cond.methodLink RX4 171 yX2_copyFrom, Cond.instanceMethod yX2_copyFrom, Cond.selects RX2 yX2_copyFrom yX2_copyFrom, Cond.initialized RX2, Cond.code yX2_copyFrom cX2_copyFrom 2 none, Cond.fieldLink RX2 11 "CranePermits$Site" "cranes" "[LCranePermits$Crane;", Cond.methodLink RX2 64 arraycopyName, Cond.native arraycopyName, Cond.static arraycopyName, Cond.initialized "java/lang/System", Cond.fieldLink RX2 17 "CranePermits$Site" "craneCount" "I", Cond.fieldLink RX2 21 "CranePermits$Site" "noises" "[I", Cond.fieldLink RX2 25 "CranePermits$Site" "settings" "[I", Cond.fieldLink RX2 28 "CranePermits$Site" "winds" "[I", Cond.fieldLink RX2 31 "CranePermits$Site" "allowances" "[I", Cond.fieldLink RX2 34 "CranePermits$Site" "received" "[I", Cond.fieldLink RX2 37 "CranePermits$Site" "given" "[I", Cond.fieldLink RX2 42 "CranePermits$Site" "permits" "[LCranePermits$Permit;", Cond.fieldLink RX2 46 "CranePermits$Site" "permitCount" "I", Cond.fieldLink RX2 49 "CranePermits$Site" "states" "[I", Cond.fieldLink RX2 52 "CranePermits$Site" "valid" "[LCranePermits$Permit;"]
def wsX4_enter_r2 : List Cond := [Cond.fieldLink RX2 55 "CranePermits$Site" "validCount" "I", Cond.methodLink RX4 255 yX4_tryText, Cond.instanceMethod yX4_tryText, Cond.selects RX4 yX4_tryText yX4_tryText, Cond.initialized RX4, Cond.code yX4_tryText cX4_tryText 3 (some .int), Cond.fieldLink RX4 30 "CranePermits" "text" "LCranePermits$Text;", Cond.fieldLink RX4 267 "CranePermits$Text" "next" "I", Cond.fieldLink RX4 168 "CranePermits$Text" "length" "I", Cond.methodLink RX4 270 yX4_tryApplication, Cond.instanceMethod yX4_tryApplication, Cond.selects RX4 yX4_tryApplication yX4_tryApplication, Cond.code yX4_tryApplication cX4_tryApplication 3 (some .int), Cond.fieldLink RX4 276 "CranePermits$Text" "crane" "I", Cond.fieldLink RX4 278 "CranePermits$Text" "night" "I", Cond.fieldLink RX4 279 "CranePermits$Text" "hours" "I", Cond.fieldLink RX4 280 "CranePermits$Text" "swing" "I", Cond.classLink RX4 199 RX1, Cond.instantiable RX1 7, Cond.initialized RX1, Cond.methodLink RX4 273 yX3_readApplication, Cond.instanceMethod yX3_readApplication, Cond.selects RX3 yX3_readApplication yX3_readApplication, Cond.initialized RX3]
def wsX4_enter_r3 : List Cond := [Cond.code yX3_readApplication cX3_readApplication 3 (some .boolean), Cond.fieldLink RX3 22 "CranePermits$Text" "next" "I", Cond.fieldLink RX3 19 "CranePermits$Text" "start" "I", Cond.fieldLink RX3 25 "CranePermits$Text" "formed" "Z", Cond.fieldLink RX3 29 "CranePermits$Text" "crane" "I", Cond.fieldLink RX3 32 "CranePermits$Text" "night" "I", Cond.fieldLink RX3 35 "CranePermits$Text" "hours" "I", Cond.fieldLink RX3 38 "CranePermits$Text" "swing" "I", Cond.methodLink RX3 41 yX3_readNumber, Cond.instanceMethod yX3_readNumber, Cond.selects RX3 yX3_readNumber yX3_readNumber, Cond.code yX3_readNumber cX3_readNumber 4 (some .int), Cond.methodLink RX3 49 yX3_signAt, Cond.instanceMethod yX3_signAt, Cond.selects RX3 yX3_signAt yX3_signAt, Cond.code yX3_signAt cX3_signAt 2 (some .int), Cond.fieldLink RX3 15 "CranePermits$Text" "length" "I", Cond.fieldLink RX3 9 "CranePermits$Text" "signs" "[C", Cond.static yX4_isIn, Cond.code yX4_isIn cX4_isIn 3 (some .boolean), Cond.methodLink RX3 45 yX3_readSign, Cond.instanceMethod yX3_readSign, Cond.selects RX3 yX3_readSign yX3_readSign, Cond.code yX3_readSign cX3_readSign 2 none]
def wsX4_enter_r4 : List Cond := [Cond.methodLink RX4 67 yX2_craneAt, Cond.instanceMethod yX2_craneAt, Cond.selects RX2 yX2_craneAt yX2_craneAt, Cond.code yX2_craneAt cX2_craneAt 3 (some (.object "CranePermits$Crane")), Cond.methodLink RX4 188 yX4_isPlan, Cond.static yX4_isPlan, Cond.code yX4_isPlan cX4_isPlan 3 (some .boolean), Cond.methodLink RX4 118 yX4_isNight, Cond.static yX4_isNight, Cond.code yX4_isNight cX4_isNight 1 (some .boolean), Cond.methodLink RX4 38 yX4_isIn, Cond.methodLink RX4 175 yX4_isSwing, Cond.static yX4_isSwing, Cond.code yX4_isSwing cX4_isSwing 1 (some .boolean), Cond.methodLink RX4 191 yX2_refusalOf, Cond.instanceMethod yX2_refusalOf, Cond.selects RX2 yX2_refusalOf yX2_refusalOf, Cond.code yX2_refusalOf cX2_refusalOf 6 (some .int), Cond.fieldLink RX2 174 "CranePermits$Crane" "street" "I", Cond.methodLink RX2 162 yX2_isBusy, Cond.instanceMethod yX2_isBusy, Cond.selects RX2 yX2_isBusy yX2_isBusy, Cond.code yX2_isBusy cX2_isBusy 6 (some .boolean), Cond.methodLink RX2 105 yX2_validAt]
def wsX4_enter_r5 : List Cond := [Cond.instanceMethod yX2_validAt, Cond.selects RX2 yX2_validAt yX2_validAt, Cond.code yX2_validAt cX2_validAt 3 (some (.object "CranePermits$Permit")), Cond.methodLink RX2 130 yX1_isFor, Cond.instanceMethod yX1_isFor, Cond.selects RX1 yX1_isFor yX1_isFor, Cond.code yX1_isFor cX1_isFor 2 (some .boolean), Cond.fieldLink RX1 13 "CranePermits$Permit" "crane" "LCranePermits$Crane;", Cond.fieldLink RX1 32 "CranePermits$Crane" "number" "I", Cond.methodLink RX2 138 yX1_meets, Cond.instanceMethod yX1_meets, Cond.selects RX1 yX1_meets yX1_meets, Cond.code yX1_meets cX1_meets 5 (some .boolean), Cond.fieldLink RX1 26 "CranePermits$Permit" "last" "I", Cond.fieldLink RX1 23 "CranePermits$Permit" "first" "I", Cond.fieldLink RX1 17 "CranePermits$Permit" "night" "I", Cond.methodLink RX2 166 yX2_mustStop, Cond.instanceMethod yX2_mustStop, Cond.selects RX2 yX2_mustStop yX2_mustStop, Cond.code yX2_mustStop cX2_mustStop 3 (some .boolean), Cond.static yX4_at, Cond.code yX4_at cX4_at 2 (some .int), Cond.methodLink RX2 91 yX2_stopWindOf, Cond.instanceMethod yX2_stopWindOf]
def wsX4_enter_r6 : List Cond := [Cond.selects RX2 yX2_stopWindOf yX2_stopWindOf, Cond.code yX2_stopWindOf cX2_stopWindOf 2 (some .int), Cond.fieldLink RX2 88 "CranePermits$Crane" "height" "I", Cond.methodLink RX2 170 yX2_lowestSharing, Cond.instanceMethod yX2_lowestSharing, Cond.selects RX2 yX2_lowestSharing yX2_lowestSharing, Cond.code yX2_lowestSharing cX2_lowestSharing 7 (some .int), Cond.fieldLink RX2 158 "CranePermits$Permit" "number" "I", Cond.methodLink RX2 154 yX2_shareAir, Cond.instanceMethod yX2_shareAir, Cond.selects RX2 yX2_shareAir yX2_shareAir, Cond.code yX2_shareAir cX2_shareAir 8 (some .boolean), Cond.fieldLink RX2 113 "CranePermits$Permit" "crane" "LCranePermits$Crane;", Cond.methodLink RX2 141 Lib.Math.abs.name, Cond.static Lib.Math.abs.name, Cond.initialized "java/lang/Math", Cond.code Lib.Math.abs.name Lib.Math.abs.code 1 (some .int), Cond.fieldLink RX2 151 "CranePermits$Permit" "swing" "I", Cond.methodLink RX2 147 yX0_airOf, Cond.instanceMethod yX0_airOf, Cond.selects RX0 yX0_airOf yX0_airOf, Cond.initialized RX0, Cond.code yX0_airOf cX0_airOf 8 (some .long), Cond.fieldLink RX0 9 "CranePermits$Crane" "eighths" "[J"]
def wsX4_enter_r7 : List Cond := [Cond.methodLink RX2 127 yX2_usedOf, Cond.instanceMethod yX2_usedOf, Cond.selects RX2 yX2_usedOf yX2_usedOf, Cond.code yX2_usedOf cX2_usedOf 6 (some .int), Cond.fieldLink RX2 117 "CranePermits$Permit" "hours" "I", Cond.methodLink RX2 109 yX1_isOf, Cond.instanceMethod yX1_isOf, Cond.selects RX1 yX1_isOf yX1_isOf, Cond.code yX1_isOf cX1_isOf 3 (some .boolean), Cond.fieldLink RX1 35 "CranePermits$Crane" "street" "I", Cond.methodLink RX2 120 yX2_useOf, Cond.instanceMethod yX2_useOf, Cond.selects RX2 yX2_useOf yX2_useOf, Cond.code yX2_useOf cX2_useOf 3 (some .int), Cond.fieldLink RX2 102 "CranePermits$Crane" "number" "I", Cond.methodLink RX2 124 yX2_creditsOf, Cond.instanceMethod yX2_creditsOf, Cond.selects RX2 yX2_creditsOf yX2_creditsOf, Cond.code yX2_creditsOf cX2_creditsOf 4 (some .int), Cond.static yX4_streetNight, Cond.code yX4_streetNight cX4_streetNight 2 (some .int), Cond.methodLink RX2 99 yX2_allowanceOf, Cond.instanceMethod yX2_allowanceOf, Cond.selects RX2 yX2_allowanceOf yX2_allowanceOf]
def wsX4_enter_r8 : List Cond := [Cond.code yX2_allowanceOf cX2_allowanceOf 4 (some .int), Cond.methodLink RX4 195 yX2_hasRoom, Cond.instanceMethod yX2_hasRoom, Cond.selects RX2 yX2_hasRoom yX2_hasRoom, Cond.code yX2_hasRoom cX2_hasRoom 1 (some .boolean), Cond.methodLink RX4 201 yX1_init, Cond.instanceMethod yX1_init, Cond.code yX1_init cX1_init 6 none, Cond.methodLink RX1 1 objectInit, Cond.instanceMethod objectInit, Cond.code objectInit ⟨#[0xb1]⟩ 1 none, Cond.fieldLink RX1 7 "CranePermits$Permit" "number" "I", Cond.fieldLink RX1 20 "CranePermits$Permit" "hours" "I", Cond.fieldLink RX1 29 "CranePermits$Permit" "swing" "I", Cond.methodLink RX4 204 yX2_grant, Cond.instanceMethod yX2_grant, Cond.selects RX2 yX2_grant yX2_grant, Cond.code yX2_grant cX2_grant 2 none, Cond.static yX4_put, Cond.code yX4_put cX4_put 3 none, Cond.methodLink RX4 52 yX4_remember, Cond.instanceMethod yX4_remember, Cond.selects RX4 yX4_remember yX4_remember, Cond.code yX4_remember cX4_remember 2 none]
def wsX4_enter_r9 : List Cond := [Cond.fieldLink RX4 23 "CranePermits" "pastCount" "I", Cond.fieldLink RX4 19 "CranePermits" "past" "[LCranePermits$Site;", Cond.methodLink RX4 261 arraycopyName]
def wsX4_enter : List Cond := .code yX4_enter cX4_enter 2 (some .int) :: ((wsX4_enter_r1 ++ (wsX4_enter_r2 ++ (wsX4_enter_r3 ++ (wsX4_enter_r4 ++ (wsX4_enter_r5 ++ (wsX4_enter_r6 ++ (wsX4_enter_r7 ++ (wsX4_enter_r8 ++ wsX4_enter_r9)))))))) ++ wsX40 ++ wsX20 ++ wsX30 ++ wsX10 ++ wsX00)
def wsX5_init : List Cond := .code yX5_init cX5_init 2 none :: ([.methodLink RX5 1 objectInit, .instanceMethod objectInit, .code objectInit ⟨#[0xb1]⟩ 1 none, .arrayClass .int, .fieldLink RX5 7 "CranePermitsModel" "d" "[I", .fieldLink RX5 13 "CranePermitsModel" "was" "[I", .fieldLink RX5 16 "CranePermitsModel" "aside" "[I", .arrayClass .char, .fieldLink RX5 19 "CranePermitsModel" "text" "[C", .fieldLink RX5 23 "CranePermitsModel" "got" "[I"] ++ wsX50)
def wsX5_in : List Cond := .code yX5_in cX5_in 3 (some .boolean) :: ([])
def wsX5_isCrane : List Cond := .code yX5_isCrane cX5_isCrane 2 (some .boolean) :: ([.fieldLink RX5 7 "CranePermitsModel" "d" "[I", .methodLink RX5 26 yX5_in, .static yX5_in, .initialized RX5, .code yX5_in cX5_in 3 (some .boolean)] ++ wsX50)
def wsX5_isPermit : List Cond := .code yX5_isPermit cX5_isPermit 2 (some .boolean) :: ([.fieldLink RX5 7 "CranePermitsModel" "d" "[I", .methodLink RX5 26 yX5_in, .static yX5_in, .initialized RX5, .code yX5_in cX5_in 3 (some .boolean)] ++ wsX50)
def wsX5_isNight : List Cond := .code yX5_isNight cX5_isNight 1 (some .boolean) :: ([.methodLink RX5 26 yX5_in, .static yX5_in, .initialized RX5, .code yX5_in cX5_in 3 (some .boolean)])
def wsX5_isStreet : List Cond := .code yX5_isStreet cX5_isStreet 1 (some .boolean) :: ([.methodLink RX5 26 yX5_in, .static yX5_in, .initialized RX5, .code yX5_in cX5_in 3 (some .boolean)])
def wsX5_isSwing : List Cond := .code yX5_isSwing cX5_isSwing 1 (some .boolean) :: ([.methodLink RX5 26 yX5_in, .static yX5_in, .initialized RX5, .code yX5_in cX5_in 3 (some .boolean)])
def wsX5_areHours : List Cond := .code yX5_areHours cX5_areHours 1 (some .boolean) :: ([.methodLink RX5 26 yX5_in, .static yX5_in, .initialized RX5, .code yX5_in cX5_in 3 (some .boolean)])
def wsX5_craned : List Cond := .code yX5_craned cX5_craned 3 (some .int) :: ([.fieldLink RX5 7 "CranePermitsModel" "d" "[I"] ++ wsX50)
def wsX5_of : List Cond := .code yX5_of cX5_of 3 (some .int) :: ([.fieldLink RX5 7 "CranePermitsModel" "d" "[I"] ++ wsX50)
def wsX5_spot : List Cond := .code yX5_spot cX5_spot 2 (some .int) :: ([])
def wsX5_records : List Cond := .code yX5_records cX5_records 2 none :: ([.fieldLink RX5 30 "CranePermitsModel" "states" "I", .fieldLink RX5 13 "CranePermitsModel" "was" "[I", .fieldLink RX5 7 "CranePermitsModel" "d" "[I"] ++ wsX50)
def wsX5_direction : List Cond := .code yX5_direction cX5_direction 2 (some .int) :: ([])
def wsX5_isCovered : List Cond := .code yX5_isCovered cX5_isCovered 7 (some .boolean) :: ([.methodLink RX5 34 yX5_craned, .instanceMethod yX5_craned, .selects RX5 yX5_craned yX5_craned, .initialized RX5, .code yX5_craned cX5_craned 3 (some .int), .fieldLink RX5 7 "CranePermitsModel" "d" "[I", .methodLink RX5 38 yX5_direction, .static yX5_direction, .code yX5_direction cX5_direction 2 (some .int)] ++ wsX50)
def wsX5_areaMeets : List Cond := .code yX5_areaMeets cX5_areaMeets 6 (some .boolean) :: ([.methodLink RX5 41 yX5_isCovered, .instanceMethod yX5_isCovered, .selects RX5 yX5_isCovered yX5_isCovered, .initialized RX5, .code yX5_isCovered cX5_isCovered 7 (some .boolean), .methodLink RX5 34 yX5_craned, .instanceMethod yX5_craned, .selects RX5 yX5_craned yX5_craned, .code yX5_craned cX5_craned 3 (some .int), .fieldLink RX5 7 "CranePermitsModel" "d" "[I", .methodLink RX5 38 yX5_direction, .static yX5_direction, .code yX5_direction cX5_direction 2 (some .int)] ++ wsX50)
def wsX5_hoursMeet : List Cond := .code yX5_hoursMeet cX5_hoursMeet 2 (some .boolean) :: ([])
def wsX5_air : List Cond := .code yX5_air cX5_air 8 (some .boolean) :: ([.fieldLink RX5 7 "CranePermitsModel" "d" "[I", .methodLink RX5 45 yX5_of, .instanceMethod yX5_of, .selects RX5 yX5_of yX5_of, .initialized RX5, .code yX5_of cX5_of 3 (some .int), .methodLink RX5 34 yX5_craned, .instanceMethod yX5_craned, .selects RX5 yX5_craned yX5_craned, .code yX5_craned cX5_craned 3 (some .int), .methodLink RX5 48 yX5_hoursMeet, .static yX5_hoursMeet, .code yX5_hoursMeet cX5_hoursMeet 2 (some .boolean), .methodLink RX5 52 yX5_areaMeets, .instanceMethod yX5_areaMeets, .selects RX5 yX5_areaMeets yX5_areaMeets, .code yX5_areaMeets cX5_areaMeets 6 (some .boolean), .methodLink RX5 41 yX5_isCovered, .instanceMethod yX5_isCovered, .selects RX5 yX5_isCovered yX5_isCovered, .code yX5_isCovered cX5_isCovered 7 (some .boolean), .methodLink RX5 38 yX5_direction, .static yX5_direction, .code yX5_direction cX5_direction 2 (some .int)] ++ wsX50)
def wsX5_firstInAir_r1 : List Cond := [Cond.fieldLink RX5 7 "CranePermitsModel" "d" "[I", Cond.methodLink RX5 45 yX5_of, Cond.instanceMethod yX5_of, Cond.selects RX5 yX5_of yX5_of, Cond.initialized RX5, Cond.code yX5_of cX5_of 3 (some .int), Cond.methodLink RX5 55 yX5_air, Cond.instanceMethod yX5_air, Cond.selects RX5 yX5_air yX5_air, Cond.code yX5_air cX5_air 8 (some .boolean), Cond.methodLink RX5 34 yX5_craned, Cond.instanceMethod yX5_craned, Cond.selects RX5 yX5_craned yX5_craned, Cond.code yX5_craned cX5_craned 3 (some .int), Cond.methodLink RX5 48 yX5_hoursMeet, Cond.static yX5_hoursMeet, Cond.code yX5_hoursMeet cX5_hoursMeet 2 (some .boolean), Cond.methodLink RX5 52 yX5_areaMeets, Cond.instanceMethod yX5_areaMeets, Cond.selects RX5 yX5_areaMeets yX5_areaMeets, Cond.code yX5_areaMeets cX5_areaMeets 6 (some .boolean), Cond.methodLink RX5 41 yX5_isCovered, Cond.instanceMethod yX5_isCovered, Cond.selects RX5 yX5_isCovered yX5_isCovered]
def wsX5_firstInAir_r2 : List Cond := [Cond.code yX5_isCovered cX5_isCovered 7 (some .boolean), Cond.methodLink RX5 38 yX5_direction, Cond.static yX5_direction, Cond.code yX5_direction cX5_direction 2 (some .int)]
def wsX5_firstInAir : List Cond := .code yX5_firstInAir cX5_firstInAir 6 (some .int) :: ((wsX5_firstInAir_r1 ++ wsX5_firstInAir_r2) ++ wsX50)
def wsX5_allowed : List Cond := .code yX5_allowed cX5_allowed 4 (some .int) :: ([.fieldLink RX5 7 "CranePermitsModel" "d" "[I", .methodLink RX5 59 yX5_spot, .static yX5_spot, .initialized RX5, .code yX5_spot cX5_spot 2 (some .int)] ++ wsX50)
def wsX5_credits : List Cond := .code yX5_credits cX5_credits 4 (some .int) :: ([.fieldLink RX5 7 "CranePermitsModel" "d" "[I", .methodLink RX5 59 yX5_spot, .static yX5_spot, .initialized RX5, .code yX5_spot cX5_spot 2 (some .int), .methodLink RX5 62 yX5_allowed, .instanceMethod yX5_allowed, .selects RX5 yX5_allowed yX5_allowed, .code yX5_allowed cX5_allowed 4 (some .int)] ++ wsX50)
def wsX5_hoursIn : List Cond := .code yX5_hoursIn cX5_hoursIn 1 (some .int) :: ([])
def wsX5_uses : List Cond := .code yX5_uses cX5_uses 2 (some .int) :: ([.methodLink RX5 45 yX5_of, .instanceMethod yX5_of, .selects RX5 yX5_of yX5_of, .initialized RX5, .code yX5_of cX5_of 3 (some .int), .fieldLink RX5 7 "CranePermitsModel" "d" "[I", .methodLink RX5 65 yX5_hoursIn, .static yX5_hoursIn, .code yX5_hoursIn cX5_hoursIn 1 (some .int), .methodLink RX5 34 yX5_craned, .instanceMethod yX5_craned, .selects RX5 yX5_craned yX5_craned, .code yX5_craned cX5_craned 3 (some .int)] ++ wsX50)
def wsX5_isOf : List Cond := .code yX5_isOf cX5_isOf 4 (some .boolean) :: ([.methodLink RX5 45 yX5_of, .instanceMethod yX5_of, .selects RX5 yX5_of yX5_of, .initialized RX5, .code yX5_of cX5_of 3 (some .int), .fieldLink RX5 7 "CranePermitsModel" "d" "[I", .methodLink RX5 34 yX5_craned, .instanceMethod yX5_craned, .selects RX5 yX5_craned yX5_craned, .code yX5_craned cX5_craned 3 (some .int)] ++ wsX50)
def wsX5_used : List Cond := .code yX5_used cX5_used 5 (some .int) :: ([.fieldLink RX5 7 "CranePermitsModel" "d" "[I", .methodLink RX5 69 yX5_isOf, .instanceMethod yX5_isOf, .selects RX5 yX5_isOf yX5_isOf, .initialized RX5, .code yX5_isOf cX5_isOf 4 (some .boolean), .methodLink RX5 45 yX5_of, .instanceMethod yX5_of, .selects RX5 yX5_of yX5_of, .code yX5_of cX5_of 3 (some .int), .methodLink RX5 34 yX5_craned, .instanceMethod yX5_craned, .selects RX5 yX5_craned yX5_craned, .code yX5_craned cX5_craned 3 (some .int), .methodLink RX5 72 yX5_uses, .instanceMethod yX5_uses, .selects RX5 yX5_uses yX5_uses, .code yX5_uses cX5_uses 2 (some .int), .methodLink RX5 65 yX5_hoursIn, .static yX5_hoursIn, .code yX5_hoursIn cX5_hoursIn 1 (some .int)] ++ wsX50)
def wsX5_stops : List Cond := .code yX5_stops cX5_stops 3 (some .boolean) :: ([.fieldLink RX5 7 "CranePermitsModel" "d" "[I", .methodLink RX5 34 yX5_craned, .instanceMethod yX5_craned, .selects RX5 yX5_craned yX5_craned, .initialized RX5, .code yX5_craned cX5_craned 3 (some .int)] ++ wsX50)
def wsX5_calms : List Cond := .code yX5_calms cX5_calms 4 (some .int) :: ([.fieldLink RX5 7 "CranePermitsModel" "d" "[I", .methodLink RX5 45 yX5_of, .instanceMethod yX5_of, .selects RX5 yX5_of yX5_of, .initialized RX5, .code yX5_of cX5_of 3 (some .int), .methodLink RX5 75 yX5_stops, .instanceMethod yX5_stops, .selects RX5 yX5_stops yX5_stops, .code yX5_stops cX5_stops 3 (some .boolean), .methodLink RX5 34 yX5_craned, .instanceMethod yX5_craned, .selects RX5 yX5_craned yX5_craned, .code yX5_craned cX5_craned 3 (some .int)] ++ wsX50)
def wsX5_saves_r1 : List Cond := [Cond.fieldLink RX5 7 "CranePermitsModel" "d" "[I", Cond.methodLink RX5 69 yX5_isOf, Cond.instanceMethod yX5_isOf, Cond.selects RX5 yX5_isOf yX5_isOf, Cond.initialized RX5, Cond.code yX5_isOf cX5_isOf 4 (some .boolean), Cond.methodLink RX5 45 yX5_of, Cond.instanceMethod yX5_of, Cond.selects RX5 yX5_of yX5_of, Cond.code yX5_of cX5_of 3 (some .int), Cond.methodLink RX5 34 yX5_craned, Cond.instanceMethod yX5_craned, Cond.selects RX5 yX5_craned yX5_craned, Cond.code yX5_craned cX5_craned 3 (some .int), Cond.methodLink RX5 78 yX5_used, Cond.instanceMethod yX5_used, Cond.selects RX5 yX5_used yX5_used, Cond.code yX5_used cX5_used 5 (some .int), Cond.methodLink RX5 72 yX5_uses, Cond.instanceMethod yX5_uses, Cond.selects RX5 yX5_uses yX5_uses, Cond.code yX5_uses cX5_uses 2 (some .int), Cond.methodLink RX5 65 yX5_hoursIn, Cond.static yX5_hoursIn]
def wsX5_saves_r2 : List Cond := [Cond.code yX5_hoursIn cX5_hoursIn 1 (some .int), Cond.methodLink RX5 81 yX5_credits, Cond.instanceMethod yX5_credits, Cond.selects RX5 yX5_credits yX5_credits, Cond.code yX5_credits cX5_credits 4 (some .int), Cond.methodLink RX5 59 yX5_spot, Cond.static yX5_spot, Cond.code yX5_spot cX5_spot 2 (some .int), Cond.methodLink RX5 62 yX5_allowed, Cond.instanceMethod yX5_allowed, Cond.selects RX5 yX5_allowed yX5_allowed, Cond.code yX5_allowed cX5_allowed 4 (some .int)]
def wsX5_saves : List Cond := .code yX5_saves cX5_saves 5 (some .int) :: ((wsX5_saves_r1 ++ wsX5_saves_r2) ++ wsX50)
def wsX5_savesAll_r1 : List Cond := [Cond.methodLink RX5 84 yX5_saves, Cond.instanceMethod yX5_saves, Cond.selects RX5 yX5_saves yX5_saves, Cond.initialized RX5, Cond.code yX5_saves cX5_saves 5 (some .int), Cond.fieldLink RX5 7 "CranePermitsModel" "d" "[I", Cond.methodLink RX5 69 yX5_isOf, Cond.instanceMethod yX5_isOf, Cond.selects RX5 yX5_isOf yX5_isOf, Cond.code yX5_isOf cX5_isOf 4 (some .boolean), Cond.methodLink RX5 45 yX5_of, Cond.instanceMethod yX5_of, Cond.selects RX5 yX5_of yX5_of, Cond.code yX5_of cX5_of 3 (some .int), Cond.methodLink RX5 34 yX5_craned, Cond.instanceMethod yX5_craned, Cond.selects RX5 yX5_craned yX5_craned, Cond.code yX5_craned cX5_craned 3 (some .int), Cond.methodLink RX5 78 yX5_used, Cond.instanceMethod yX5_used, Cond.selects RX5 yX5_used yX5_used, Cond.code yX5_used cX5_used 5 (some .int), Cond.methodLink RX5 72 yX5_uses, Cond.instanceMethod yX5_uses]
def wsX5_savesAll_r2 : List Cond := [Cond.selects RX5 yX5_uses yX5_uses, Cond.code yX5_uses cX5_uses 2 (some .int), Cond.methodLink RX5 65 yX5_hoursIn, Cond.static yX5_hoursIn, Cond.code yX5_hoursIn cX5_hoursIn 1 (some .int), Cond.methodLink RX5 81 yX5_credits, Cond.instanceMethod yX5_credits, Cond.selects RX5 yX5_credits yX5_credits, Cond.code yX5_credits cX5_credits 4 (some .int), Cond.methodLink RX5 59 yX5_spot, Cond.static yX5_spot, Cond.code yX5_spot cX5_spot 2 (some .int), Cond.methodLink RX5 62 yX5_allowed, Cond.instanceMethod yX5_allowed, Cond.selects RX5 yX5_allowed yX5_allowed, Cond.code yX5_allowed cX5_allowed 4 (some .int)]
def wsX5_savesAll : List Cond := .code yX5_savesAll cX5_savesAll 3 (some .int) :: ((wsX5_savesAll_r1 ++ wsX5_savesAll_r2) ++ wsX50)
def wsX5_crane : List Cond := .code yX5_crane cX5_crane 8 (some .int) :: ([.fieldLink RX5 7 "CranePermitsModel" "d" "[I", .methodLink RX5 26 yX5_in, .static yX5_in, .initialized RX5, .code yX5_in cX5_in 3 (some .boolean), .methodLink RX5 87 yX5_isStreet, .static yX5_isStreet, .code yX5_isStreet cX5_isStreet 1 (some .boolean), .methodLink RX5 34 yX5_craned, .instanceMethod yX5_craned, .selects RX5 yX5_craned yX5_craned, .code yX5_craned cX5_craned 3 (some .int), .methodLink RX5 91 yX5_records, .instanceMethod yX5_records, .selects RX5 yX5_records yX5_records, .code yX5_records cX5_records 2 none, .fieldLink RX5 30 "CranePermitsModel" "states" "I", .fieldLink RX5 13 "CranePermitsModel" "was" "[I"] ++ wsX50)
def wsX5_noise_r1 : List Cond := [Cond.fieldLink RX5 7 "CranePermitsModel" "d" "[I", Cond.methodLink RX5 94 yX5_isCrane, Cond.instanceMethod yX5_isCrane, Cond.selects RX5 yX5_isCrane yX5_isCrane, Cond.initialized RX5, Cond.code yX5_isCrane cX5_isCrane 2 (some .boolean), Cond.methodLink RX5 26 yX5_in, Cond.static yX5_in, Cond.code yX5_in cX5_in 3 (some .boolean), Cond.methodLink RX5 91 yX5_records, Cond.instanceMethod yX5_records, Cond.selects RX5 yX5_records yX5_records, Cond.code yX5_records cX5_records 2 none, Cond.fieldLink RX5 30 "CranePermitsModel" "states" "I", Cond.fieldLink RX5 13 "CranePermitsModel" "was" "[I", Cond.methodLink RX5 97 yX5_savesAll, Cond.instanceMethod yX5_savesAll, Cond.selects RX5 yX5_savesAll yX5_savesAll, Cond.code yX5_savesAll cX5_savesAll 3 (some .int), Cond.methodLink RX5 84 yX5_saves, Cond.instanceMethod yX5_saves, Cond.selects RX5 yX5_saves yX5_saves, Cond.code yX5_saves cX5_saves 5 (some .int), Cond.methodLink RX5 69 yX5_isOf]
def wsX5_noise_r2 : List Cond := [Cond.instanceMethod yX5_isOf, Cond.selects RX5 yX5_isOf yX5_isOf, Cond.code yX5_isOf cX5_isOf 4 (some .boolean), Cond.methodLink RX5 45 yX5_of, Cond.instanceMethod yX5_of, Cond.selects RX5 yX5_of yX5_of, Cond.code yX5_of cX5_of 3 (some .int), Cond.methodLink RX5 34 yX5_craned, Cond.instanceMethod yX5_craned, Cond.selects RX5 yX5_craned yX5_craned, Cond.code yX5_craned cX5_craned 3 (some .int), Cond.methodLink RX5 78 yX5_used, Cond.instanceMethod yX5_used, Cond.selects RX5 yX5_used yX5_used, Cond.code yX5_used cX5_used 5 (some .int), Cond.methodLink RX5 72 yX5_uses, Cond.instanceMethod yX5_uses, Cond.selects RX5 yX5_uses yX5_uses, Cond.code yX5_uses cX5_uses 2 (some .int), Cond.methodLink RX5 65 yX5_hoursIn, Cond.static yX5_hoursIn, Cond.code yX5_hoursIn cX5_hoursIn 1 (some .int), Cond.methodLink RX5 81 yX5_credits, Cond.instanceMethod yX5_credits]
def wsX5_noise_r3 : List Cond := [Cond.selects RX5 yX5_credits yX5_credits, Cond.code yX5_credits cX5_credits 4 (some .int), Cond.methodLink RX5 59 yX5_spot, Cond.static yX5_spot, Cond.code yX5_spot cX5_spot 2 (some .int), Cond.methodLink RX5 62 yX5_allowed, Cond.instanceMethod yX5_allowed, Cond.selects RX5 yX5_allowed yX5_allowed, Cond.code yX5_allowed cX5_allowed 4 (some .int)]
def wsX5_noise : List Cond := .code yX5_noise cX5_noise 3 (some .int) :: ((wsX5_noise_r1 ++ (wsX5_noise_r2 ++ wsX5_noise_r3)) ++ wsX50)
def wsX5_valid : List Cond := .code yX5_valid cX5_valid 4 (some .int) :: ([.fieldLink RX5 7 "CranePermitsModel" "d" "[I", .methodLink RX5 45 yX5_of, .instanceMethod yX5_of, .selects RX5 yX5_of yX5_of, .initialized RX5, .code yX5_of cX5_of 3 (some .int)] ++ wsX50)
def wsX5_craneOf : List Cond := .code yX5_craneOf cX5_craneOf 3 (some .int) :: ([.fieldLink RX5 7 "CranePermitsModel" "d" "[I", .methodLink RX5 94 yX5_isCrane, .instanceMethod yX5_isCrane, .selects RX5 yX5_isCrane yX5_isCrane, .initialized RX5, .code yX5_isCrane cX5_isCrane 2 (some .boolean), .methodLink RX5 26 yX5_in, .static yX5_in, .code yX5_in cX5_in 3 (some .boolean), .methodLink RX5 34 yX5_craned, .instanceMethod yX5_craned, .selects RX5 yX5_craned yX5_craned, .code yX5_craned cX5_craned 3 (some .int), .methodLink RX5 101 yX5_valid, .instanceMethod yX5_valid, .selects RX5 yX5_valid yX5_valid, .code yX5_valid cX5_valid 4 (some .int), .methodLink RX5 45 yX5_of, .instanceMethod yX5_of, .selects RX5 yX5_of yX5_of, .code yX5_of cX5_of 3 (some .int)] ++ wsX50)
def wsX5_set_r1 : List Cond := [Cond.fieldLink RX5 7 "CranePermitsModel" "d" "[I", Cond.methodLink RX5 26 yX5_in, Cond.static yX5_in, Cond.initialized RX5, Cond.code yX5_in cX5_in 3 (some .boolean), Cond.methodLink RX5 91 yX5_records, Cond.instanceMethod yX5_records, Cond.selects RX5 yX5_records yX5_records, Cond.code yX5_records cX5_records 2 none, Cond.fieldLink RX5 30 "CranePermitsModel" "states" "I", Cond.fieldLink RX5 13 "CranePermitsModel" "was" "[I", Cond.methodLink RX5 97 yX5_savesAll, Cond.instanceMethod yX5_savesAll, Cond.selects RX5 yX5_savesAll yX5_savesAll, Cond.code yX5_savesAll cX5_savesAll 3 (some .int), Cond.methodLink RX5 84 yX5_saves, Cond.instanceMethod yX5_saves, Cond.selects RX5 yX5_saves yX5_saves, Cond.code yX5_saves cX5_saves 5 (some .int), Cond.methodLink RX5 69 yX5_isOf, Cond.instanceMethod yX5_isOf, Cond.selects RX5 yX5_isOf yX5_isOf, Cond.code yX5_isOf cX5_isOf 4 (some .boolean), Cond.methodLink RX5 45 yX5_of]
def wsX5_set_r2 : List Cond := [Cond.instanceMethod yX5_of, Cond.selects RX5 yX5_of yX5_of, Cond.code yX5_of cX5_of 3 (some .int), Cond.methodLink RX5 34 yX5_craned, Cond.instanceMethod yX5_craned, Cond.selects RX5 yX5_craned yX5_craned, Cond.code yX5_craned cX5_craned 3 (some .int), Cond.methodLink RX5 78 yX5_used, Cond.instanceMethod yX5_used, Cond.selects RX5 yX5_used yX5_used, Cond.code yX5_used cX5_used 5 (some .int), Cond.methodLink RX5 72 yX5_uses, Cond.instanceMethod yX5_uses, Cond.selects RX5 yX5_uses yX5_uses, Cond.code yX5_uses cX5_uses 2 (some .int), Cond.methodLink RX5 65 yX5_hoursIn, Cond.static yX5_hoursIn, Cond.code yX5_hoursIn cX5_hoursIn 1 (some .int), Cond.methodLink RX5 81 yX5_credits, Cond.instanceMethod yX5_credits, Cond.selects RX5 yX5_credits yX5_credits, Cond.code yX5_credits cX5_credits 4 (some .int), Cond.methodLink RX5 59 yX5_spot, Cond.static yX5_spot]
def wsX5_set_r3 : List Cond := [Cond.code yX5_spot cX5_spot 2 (some .int), Cond.methodLink RX5 62 yX5_allowed, Cond.instanceMethod yX5_allowed, Cond.selects RX5 yX5_allowed yX5_allowed, Cond.code yX5_allowed cX5_allowed 4 (some .int), Cond.methodLink RX5 104 yX5_calms, Cond.instanceMethod yX5_calms, Cond.selects RX5 yX5_calms yX5_calms, Cond.code yX5_calms cX5_calms 4 (some .int), Cond.methodLink RX5 75 yX5_stops, Cond.instanceMethod yX5_stops, Cond.selects RX5 yX5_stops yX5_stops, Cond.code yX5_stops cX5_stops 3 (some .boolean)]
def wsX5_set : List Cond := .code yX5_set cX5_set 6 (some .int) :: ((wsX5_set_r1 ++ (wsX5_set_r2 ++ wsX5_set_r3)) ++ wsX50)
def wsX5_wind_r1 : List Cond := [Cond.fieldLink RX5 7 "CranePermitsModel" "d" "[I", Cond.methodLink RX5 107 yX5_isNight, Cond.static yX5_isNight, Cond.initialized RX5, Cond.code yX5_isNight cX5_isNight 1 (some .boolean), Cond.methodLink RX5 26 yX5_in, Cond.static yX5_in, Cond.code yX5_in cX5_in 3 (some .boolean), Cond.methodLink RX5 91 yX5_records, Cond.instanceMethod yX5_records, Cond.selects RX5 yX5_records yX5_records, Cond.code yX5_records cX5_records 2 none, Cond.fieldLink RX5 30 "CranePermitsModel" "states" "I", Cond.fieldLink RX5 13 "CranePermitsModel" "was" "[I", Cond.methodLink RX5 104 yX5_calms, Cond.instanceMethod yX5_calms, Cond.selects RX5 yX5_calms yX5_calms, Cond.code yX5_calms cX5_calms 4 (some .int), Cond.methodLink RX5 45 yX5_of, Cond.instanceMethod yX5_of, Cond.selects RX5 yX5_of yX5_of, Cond.code yX5_of cX5_of 3 (some .int), Cond.methodLink RX5 75 yX5_stops, Cond.instanceMethod yX5_stops]
def wsX5_wind_r2 : List Cond := [Cond.selects RX5 yX5_stops yX5_stops, Cond.code yX5_stops cX5_stops 3 (some .boolean), Cond.methodLink RX5 34 yX5_craned, Cond.instanceMethod yX5_craned, Cond.selects RX5 yX5_craned yX5_craned, Cond.code yX5_craned cX5_craned 3 (some .int)]
def wsX5_wind : List Cond := .code yX5_wind cX5_wind 3 (some .int) :: ((wsX5_wind_r1 ++ wsX5_wind_r2) ++ wsX50)
def wsX5_allow_r1 : List Cond := [Cond.fieldLink RX5 7 "CranePermitsModel" "d" "[I", Cond.methodLink RX5 87 yX5_isStreet, Cond.static yX5_isStreet, Cond.initialized RX5, Cond.code yX5_isStreet cX5_isStreet 1 (some .boolean), Cond.methodLink RX5 26 yX5_in, Cond.static yX5_in, Cond.code yX5_in cX5_in 3 (some .boolean), Cond.methodLink RX5 107 yX5_isNight, Cond.static yX5_isNight, Cond.code yX5_isNight cX5_isNight 1 (some .boolean), Cond.methodLink RX5 91 yX5_records, Cond.instanceMethod yX5_records, Cond.selects RX5 yX5_records yX5_records, Cond.code yX5_records cX5_records 2 none, Cond.fieldLink RX5 30 "CranePermitsModel" "states" "I", Cond.fieldLink RX5 13 "CranePermitsModel" "was" "[I", Cond.methodLink RX5 59 yX5_spot, Cond.static yX5_spot, Cond.code yX5_spot cX5_spot 2 (some .int), Cond.methodLink RX5 84 yX5_saves, Cond.instanceMethod yX5_saves, Cond.selects RX5 yX5_saves yX5_saves, Cond.code yX5_saves cX5_saves 5 (some .int)]
def wsX5_allow_r2 : List Cond := [Cond.methodLink RX5 69 yX5_isOf, Cond.instanceMethod yX5_isOf, Cond.selects RX5 yX5_isOf yX5_isOf, Cond.code yX5_isOf cX5_isOf 4 (some .boolean), Cond.methodLink RX5 45 yX5_of, Cond.instanceMethod yX5_of, Cond.selects RX5 yX5_of yX5_of, Cond.code yX5_of cX5_of 3 (some .int), Cond.methodLink RX5 34 yX5_craned, Cond.instanceMethod yX5_craned, Cond.selects RX5 yX5_craned yX5_craned, Cond.code yX5_craned cX5_craned 3 (some .int), Cond.methodLink RX5 78 yX5_used, Cond.instanceMethod yX5_used, Cond.selects RX5 yX5_used yX5_used, Cond.code yX5_used cX5_used 5 (some .int), Cond.methodLink RX5 72 yX5_uses, Cond.instanceMethod yX5_uses, Cond.selects RX5 yX5_uses yX5_uses, Cond.code yX5_uses cX5_uses 2 (some .int), Cond.methodLink RX5 65 yX5_hoursIn, Cond.static yX5_hoursIn, Cond.code yX5_hoursIn cX5_hoursIn 1 (some .int), Cond.methodLink RX5 81 yX5_credits]
def wsX5_allow_r3 : List Cond := [Cond.instanceMethod yX5_credits, Cond.selects RX5 yX5_credits yX5_credits, Cond.code yX5_credits cX5_credits 4 (some .int), Cond.methodLink RX5 62 yX5_allowed, Cond.instanceMethod yX5_allowed, Cond.selects RX5 yX5_allowed yX5_allowed, Cond.code yX5_allowed cX5_allowed 4 (some .int)]
def wsX5_allow : List Cond := .code yX5_allow cX5_allow 4 (some .int) :: ((wsX5_allow_r1 ++ (wsX5_allow_r2 ++ wsX5_allow_r3)) ++ wsX50)
def wsX5_transfer_r1 : List Cond := [Cond.fieldLink RX5 7 "CranePermitsModel" "d" "[I", Cond.methodLink RX5 87 yX5_isStreet, Cond.static yX5_isStreet, Cond.initialized RX5, Cond.code yX5_isStreet cX5_isStreet 1 (some .boolean), Cond.methodLink RX5 26 yX5_in, Cond.static yX5_in, Cond.code yX5_in cX5_in 3 (some .boolean), Cond.methodLink RX5 107 yX5_isNight, Cond.static yX5_isNight, Cond.code yX5_isNight cX5_isNight 1 (some .boolean), Cond.methodLink RX5 81 yX5_credits, Cond.instanceMethod yX5_credits, Cond.selects RX5 yX5_credits yX5_credits, Cond.code yX5_credits cX5_credits 4 (some .int), Cond.methodLink RX5 59 yX5_spot, Cond.static yX5_spot, Cond.code yX5_spot cX5_spot 2 (some .int), Cond.methodLink RX5 62 yX5_allowed, Cond.instanceMethod yX5_allowed, Cond.selects RX5 yX5_allowed yX5_allowed, Cond.code yX5_allowed cX5_allowed 4 (some .int), Cond.methodLink RX5 78 yX5_used, Cond.instanceMethod yX5_used]
def wsX5_transfer_r2 : List Cond := [Cond.selects RX5 yX5_used yX5_used, Cond.code yX5_used cX5_used 5 (some .int), Cond.methodLink RX5 69 yX5_isOf, Cond.instanceMethod yX5_isOf, Cond.selects RX5 yX5_isOf yX5_isOf, Cond.code yX5_isOf cX5_isOf 4 (some .boolean), Cond.methodLink RX5 45 yX5_of, Cond.instanceMethod yX5_of, Cond.selects RX5 yX5_of yX5_of, Cond.code yX5_of cX5_of 3 (some .int), Cond.methodLink RX5 34 yX5_craned, Cond.instanceMethod yX5_craned, Cond.selects RX5 yX5_craned yX5_craned, Cond.code yX5_craned cX5_craned 3 (some .int), Cond.methodLink RX5 72 yX5_uses, Cond.instanceMethod yX5_uses, Cond.selects RX5 yX5_uses yX5_uses, Cond.code yX5_uses cX5_uses 2 (some .int), Cond.methodLink RX5 65 yX5_hoursIn, Cond.static yX5_hoursIn, Cond.code yX5_hoursIn cX5_hoursIn 1 (some .int), Cond.methodLink RX5 91 yX5_records, Cond.instanceMethod yX5_records, Cond.selects RX5 yX5_records yX5_records]
def wsX5_transfer_r3 : List Cond := [Cond.code yX5_records cX5_records 2 none, Cond.fieldLink RX5 30 "CranePermitsModel" "states" "I", Cond.fieldLink RX5 13 "CranePermitsModel" "was" "[I"]
def wsX5_transfer : List Cond := .code yX5_transfer cX5_transfer 6 (some .int) :: ((wsX5_transfer_r1 ++ (wsX5_transfer_r2 ++ wsX5_transfer_r3)) ++ wsX50)
def wsX5_validOf : List Cond := .code yX5_validOf cX5_validOf 5 (some .int) :: ([.fieldLink RX5 7 "CranePermitsModel" "d" "[I", .methodLink RX5 69 yX5_isOf, .instanceMethod yX5_isOf, .selects RX5 yX5_isOf yX5_isOf, .initialized RX5, .code yX5_isOf cX5_isOf 4 (some .boolean), .methodLink RX5 45 yX5_of, .instanceMethod yX5_of, .selects RX5 yX5_of yX5_of, .code yX5_of cX5_of 3 (some .int), .methodLink RX5 34 yX5_craned, .instanceMethod yX5_craned, .selects RX5 yX5_craned yX5_craned, .code yX5_craned cX5_craned 3 (some .int)] ++ wsX50)
def wsX5_street_r1 : List Cond := [Cond.fieldLink RX5 7 "CranePermitsModel" "d" "[I", Cond.methodLink RX5 87 yX5_isStreet, Cond.static yX5_isStreet, Cond.initialized RX5, Cond.code yX5_isStreet cX5_isStreet 1 (some .boolean), Cond.methodLink RX5 26 yX5_in, Cond.static yX5_in, Cond.code yX5_in cX5_in 3 (some .boolean), Cond.methodLink RX5 107 yX5_isNight, Cond.static yX5_isNight, Cond.code yX5_isNight cX5_isNight 1 (some .boolean), Cond.methodLink RX5 62 yX5_allowed, Cond.instanceMethod yX5_allowed, Cond.selects RX5 yX5_allowed yX5_allowed, Cond.code yX5_allowed cX5_allowed 4 (some .int), Cond.methodLink RX5 59 yX5_spot, Cond.static yX5_spot, Cond.code yX5_spot cX5_spot 2 (some .int), Cond.methodLink RX5 81 yX5_credits, Cond.instanceMethod yX5_credits, Cond.selects RX5 yX5_credits yX5_credits, Cond.code yX5_credits cX5_credits 4 (some .int), Cond.methodLink RX5 78 yX5_used, Cond.instanceMethod yX5_used]
def wsX5_street_r2 : List Cond := [Cond.selects RX5 yX5_used yX5_used, Cond.code yX5_used cX5_used 5 (some .int), Cond.methodLink RX5 69 yX5_isOf, Cond.instanceMethod yX5_isOf, Cond.selects RX5 yX5_isOf yX5_isOf, Cond.code yX5_isOf cX5_isOf 4 (some .boolean), Cond.methodLink RX5 45 yX5_of, Cond.instanceMethod yX5_of, Cond.selects RX5 yX5_of yX5_of, Cond.code yX5_of cX5_of 3 (some .int), Cond.methodLink RX5 34 yX5_craned, Cond.instanceMethod yX5_craned, Cond.selects RX5 yX5_craned yX5_craned, Cond.code yX5_craned cX5_craned 3 (some .int), Cond.methodLink RX5 72 yX5_uses, Cond.instanceMethod yX5_uses, Cond.selects RX5 yX5_uses yX5_uses, Cond.code yX5_uses cX5_uses 2 (some .int), Cond.methodLink RX5 65 yX5_hoursIn, Cond.static yX5_hoursIn, Cond.code yX5_hoursIn cX5_hoursIn 1 (some .int), Cond.methodLink RX5 110 yX5_validOf, Cond.instanceMethod yX5_validOf, Cond.selects RX5 yX5_validOf yX5_validOf]
def wsX5_street_r3 : List Cond := [Cond.code yX5_validOf cX5_validOf 5 (some .int)]
def wsX5_street : List Cond := .code yX5_street cX5_street 4 (some .int) :: ((wsX5_street_r1 ++ (wsX5_street_r2 ++ wsX5_street_r3)) ++ wsX50)
def wsX5_together_r1 : List Cond := [Cond.fieldLink RX5 7 "CranePermitsModel" "d" "[I", Cond.methodLink RX5 45 yX5_of, Cond.instanceMethod yX5_of, Cond.selects RX5 yX5_of yX5_of, Cond.initialized RX5, Cond.code yX5_of cX5_of 3 (some .int), Cond.methodLink RX5 72 yX5_uses, Cond.instanceMethod yX5_uses, Cond.selects RX5 yX5_uses yX5_uses, Cond.code yX5_uses cX5_uses 2 (some .int), Cond.methodLink RX5 65 yX5_hoursIn, Cond.static yX5_hoursIn, Cond.code yX5_hoursIn cX5_hoursIn 1 (some .int), Cond.methodLink RX5 34 yX5_craned, Cond.instanceMethod yX5_craned, Cond.selects RX5 yX5_craned yX5_craned, Cond.code yX5_craned cX5_craned 3 (some .int), Cond.methodLink RX5 55 yX5_air, Cond.instanceMethod yX5_air, Cond.selects RX5 yX5_air yX5_air, Cond.code yX5_air cX5_air 8 (some .boolean), Cond.methodLink RX5 48 yX5_hoursMeet, Cond.static yX5_hoursMeet, Cond.code yX5_hoursMeet cX5_hoursMeet 2 (some .boolean)]
def wsX5_together_r2 : List Cond := [Cond.methodLink RX5 52 yX5_areaMeets, Cond.instanceMethod yX5_areaMeets, Cond.selects RX5 yX5_areaMeets yX5_areaMeets, Cond.code yX5_areaMeets cX5_areaMeets 6 (some .boolean), Cond.methodLink RX5 41 yX5_isCovered, Cond.instanceMethod yX5_isCovered, Cond.selects RX5 yX5_isCovered yX5_isCovered, Cond.code yX5_isCovered cX5_isCovered 7 (some .boolean), Cond.methodLink RX5 38 yX5_direction, Cond.static yX5_direction, Cond.code yX5_direction cX5_direction 2 (some .int)]
def wsX5_together : List Cond := .code yX5_together cX5_together 5 (some .int) :: ((wsX5_together_r1 ++ wsX5_together_r2) ++ wsX50)
def wsX5_count_r1 : List Cond := [Cond.fieldLink RX5 7 "CranePermitsModel" "d" "[I", Cond.fieldLink RX5 30 "CranePermitsModel" "states" "I", Cond.fieldLink RX5 117 "CranePermitsModel" "typed" "I", Cond.methodLink RX5 101 yX5_valid, Cond.instanceMethod yX5_valid, Cond.selects RX5 yX5_valid yX5_valid, Cond.initialized RX5, Cond.code yX5_valid cX5_valid 4 (some .int), Cond.methodLink RX5 45 yX5_of, Cond.instanceMethod yX5_of, Cond.selects RX5 yX5_of yX5_of, Cond.code yX5_of cX5_of 3 (some .int), Cond.methodLink RX5 113 yX5_together, Cond.instanceMethod yX5_together, Cond.selects RX5 yX5_together yX5_together, Cond.code yX5_together cX5_together 5 (some .int), Cond.methodLink RX5 72 yX5_uses, Cond.instanceMethod yX5_uses, Cond.selects RX5 yX5_uses yX5_uses, Cond.code yX5_uses cX5_uses 2 (some .int), Cond.methodLink RX5 65 yX5_hoursIn, Cond.static yX5_hoursIn, Cond.code yX5_hoursIn cX5_hoursIn 1 (some .int), Cond.methodLink RX5 34 yX5_craned]
def wsX5_count_r2 : List Cond := [Cond.instanceMethod yX5_craned, Cond.selects RX5 yX5_craned yX5_craned, Cond.code yX5_craned cX5_craned 3 (some .int), Cond.methodLink RX5 55 yX5_air, Cond.instanceMethod yX5_air, Cond.selects RX5 yX5_air yX5_air, Cond.code yX5_air cX5_air 8 (some .boolean), Cond.methodLink RX5 48 yX5_hoursMeet, Cond.static yX5_hoursMeet, Cond.code yX5_hoursMeet cX5_hoursMeet 2 (some .boolean), Cond.methodLink RX5 52 yX5_areaMeets, Cond.instanceMethod yX5_areaMeets, Cond.selects RX5 yX5_areaMeets yX5_areaMeets, Cond.code yX5_areaMeets cX5_areaMeets 6 (some .boolean), Cond.methodLink RX5 41 yX5_isCovered, Cond.instanceMethod yX5_isCovered, Cond.selects RX5 yX5_isCovered yX5_isCovered, Cond.code yX5_isCovered cX5_isCovered 7 (some .boolean), Cond.methodLink RX5 38 yX5_direction, Cond.static yX5_direction, Cond.code yX5_direction cX5_direction 2 (some .int)]
def wsX5_count : List Cond := .code yX5_count cX5_count 2 (some .int) :: ((wsX5_count_r1 ++ wsX5_count_r2) ++ wsX50)
def wsX5_undo : List Cond := .code yX5_undo cX5_undo 2 (some .int) :: ([.fieldLink RX5 30 "CranePermitsModel" "states" "I", .fieldLink RX5 7 "CranePermitsModel" "d" "[I", .fieldLink RX5 13 "CranePermitsModel" "was" "[I"] ++ wsX50)
def wsX5_covers : List Cond := .code yX5_covers cX5_covers 5 (some .int) :: ([.methodLink RX5 94 yX5_isCrane, .instanceMethod yX5_isCrane, .selects RX5 yX5_isCrane yX5_isCrane, .initialized RX5, .code yX5_isCrane cX5_isCrane 2 (some .boolean), .fieldLink RX5 7 "CranePermitsModel" "d" "[I", .methodLink RX5 26 yX5_in, .static yX5_in, .code yX5_in cX5_in 3 (some .boolean), .methodLink RX5 120 yX5_isSwing, .static yX5_isSwing, .code yX5_isSwing cX5_isSwing 1 (some .boolean), .methodLink RX5 41 yX5_isCovered, .instanceMethod yX5_isCovered, .selects RX5 yX5_isCovered yX5_isCovered, .code yX5_isCovered cX5_isCovered 7 (some .boolean), .methodLink RX5 34 yX5_craned, .instanceMethod yX5_craned, .selects RX5 yX5_craned yX5_craned, .code yX5_craned cX5_craned 3 (some .int), .methodLink RX5 38 yX5_direction, .static yX5_direction, .code yX5_direction cX5_direction 2 (some .int)] ++ wsX50)
def wsX5_area : List Cond := .code yX5_area cX5_area 5 (some .int) :: ([.methodLink RX5 94 yX5_isCrane, .instanceMethod yX5_isCrane, .selects RX5 yX5_isCrane yX5_isCrane, .initialized RX5, .code yX5_isCrane cX5_isCrane 2 (some .boolean), .fieldLink RX5 7 "CranePermitsModel" "d" "[I", .methodLink RX5 26 yX5_in, .static yX5_in, .code yX5_in cX5_in 3 (some .boolean), .methodLink RX5 120 yX5_isSwing, .static yX5_isSwing, .code yX5_isSwing cX5_isSwing 1 (some .boolean), .methodLink RX5 41 yX5_isCovered, .instanceMethod yX5_isCovered, .selects RX5 yX5_isCovered yX5_isCovered, .code yX5_isCovered cX5_isCovered 7 (some .boolean), .methodLink RX5 34 yX5_craned, .instanceMethod yX5_craned, .selects RX5 yX5_craned yX5_craned, .code yX5_craned cX5_craned 3 (some .int), .methodLink RX5 38 yX5_direction, .static yX5_direction, .code yX5_direction cX5_direction 2 (some .int)] ++ wsX50)
def wsX5_isApplication : List Cond := .code yX5_isApplication cX5_isApplication 5 (some .boolean) :: ([.methodLink RX5 94 yX5_isCrane, .instanceMethod yX5_isCrane, .selects RX5 yX5_isCrane yX5_isCrane, .initialized RX5, .code yX5_isCrane cX5_isCrane 2 (some .boolean), .fieldLink RX5 7 "CranePermitsModel" "d" "[I", .methodLink RX5 26 yX5_in, .static yX5_in, .code yX5_in cX5_in 3 (some .boolean), .methodLink RX5 107 yX5_isNight, .static yX5_isNight, .code yX5_isNight cX5_isNight 1 (some .boolean), .methodLink RX5 123 yX5_areHours, .static yX5_areHours, .code yX5_areHours cX5_areHours 1 (some .boolean), .methodLink RX5 120 yX5_isSwing, .static yX5_isSwing, .code yX5_isSwing cX5_isSwing 1 (some .boolean)] ++ wsX50)
def wsX5_refuses_r1 : List Cond := [Cond.fieldLink RX5 7 "CranePermitsModel" "d" "[I", Cond.methodLink RX5 45 yX5_of, Cond.instanceMethod yX5_of, Cond.selects RX5 yX5_of yX5_of, Cond.initialized RX5, Cond.code yX5_of cX5_of 3 (some .int), Cond.methodLink RX5 48 yX5_hoursMeet, Cond.static yX5_hoursMeet, Cond.code yX5_hoursMeet cX5_hoursMeet 2 (some .boolean), Cond.methodLink RX5 75 yX5_stops, Cond.instanceMethod yX5_stops, Cond.selects RX5 yX5_stops yX5_stops, Cond.code yX5_stops cX5_stops 3 (some .boolean), Cond.methodLink RX5 34 yX5_craned, Cond.instanceMethod yX5_craned, Cond.selects RX5 yX5_craned yX5_craned, Cond.code yX5_craned cX5_craned 3 (some .int), Cond.methodLink RX5 126 yX5_firstInAir, Cond.instanceMethod yX5_firstInAir, Cond.selects RX5 yX5_firstInAir yX5_firstInAir, Cond.code yX5_firstInAir cX5_firstInAir 6 (some .int), Cond.methodLink RX5 55 yX5_air, Cond.instanceMethod yX5_air, Cond.selects RX5 yX5_air yX5_air]
def wsX5_refuses_r2 : List Cond := [Cond.code yX5_air cX5_air 8 (some .boolean), Cond.methodLink RX5 52 yX5_areaMeets, Cond.instanceMethod yX5_areaMeets, Cond.selects RX5 yX5_areaMeets yX5_areaMeets, Cond.code yX5_areaMeets cX5_areaMeets 6 (some .boolean), Cond.methodLink RX5 41 yX5_isCovered, Cond.instanceMethod yX5_isCovered, Cond.selects RX5 yX5_isCovered yX5_isCovered, Cond.code yX5_isCovered cX5_isCovered 7 (some .boolean), Cond.methodLink RX5 38 yX5_direction, Cond.static yX5_direction, Cond.code yX5_direction cX5_direction 2 (some .int), Cond.methodLink RX5 78 yX5_used, Cond.instanceMethod yX5_used, Cond.selects RX5 yX5_used yX5_used, Cond.code yX5_used cX5_used 5 (some .int), Cond.methodLink RX5 69 yX5_isOf, Cond.instanceMethod yX5_isOf, Cond.selects RX5 yX5_isOf yX5_isOf, Cond.code yX5_isOf cX5_isOf 4 (some .boolean), Cond.methodLink RX5 72 yX5_uses, Cond.instanceMethod yX5_uses, Cond.selects RX5 yX5_uses yX5_uses, Cond.code yX5_uses cX5_uses 2 (some .int)]
def wsX5_refuses_r3 : List Cond := [Cond.methodLink RX5 65 yX5_hoursIn, Cond.static yX5_hoursIn, Cond.code yX5_hoursIn cX5_hoursIn 1 (some .int), Cond.methodLink RX5 81 yX5_credits, Cond.instanceMethod yX5_credits, Cond.selects RX5 yX5_credits yX5_credits, Cond.code yX5_credits cX5_credits 4 (some .int), Cond.methodLink RX5 59 yX5_spot, Cond.static yX5_spot, Cond.code yX5_spot cX5_spot 2 (some .int), Cond.methodLink RX5 62 yX5_allowed, Cond.instanceMethod yX5_allowed, Cond.selects RX5 yX5_allowed yX5_allowed, Cond.code yX5_allowed cX5_allowed 4 (some .int)]
def wsX5_refuses : List Cond := .code yX5_refuses cX5_refuses 6 (some .int) :: ((wsX5_refuses_r1 ++ (wsX5_refuses_r2 ++ wsX5_refuses_r3)) ++ wsX50)
def wsX5_refusal_r1 : List Cond := [Cond.methodLink RX5 130 yX5_isApplication, Cond.instanceMethod yX5_isApplication, Cond.selects RX5 yX5_isApplication yX5_isApplication, Cond.initialized RX5, Cond.code yX5_isApplication cX5_isApplication 5 (some .boolean), Cond.methodLink RX5 94 yX5_isCrane, Cond.instanceMethod yX5_isCrane, Cond.selects RX5 yX5_isCrane yX5_isCrane, Cond.code yX5_isCrane cX5_isCrane 2 (some .boolean), Cond.fieldLink RX5 7 "CranePermitsModel" "d" "[I", Cond.methodLink RX5 26 yX5_in, Cond.static yX5_in, Cond.code yX5_in cX5_in 3 (some .boolean), Cond.methodLink RX5 107 yX5_isNight, Cond.static yX5_isNight, Cond.code yX5_isNight cX5_isNight 1 (some .boolean), Cond.methodLink RX5 123 yX5_areHours, Cond.static yX5_areHours, Cond.code yX5_areHours cX5_areHours 1 (some .boolean), Cond.methodLink RX5 120 yX5_isSwing, Cond.static yX5_isSwing, Cond.code yX5_isSwing cX5_isSwing 1 (some .boolean), Cond.methodLink RX5 133 yX5_refuses, Cond.instanceMethod yX5_refuses]
def wsX5_refusal_r2 : List Cond := [Cond.selects RX5 yX5_refuses yX5_refuses, Cond.code yX5_refuses cX5_refuses 6 (some .int), Cond.methodLink RX5 45 yX5_of, Cond.instanceMethod yX5_of, Cond.selects RX5 yX5_of yX5_of, Cond.code yX5_of cX5_of 3 (some .int), Cond.methodLink RX5 48 yX5_hoursMeet, Cond.static yX5_hoursMeet, Cond.code yX5_hoursMeet cX5_hoursMeet 2 (some .boolean), Cond.methodLink RX5 75 yX5_stops, Cond.instanceMethod yX5_stops, Cond.selects RX5 yX5_stops yX5_stops, Cond.code yX5_stops cX5_stops 3 (some .boolean), Cond.methodLink RX5 34 yX5_craned, Cond.instanceMethod yX5_craned, Cond.selects RX5 yX5_craned yX5_craned, Cond.code yX5_craned cX5_craned 3 (some .int), Cond.methodLink RX5 126 yX5_firstInAir, Cond.instanceMethod yX5_firstInAir, Cond.selects RX5 yX5_firstInAir yX5_firstInAir, Cond.code yX5_firstInAir cX5_firstInAir 6 (some .int), Cond.methodLink RX5 55 yX5_air, Cond.instanceMethod yX5_air, Cond.selects RX5 yX5_air yX5_air]
def wsX5_refusal_r3 : List Cond := [Cond.code yX5_air cX5_air 8 (some .boolean), Cond.methodLink RX5 52 yX5_areaMeets, Cond.instanceMethod yX5_areaMeets, Cond.selects RX5 yX5_areaMeets yX5_areaMeets, Cond.code yX5_areaMeets cX5_areaMeets 6 (some .boolean), Cond.methodLink RX5 41 yX5_isCovered, Cond.instanceMethod yX5_isCovered, Cond.selects RX5 yX5_isCovered yX5_isCovered, Cond.code yX5_isCovered cX5_isCovered 7 (some .boolean), Cond.methodLink RX5 38 yX5_direction, Cond.static yX5_direction, Cond.code yX5_direction cX5_direction 2 (some .int), Cond.methodLink RX5 78 yX5_used, Cond.instanceMethod yX5_used, Cond.selects RX5 yX5_used yX5_used, Cond.code yX5_used cX5_used 5 (some .int), Cond.methodLink RX5 69 yX5_isOf, Cond.instanceMethod yX5_isOf, Cond.selects RX5 yX5_isOf yX5_isOf, Cond.code yX5_isOf cX5_isOf 4 (some .boolean), Cond.methodLink RX5 72 yX5_uses, Cond.instanceMethod yX5_uses, Cond.selects RX5 yX5_uses yX5_uses, Cond.code yX5_uses cX5_uses 2 (some .int)]
def wsX5_refusal_r4 : List Cond := [Cond.methodLink RX5 65 yX5_hoursIn, Cond.static yX5_hoursIn, Cond.code yX5_hoursIn cX5_hoursIn 1 (some .int), Cond.methodLink RX5 81 yX5_credits, Cond.instanceMethod yX5_credits, Cond.selects RX5 yX5_credits yX5_credits, Cond.code yX5_credits cX5_credits 4 (some .int), Cond.methodLink RX5 59 yX5_spot, Cond.static yX5_spot, Cond.code yX5_spot cX5_spot 2 (some .int), Cond.methodLink RX5 62 yX5_allowed, Cond.instanceMethod yX5_allowed, Cond.selects RX5 yX5_allowed yX5_allowed, Cond.code yX5_allowed cX5_allowed 4 (some .int)]
def wsX5_refusal : List Cond := .code yX5_refusal cX5_refusal 5 (some .int) :: ((wsX5_refusal_r1 ++ (wsX5_refusal_r2 ++ (wsX5_refusal_r3 ++ wsX5_refusal_r4))) ++ wsX50)
def wsX5_isFull : List Cond := .code yX5_isFull cX5_isFull 1 (some .boolean) :: ([.fieldLink RX5 7 "CranePermitsModel" "d" "[I", .methodLink RX5 101 yX5_valid, .instanceMethod yX5_valid, .selects RX5 yX5_valid yX5_valid, .initialized RX5, .code yX5_valid cX5_valid 4 (some .int), .methodLink RX5 45 yX5_of, .instanceMethod yX5_of, .selects RX5 yX5_of yX5_of, .code yX5_of cX5_of 3 (some .int)] ++ wsX50)
def wsX5_grants : List Cond := .code yX5_grants cX5_grants 6 (some .int) :: ([.fieldLink RX5 7 "CranePermitsModel" "d" "[I"] ++ wsX50)
def wsX5_apply_r1 : List Cond := [Cond.methodLink RX5 130 yX5_isApplication, Cond.instanceMethod yX5_isApplication, Cond.selects RX5 yX5_isApplication yX5_isApplication, Cond.initialized RX5, Cond.code yX5_isApplication cX5_isApplication 5 (some .boolean), Cond.methodLink RX5 94 yX5_isCrane, Cond.instanceMethod yX5_isCrane, Cond.selects RX5 yX5_isCrane yX5_isCrane, Cond.code yX5_isCrane cX5_isCrane 2 (some .boolean), Cond.fieldLink RX5 7 "CranePermitsModel" "d" "[I", Cond.methodLink RX5 26 yX5_in, Cond.static yX5_in, Cond.code yX5_in cX5_in 3 (some .boolean), Cond.methodLink RX5 107 yX5_isNight, Cond.static yX5_isNight, Cond.code yX5_isNight cX5_isNight 1 (some .boolean), Cond.methodLink RX5 123 yX5_areHours, Cond.static yX5_areHours, Cond.code yX5_areHours cX5_areHours 1 (some .boolean), Cond.methodLink RX5 120 yX5_isSwing, Cond.static yX5_isSwing, Cond.code yX5_isSwing cX5_isSwing 1 (some .boolean), Cond.methodLink RX5 133 yX5_refuses, Cond.instanceMethod yX5_refuses]
def wsX5_apply_r2 : List Cond := [Cond.selects RX5 yX5_refuses yX5_refuses, Cond.code yX5_refuses cX5_refuses 6 (some .int), Cond.methodLink RX5 45 yX5_of, Cond.instanceMethod yX5_of, Cond.selects RX5 yX5_of yX5_of, Cond.code yX5_of cX5_of 3 (some .int), Cond.methodLink RX5 48 yX5_hoursMeet, Cond.static yX5_hoursMeet, Cond.code yX5_hoursMeet cX5_hoursMeet 2 (some .boolean), Cond.methodLink RX5 75 yX5_stops, Cond.instanceMethod yX5_stops, Cond.selects RX5 yX5_stops yX5_stops, Cond.code yX5_stops cX5_stops 3 (some .boolean), Cond.methodLink RX5 34 yX5_craned, Cond.instanceMethod yX5_craned, Cond.selects RX5 yX5_craned yX5_craned, Cond.code yX5_craned cX5_craned 3 (some .int), Cond.methodLink RX5 126 yX5_firstInAir, Cond.instanceMethod yX5_firstInAir, Cond.selects RX5 yX5_firstInAir yX5_firstInAir, Cond.code yX5_firstInAir cX5_firstInAir 6 (some .int), Cond.methodLink RX5 55 yX5_air, Cond.instanceMethod yX5_air, Cond.selects RX5 yX5_air yX5_air]
def wsX5_apply_r3 : List Cond := [Cond.code yX5_air cX5_air 8 (some .boolean), Cond.methodLink RX5 52 yX5_areaMeets, Cond.instanceMethod yX5_areaMeets, Cond.selects RX5 yX5_areaMeets yX5_areaMeets, Cond.code yX5_areaMeets cX5_areaMeets 6 (some .boolean), Cond.methodLink RX5 41 yX5_isCovered, Cond.instanceMethod yX5_isCovered, Cond.selects RX5 yX5_isCovered yX5_isCovered, Cond.code yX5_isCovered cX5_isCovered 7 (some .boolean), Cond.methodLink RX5 38 yX5_direction, Cond.static yX5_direction, Cond.code yX5_direction cX5_direction 2 (some .int), Cond.methodLink RX5 78 yX5_used, Cond.instanceMethod yX5_used, Cond.selects RX5 yX5_used yX5_used, Cond.code yX5_used cX5_used 5 (some .int), Cond.methodLink RX5 69 yX5_isOf, Cond.instanceMethod yX5_isOf, Cond.selects RX5 yX5_isOf yX5_isOf, Cond.code yX5_isOf cX5_isOf 4 (some .boolean), Cond.methodLink RX5 72 yX5_uses, Cond.instanceMethod yX5_uses, Cond.selects RX5 yX5_uses yX5_uses, Cond.code yX5_uses cX5_uses 2 (some .int)]
def wsX5_apply_r4 : List Cond := [Cond.methodLink RX5 65 yX5_hoursIn, Cond.static yX5_hoursIn, Cond.code yX5_hoursIn cX5_hoursIn 1 (some .int), Cond.methodLink RX5 81 yX5_credits, Cond.instanceMethod yX5_credits, Cond.selects RX5 yX5_credits yX5_credits, Cond.code yX5_credits cX5_credits 4 (some .int), Cond.methodLink RX5 59 yX5_spot, Cond.static yX5_spot, Cond.code yX5_spot cX5_spot 2 (some .int), Cond.methodLink RX5 62 yX5_allowed, Cond.instanceMethod yX5_allowed, Cond.selects RX5 yX5_allowed yX5_allowed, Cond.code yX5_allowed cX5_allowed 4 (some .int), Cond.methodLink RX5 136 yX5_isFull, Cond.instanceMethod yX5_isFull, Cond.selects RX5 yX5_isFull yX5_isFull, Cond.code yX5_isFull cX5_isFull 1 (some .boolean), Cond.methodLink RX5 101 yX5_valid, Cond.instanceMethod yX5_valid, Cond.selects RX5 yX5_valid yX5_valid, Cond.code yX5_valid cX5_valid 4 (some .int), Cond.methodLink RX5 91 yX5_records, Cond.instanceMethod yX5_records]
def wsX5_apply_r5 : List Cond := [Cond.selects RX5 yX5_records yX5_records, Cond.code yX5_records cX5_records 2 none, Cond.fieldLink RX5 30 "CranePermitsModel" "states" "I", Cond.fieldLink RX5 13 "CranePermitsModel" "was" "[I", Cond.methodLink RX5 140 yX5_grants, Cond.instanceMethod yX5_grants, Cond.selects RX5 yX5_grants yX5_grants, Cond.code yX5_grants cX5_grants 6 (some .int)]
def wsX5_apply : List Cond := .code yX5_apply cX5_apply 5 (some .int) :: ((wsX5_apply_r1 ++ (wsX5_apply_r2 ++ (wsX5_apply_r3 ++ (wsX5_apply_r4 ++ wsX5_apply_r5)))) ++ wsX50)
def wsX5_withdraw_r1 : List Cond := [Cond.fieldLink RX5 7 "CranePermitsModel" "d" "[I", Cond.methodLink RX5 143 yX5_isPermit, Cond.instanceMethod yX5_isPermit, Cond.selects RX5 yX5_isPermit yX5_isPermit, Cond.initialized RX5, Cond.code yX5_isPermit cX5_isPermit 2 (some .boolean), Cond.methodLink RX5 26 yX5_in, Cond.static yX5_in, Cond.code yX5_in cX5_in 3 (some .boolean), Cond.methodLink RX5 45 yX5_of, Cond.instanceMethod yX5_of, Cond.selects RX5 yX5_of yX5_of, Cond.code yX5_of cX5_of 3 (some .int), Cond.methodLink RX5 91 yX5_records, Cond.instanceMethod yX5_records, Cond.selects RX5 yX5_records yX5_records, Cond.code yX5_records cX5_records 2 none, Cond.fieldLink RX5 30 "CranePermitsModel" "states" "I", Cond.fieldLink RX5 13 "CranePermitsModel" "was" "[I", Cond.methodLink RX5 72 yX5_uses, Cond.instanceMethod yX5_uses, Cond.selects RX5 yX5_uses yX5_uses, Cond.code yX5_uses cX5_uses 2 (some .int), Cond.methodLink RX5 65 yX5_hoursIn]
def wsX5_withdraw_r2 : List Cond := [Cond.static yX5_hoursIn, Cond.code yX5_hoursIn cX5_hoursIn 1 (some .int), Cond.methodLink RX5 34 yX5_craned, Cond.instanceMethod yX5_craned, Cond.selects RX5 yX5_craned yX5_craned, Cond.code yX5_craned cX5_craned 3 (some .int)]
def wsX5_withdraw : List Cond := .code yX5_withdraw cX5_withdraw 2 (some .int) :: ((wsX5_withdraw_r1 ++ wsX5_withdraw_r2) ++ wsX50)
def wsX5_permit : List Cond := .code yX5_permit cX5_permit 3 (some .int) :: ([.methodLink RX5 143 yX5_isPermit, .instanceMethod yX5_isPermit, .selects RX5 yX5_isPermit yX5_isPermit, .initialized RX5, .code yX5_isPermit cX5_isPermit 2 (some .boolean), .fieldLink RX5 7 "CranePermitsModel" "d" "[I", .methodLink RX5 26 yX5_in, .static yX5_in, .code yX5_in cX5_in 3 (some .boolean), .methodLink RX5 45 yX5_of, .instanceMethod yX5_of, .selects RX5 yX5_of yX5_of, .code yX5_of cX5_of 3 (some .int), .methodLink RX5 72 yX5_uses, .instanceMethod yX5_uses, .selects RX5 yX5_uses yX5_uses, .code yX5_uses cX5_uses 2 (some .int), .methodLink RX5 65 yX5_hoursIn, .static yX5_hoursIn, .code yX5_hoursIn cX5_hoursIn 1 (some .int), .methodLink RX5 34 yX5_craned, .instanceMethod yX5_craned, .selects RX5 yX5_craned yX5_craned, .code yX5_craned cX5_craned 3 (some .int)] ++ wsX50)
def wsX5_isAhead : List Cond := .code yX5_isAhead cX5_isAhead 5 (some .boolean) :: ([.methodLink RX5 45 yX5_of, .instanceMethod yX5_of, .selects RX5 yX5_of yX5_of, .initialized RX5, .code yX5_of cX5_of 3 (some .int), .fieldLink RX5 7 "CranePermitsModel" "d" "[I"] ++ wsX50)
def wsX5_inOrder : List Cond := .code yX5_inOrder cX5_inOrder 5 (some .int) :: ([.fieldLink RX5 7 "CranePermitsModel" "d" "[I", .methodLink RX5 45 yX5_of, .instanceMethod yX5_of, .selects RX5 yX5_of yX5_of, .initialized RX5, .code yX5_of cX5_of 3 (some .int), .methodLink RX5 146 yX5_isAhead, .instanceMethod yX5_isAhead, .selects RX5 yX5_isAhead yX5_isAhead, .code yX5_isAhead cX5_isAhead 5 (some .boolean)] ++ wsX50)
def wsX5_shares_r1 : List Cond := [Cond.methodLink RX5 143 yX5_isPermit, Cond.instanceMethod yX5_isPermit, Cond.selects RX5 yX5_isPermit yX5_isPermit, Cond.initialized RX5, Cond.code yX5_isPermit cX5_isPermit 2 (some .boolean), Cond.fieldLink RX5 7 "CranePermitsModel" "d" "[I", Cond.methodLink RX5 26 yX5_in, Cond.static yX5_in, Cond.code yX5_in cX5_in 3 (some .boolean), Cond.methodLink RX5 45 yX5_of, Cond.instanceMethod yX5_of, Cond.selects RX5 yX5_of yX5_of, Cond.code yX5_of cX5_of 3 (some .int), Cond.methodLink RX5 55 yX5_air, Cond.instanceMethod yX5_air, Cond.selects RX5 yX5_air yX5_air, Cond.code yX5_air cX5_air 8 (some .boolean), Cond.methodLink RX5 34 yX5_craned, Cond.instanceMethod yX5_craned, Cond.selects RX5 yX5_craned yX5_craned, Cond.code yX5_craned cX5_craned 3 (some .int), Cond.methodLink RX5 48 yX5_hoursMeet, Cond.static yX5_hoursMeet, Cond.code yX5_hoursMeet cX5_hoursMeet 2 (some .boolean)]
def wsX5_shares_r2 : List Cond := [Cond.methodLink RX5 52 yX5_areaMeets, Cond.instanceMethod yX5_areaMeets, Cond.selects RX5 yX5_areaMeets yX5_areaMeets, Cond.code yX5_areaMeets cX5_areaMeets 6 (some .boolean), Cond.methodLink RX5 41 yX5_isCovered, Cond.instanceMethod yX5_isCovered, Cond.selects RX5 yX5_isCovered yX5_isCovered, Cond.code yX5_isCovered cX5_isCovered 7 (some .boolean), Cond.methodLink RX5 38 yX5_direction, Cond.static yX5_direction, Cond.code yX5_direction cX5_direction 2 (some .int)]
def wsX5_shares : List Cond := .code yX5_shares cX5_shares 3 (some .int) :: ((wsX5_shares_r1 ++ wsX5_shares_r2) ++ wsX50)
def wsX5_inTheWay_r1 : List Cond := [Cond.methodLink RX5 130 yX5_isApplication, Cond.instanceMethod yX5_isApplication, Cond.selects RX5 yX5_isApplication yX5_isApplication, Cond.initialized RX5, Cond.code yX5_isApplication cX5_isApplication 5 (some .boolean), Cond.methodLink RX5 94 yX5_isCrane, Cond.instanceMethod yX5_isCrane, Cond.selects RX5 yX5_isCrane yX5_isCrane, Cond.code yX5_isCrane cX5_isCrane 2 (some .boolean), Cond.fieldLink RX5 7 "CranePermitsModel" "d" "[I", Cond.methodLink RX5 26 yX5_in, Cond.static yX5_in, Cond.code yX5_in cX5_in 3 (some .boolean), Cond.methodLink RX5 107 yX5_isNight, Cond.static yX5_isNight, Cond.code yX5_isNight cX5_isNight 1 (some .boolean), Cond.methodLink RX5 123 yX5_areHours, Cond.static yX5_areHours, Cond.code yX5_areHours cX5_areHours 1 (some .boolean), Cond.methodLink RX5 120 yX5_isSwing, Cond.static yX5_isSwing, Cond.code yX5_isSwing cX5_isSwing 1 (some .boolean), Cond.methodLink RX5 126 yX5_firstInAir, Cond.instanceMethod yX5_firstInAir]
def wsX5_inTheWay_r2 : List Cond := [Cond.selects RX5 yX5_firstInAir yX5_firstInAir, Cond.code yX5_firstInAir cX5_firstInAir 6 (some .int), Cond.methodLink RX5 45 yX5_of, Cond.instanceMethod yX5_of, Cond.selects RX5 yX5_of yX5_of, Cond.code yX5_of cX5_of 3 (some .int), Cond.methodLink RX5 55 yX5_air, Cond.instanceMethod yX5_air, Cond.selects RX5 yX5_air yX5_air, Cond.code yX5_air cX5_air 8 (some .boolean), Cond.methodLink RX5 34 yX5_craned, Cond.instanceMethod yX5_craned, Cond.selects RX5 yX5_craned yX5_craned, Cond.code yX5_craned cX5_craned 3 (some .int), Cond.methodLink RX5 48 yX5_hoursMeet, Cond.static yX5_hoursMeet, Cond.code yX5_hoursMeet cX5_hoursMeet 2 (some .boolean), Cond.methodLink RX5 52 yX5_areaMeets, Cond.instanceMethod yX5_areaMeets, Cond.selects RX5 yX5_areaMeets yX5_areaMeets, Cond.code yX5_areaMeets cX5_areaMeets 6 (some .boolean), Cond.methodLink RX5 41 yX5_isCovered, Cond.instanceMethod yX5_isCovered, Cond.selects RX5 yX5_isCovered yX5_isCovered]
def wsX5_inTheWay_r3 : List Cond := [Cond.code yX5_isCovered cX5_isCovered 7 (some .boolean), Cond.methodLink RX5 38 yX5_direction, Cond.static yX5_direction, Cond.code yX5_direction cX5_direction 2 (some .int)]
def wsX5_inTheWay : List Cond := .code yX5_inTheWay cX5_inTheWay 6 (some .int) :: ((wsX5_inTheWay_r1 ++ (wsX5_inTheWay_r2 ++ wsX5_inTheWay_r3)) ++ wsX50)
def wsX5_firstFree_r1 : List Cond := [Cond.methodLink RX5 94 yX5_isCrane, Cond.instanceMethod yX5_isCrane, Cond.selects RX5 yX5_isCrane yX5_isCrane, Cond.initialized RX5, Cond.code yX5_isCrane cX5_isCrane 2 (some .boolean), Cond.fieldLink RX5 7 "CranePermitsModel" "d" "[I", Cond.methodLink RX5 26 yX5_in, Cond.static yX5_in, Cond.code yX5_in cX5_in 3 (some .boolean), Cond.methodLink RX5 120 yX5_isSwing, Cond.static yX5_isSwing, Cond.code yX5_isSwing cX5_isSwing 1 (some .boolean), Cond.methodLink RX5 107 yX5_isNight, Cond.static yX5_isNight, Cond.code yX5_isNight cX5_isNight 1 (some .boolean), Cond.methodLink RX5 133 yX5_refuses, Cond.instanceMethod yX5_refuses, Cond.selects RX5 yX5_refuses yX5_refuses, Cond.code yX5_refuses cX5_refuses 6 (some .int), Cond.methodLink RX5 45 yX5_of, Cond.instanceMethod yX5_of, Cond.selects RX5 yX5_of yX5_of, Cond.code yX5_of cX5_of 3 (some .int), Cond.methodLink RX5 48 yX5_hoursMeet]
def wsX5_firstFree_r2 : List Cond := [Cond.static yX5_hoursMeet, Cond.code yX5_hoursMeet cX5_hoursMeet 2 (some .boolean), Cond.methodLink RX5 75 yX5_stops, Cond.instanceMethod yX5_stops, Cond.selects RX5 yX5_stops yX5_stops, Cond.code yX5_stops cX5_stops 3 (some .boolean), Cond.methodLink RX5 34 yX5_craned, Cond.instanceMethod yX5_craned, Cond.selects RX5 yX5_craned yX5_craned, Cond.code yX5_craned cX5_craned 3 (some .int), Cond.methodLink RX5 126 yX5_firstInAir, Cond.instanceMethod yX5_firstInAir, Cond.selects RX5 yX5_firstInAir yX5_firstInAir, Cond.code yX5_firstInAir cX5_firstInAir 6 (some .int), Cond.methodLink RX5 55 yX5_air, Cond.instanceMethod yX5_air, Cond.selects RX5 yX5_air yX5_air, Cond.code yX5_air cX5_air 8 (some .boolean), Cond.methodLink RX5 52 yX5_areaMeets, Cond.instanceMethod yX5_areaMeets, Cond.selects RX5 yX5_areaMeets yX5_areaMeets, Cond.code yX5_areaMeets cX5_areaMeets 6 (some .boolean), Cond.methodLink RX5 41 yX5_isCovered, Cond.instanceMethod yX5_isCovered]
def wsX5_firstFree_r3 : List Cond := [Cond.selects RX5 yX5_isCovered yX5_isCovered, Cond.code yX5_isCovered cX5_isCovered 7 (some .boolean), Cond.methodLink RX5 38 yX5_direction, Cond.static yX5_direction, Cond.code yX5_direction cX5_direction 2 (some .int), Cond.methodLink RX5 78 yX5_used, Cond.instanceMethod yX5_used, Cond.selects RX5 yX5_used yX5_used, Cond.code yX5_used cX5_used 5 (some .int), Cond.methodLink RX5 69 yX5_isOf, Cond.instanceMethod yX5_isOf, Cond.selects RX5 yX5_isOf yX5_isOf, Cond.code yX5_isOf cX5_isOf 4 (some .boolean), Cond.methodLink RX5 72 yX5_uses, Cond.instanceMethod yX5_uses, Cond.selects RX5 yX5_uses yX5_uses, Cond.code yX5_uses cX5_uses 2 (some .int), Cond.methodLink RX5 65 yX5_hoursIn, Cond.static yX5_hoursIn, Cond.code yX5_hoursIn cX5_hoursIn 1 (some .int), Cond.methodLink RX5 81 yX5_credits, Cond.instanceMethod yX5_credits, Cond.selects RX5 yX5_credits yX5_credits, Cond.code yX5_credits cX5_credits 4 (some .int)]
def wsX5_firstFree_r4 : List Cond := [Cond.methodLink RX5 59 yX5_spot, Cond.static yX5_spot, Cond.code yX5_spot cX5_spot 2 (some .int), Cond.methodLink RX5 62 yX5_allowed, Cond.instanceMethod yX5_allowed, Cond.selects RX5 yX5_allowed yX5_allowed, Cond.code yX5_allowed cX5_allowed 4 (some .int)]
def wsX5_firstFree : List Cond := .code yX5_firstFree cX5_firstFree 7 (some .int) :: ((wsX5_firstFree_r1 ++ (wsX5_firstFree_r2 ++ (wsX5_firstFree_r3 ++ wsX5_firstFree_r4))) ++ wsX50)
def wsX5_type : List Cond := .code yX5_type cX5_type 2 (some .int) :: ([.fieldLink RX5 117 "CranePermitsModel" "typed" "I", .fieldLink RX5 19 "CranePermitsModel" "text" "[C", .methodLink RX5 26 yX5_in, .static yX5_in, .initialized RX5, .code yX5_in cX5_in 3 (some .boolean)] ++ wsX50)
def wsX5_clearText : List Cond := .code yX5_clearText cX5_clearText 2 (some .int) :: ([.fieldLink RX5 117 "CranePermitsModel" "typed" "I"] ++ wsX50)
def wsX5_passes : List Cond := .code yX5_passes cX5_passes 3 (some .boolean) :: ([.fieldLink RX5 149 "CranePermitsModel" "at" "I", .fieldLink RX5 117 "CranePermitsModel" "typed" "I", .fieldLink RX5 19 "CranePermitsModel" "text" "[C"] ++ wsX50)
def wsX5_number : List Cond := .code yX5_number cX5_number 4 (some .int) :: ([.fieldLink RX5 149 "CranePermitsModel" "at" "I", .fieldLink RX5 117 "CranePermitsModel" "typed" "I", .fieldLink RX5 19 "CranePermitsModel" "text" "[C", .methodLink RX5 26 yX5_in, .static yX5_in, .initialized RX5, .code yX5_in cX5_in 3 (some .boolean)] ++ wsX50)
def wsX5_readsForm : List Cond := .code yX5_readsForm cX5_readsForm 1 (some .boolean) :: ([.fieldLink RX5 23 "CranePermitsModel" "got" "[I", .methodLink RX5 152 yX5_number, .instanceMethod yX5_number, .selects RX5 yX5_number yX5_number, .initialized RX5, .code yX5_number cX5_number 4 (some .int), .fieldLink RX5 149 "CranePermitsModel" "at" "I", .fieldLink RX5 117 "CranePermitsModel" "typed" "I", .fieldLink RX5 19 "CranePermitsModel" "text" "[C", .methodLink RX5 26 yX5_in, .static yX5_in, .code yX5_in cX5_in 3 (some .boolean), .methodLink RX5 155 yX5_passes, .instanceMethod yX5_passes, .selects RX5 yX5_passes yX5_passes, .code yX5_passes cX5_passes 3 (some .boolean)] ++ wsX50)
def wsX5_entersOne_r1 : List Cond := [Cond.fieldLink RX5 23 "CranePermitsModel" "got" "[I", Cond.methodLink RX5 159 yX5_readsForm, Cond.instanceMethod yX5_readsForm, Cond.selects RX5 yX5_readsForm yX5_readsForm, Cond.initialized RX5, Cond.code yX5_readsForm cX5_readsForm 1 (some .boolean), Cond.methodLink RX5 152 yX5_number, Cond.instanceMethod yX5_number, Cond.selects RX5 yX5_number yX5_number, Cond.code yX5_number cX5_number 4 (some .int), Cond.fieldLink RX5 149 "CranePermitsModel" "at" "I", Cond.fieldLink RX5 117 "CranePermitsModel" "typed" "I", Cond.fieldLink RX5 19 "CranePermitsModel" "text" "[C", Cond.methodLink RX5 26 yX5_in, Cond.static yX5_in, Cond.code yX5_in cX5_in 3 (some .boolean), Cond.methodLink RX5 155 yX5_passes, Cond.instanceMethod yX5_passes, Cond.selects RX5 yX5_passes yX5_passes, Cond.code yX5_passes cX5_passes 3 (some .boolean), Cond.methodLink RX5 130 yX5_isApplication, Cond.instanceMethod yX5_isApplication, Cond.selects RX5 yX5_isApplication yX5_isApplication, Cond.code yX5_isApplication cX5_isApplication 5 (some .boolean)]
def wsX5_entersOne_r2 : List Cond := [Cond.methodLink RX5 94 yX5_isCrane, Cond.instanceMethod yX5_isCrane, Cond.selects RX5 yX5_isCrane yX5_isCrane, Cond.code yX5_isCrane cX5_isCrane 2 (some .boolean), Cond.fieldLink RX5 7 "CranePermitsModel" "d" "[I", Cond.methodLink RX5 107 yX5_isNight, Cond.static yX5_isNight, Cond.code yX5_isNight cX5_isNight 1 (some .boolean), Cond.methodLink RX5 123 yX5_areHours, Cond.static yX5_areHours, Cond.code yX5_areHours cX5_areHours 1 (some .boolean), Cond.methodLink RX5 120 yX5_isSwing, Cond.static yX5_isSwing, Cond.code yX5_isSwing cX5_isSwing 1 (some .boolean), Cond.methodLink RX5 133 yX5_refuses, Cond.instanceMethod yX5_refuses, Cond.selects RX5 yX5_refuses yX5_refuses, Cond.code yX5_refuses cX5_refuses 6 (some .int), Cond.methodLink RX5 45 yX5_of, Cond.instanceMethod yX5_of, Cond.selects RX5 yX5_of yX5_of, Cond.code yX5_of cX5_of 3 (some .int), Cond.methodLink RX5 48 yX5_hoursMeet, Cond.static yX5_hoursMeet]
def wsX5_entersOne_r3 : List Cond := [Cond.code yX5_hoursMeet cX5_hoursMeet 2 (some .boolean), Cond.methodLink RX5 75 yX5_stops, Cond.instanceMethod yX5_stops, Cond.selects RX5 yX5_stops yX5_stops, Cond.code yX5_stops cX5_stops 3 (some .boolean), Cond.methodLink RX5 34 yX5_craned, Cond.instanceMethod yX5_craned, Cond.selects RX5 yX5_craned yX5_craned, Cond.code yX5_craned cX5_craned 3 (some .int), Cond.methodLink RX5 126 yX5_firstInAir, Cond.instanceMethod yX5_firstInAir, Cond.selects RX5 yX5_firstInAir yX5_firstInAir, Cond.code yX5_firstInAir cX5_firstInAir 6 (some .int), Cond.methodLink RX5 55 yX5_air, Cond.instanceMethod yX5_air, Cond.selects RX5 yX5_air yX5_air, Cond.code yX5_air cX5_air 8 (some .boolean), Cond.methodLink RX5 52 yX5_areaMeets, Cond.instanceMethod yX5_areaMeets, Cond.selects RX5 yX5_areaMeets yX5_areaMeets, Cond.code yX5_areaMeets cX5_areaMeets 6 (some .boolean), Cond.methodLink RX5 41 yX5_isCovered, Cond.instanceMethod yX5_isCovered, Cond.selects RX5 yX5_isCovered yX5_isCovered]
def wsX5_entersOne_r4 : List Cond := [Cond.code yX5_isCovered cX5_isCovered 7 (some .boolean), Cond.methodLink RX5 38 yX5_direction, Cond.static yX5_direction, Cond.code yX5_direction cX5_direction 2 (some .int), Cond.methodLink RX5 78 yX5_used, Cond.instanceMethod yX5_used, Cond.selects RX5 yX5_used yX5_used, Cond.code yX5_used cX5_used 5 (some .int), Cond.methodLink RX5 69 yX5_isOf, Cond.instanceMethod yX5_isOf, Cond.selects RX5 yX5_isOf yX5_isOf, Cond.code yX5_isOf cX5_isOf 4 (some .boolean), Cond.methodLink RX5 72 yX5_uses, Cond.instanceMethod yX5_uses, Cond.selects RX5 yX5_uses yX5_uses, Cond.code yX5_uses cX5_uses 2 (some .int), Cond.methodLink RX5 65 yX5_hoursIn, Cond.static yX5_hoursIn, Cond.code yX5_hoursIn cX5_hoursIn 1 (some .int), Cond.methodLink RX5 81 yX5_credits, Cond.instanceMethod yX5_credits, Cond.selects RX5 yX5_credits yX5_credits, Cond.code yX5_credits cX5_credits 4 (some .int), Cond.methodLink RX5 59 yX5_spot]
def wsX5_entersOne_r5 : List Cond := [Cond.static yX5_spot, Cond.code yX5_spot cX5_spot 2 (some .int), Cond.methodLink RX5 62 yX5_allowed, Cond.instanceMethod yX5_allowed, Cond.selects RX5 yX5_allowed yX5_allowed, Cond.code yX5_allowed cX5_allowed 4 (some .int), Cond.methodLink RX5 136 yX5_isFull, Cond.instanceMethod yX5_isFull, Cond.selects RX5 yX5_isFull yX5_isFull, Cond.code yX5_isFull cX5_isFull 1 (some .boolean), Cond.methodLink RX5 101 yX5_valid, Cond.instanceMethod yX5_valid, Cond.selects RX5 yX5_valid yX5_valid, Cond.code yX5_valid cX5_valid 4 (some .int), Cond.methodLink RX5 140 yX5_grants, Cond.instanceMethod yX5_grants, Cond.selects RX5 yX5_grants yX5_grants, Cond.code yX5_grants cX5_grants 6 (some .int)]
def wsX5_entersOne : List Cond := .code yX5_entersOne cX5_entersOne 3 (some .int) :: ((wsX5_entersOne_r1 ++ (wsX5_entersOne_r2 ++ (wsX5_entersOne_r3 ++ (wsX5_entersOne_r4 ++ wsX5_entersOne_r5)))) ++ wsX50)
def wsX5_faulty_r1 : List Cond := [Cond.fieldLink RX5 16 "CranePermitsModel" "aside" "[I", Cond.fieldLink RX5 7 "CranePermitsModel" "d" "[I", Cond.fieldLink RX5 149 "CranePermitsModel" "at" "I", Cond.fieldLink RX5 117 "CranePermitsModel" "typed" "I", Cond.fieldLink RX5 165 "CranePermitsModel" "reason" "I", Cond.methodLink RX5 162 yX5_entersOne, Cond.instanceMethod yX5_entersOne, Cond.selects RX5 yX5_entersOne yX5_entersOne, Cond.initialized RX5, Cond.code yX5_entersOne cX5_entersOne 3 (some .int), Cond.fieldLink RX5 23 "CranePermitsModel" "got" "[I", Cond.methodLink RX5 159 yX5_readsForm, Cond.instanceMethod yX5_readsForm, Cond.selects RX5 yX5_readsForm yX5_readsForm, Cond.code yX5_readsForm cX5_readsForm 1 (some .boolean), Cond.methodLink RX5 152 yX5_number, Cond.instanceMethod yX5_number, Cond.selects RX5 yX5_number yX5_number, Cond.code yX5_number cX5_number 4 (some .int), Cond.fieldLink RX5 19 "CranePermitsModel" "text" "[C", Cond.methodLink RX5 26 yX5_in, Cond.static yX5_in, Cond.code yX5_in cX5_in 3 (some .boolean), Cond.methodLink RX5 155 yX5_passes]
def wsX5_faulty_r2 : List Cond := [Cond.instanceMethod yX5_passes, Cond.selects RX5 yX5_passes yX5_passes, Cond.code yX5_passes cX5_passes 3 (some .boolean), Cond.methodLink RX5 130 yX5_isApplication, Cond.instanceMethod yX5_isApplication, Cond.selects RX5 yX5_isApplication yX5_isApplication, Cond.code yX5_isApplication cX5_isApplication 5 (some .boolean), Cond.methodLink RX5 94 yX5_isCrane, Cond.instanceMethod yX5_isCrane, Cond.selects RX5 yX5_isCrane yX5_isCrane, Cond.code yX5_isCrane cX5_isCrane 2 (some .boolean), Cond.methodLink RX5 107 yX5_isNight, Cond.static yX5_isNight, Cond.code yX5_isNight cX5_isNight 1 (some .boolean), Cond.methodLink RX5 123 yX5_areHours, Cond.static yX5_areHours, Cond.code yX5_areHours cX5_areHours 1 (some .boolean), Cond.methodLink RX5 120 yX5_isSwing, Cond.static yX5_isSwing, Cond.code yX5_isSwing cX5_isSwing 1 (some .boolean), Cond.methodLink RX5 133 yX5_refuses, Cond.instanceMethod yX5_refuses, Cond.selects RX5 yX5_refuses yX5_refuses, Cond.code yX5_refuses cX5_refuses 6 (some .int)]
def wsX5_faulty_r3 : List Cond := [Cond.methodLink RX5 45 yX5_of, Cond.instanceMethod yX5_of, Cond.selects RX5 yX5_of yX5_of, Cond.code yX5_of cX5_of 3 (some .int), Cond.methodLink RX5 48 yX5_hoursMeet, Cond.static yX5_hoursMeet, Cond.code yX5_hoursMeet cX5_hoursMeet 2 (some .boolean), Cond.methodLink RX5 75 yX5_stops, Cond.instanceMethod yX5_stops, Cond.selects RX5 yX5_stops yX5_stops, Cond.code yX5_stops cX5_stops 3 (some .boolean), Cond.methodLink RX5 34 yX5_craned, Cond.instanceMethod yX5_craned, Cond.selects RX5 yX5_craned yX5_craned, Cond.code yX5_craned cX5_craned 3 (some .int), Cond.methodLink RX5 126 yX5_firstInAir, Cond.instanceMethod yX5_firstInAir, Cond.selects RX5 yX5_firstInAir yX5_firstInAir, Cond.code yX5_firstInAir cX5_firstInAir 6 (some .int), Cond.methodLink RX5 55 yX5_air, Cond.instanceMethod yX5_air, Cond.selects RX5 yX5_air yX5_air, Cond.code yX5_air cX5_air 8 (some .boolean), Cond.methodLink RX5 52 yX5_areaMeets]
def wsX5_faulty_r4 : List Cond := [Cond.instanceMethod yX5_areaMeets, Cond.selects RX5 yX5_areaMeets yX5_areaMeets, Cond.code yX5_areaMeets cX5_areaMeets 6 (some .boolean), Cond.methodLink RX5 41 yX5_isCovered, Cond.instanceMethod yX5_isCovered, Cond.selects RX5 yX5_isCovered yX5_isCovered, Cond.code yX5_isCovered cX5_isCovered 7 (some .boolean), Cond.methodLink RX5 38 yX5_direction, Cond.static yX5_direction, Cond.code yX5_direction cX5_direction 2 (some .int), Cond.methodLink RX5 78 yX5_used, Cond.instanceMethod yX5_used, Cond.selects RX5 yX5_used yX5_used, Cond.code yX5_used cX5_used 5 (some .int), Cond.methodLink RX5 69 yX5_isOf, Cond.instanceMethod yX5_isOf, Cond.selects RX5 yX5_isOf yX5_isOf, Cond.code yX5_isOf cX5_isOf 4 (some .boolean), Cond.methodLink RX5 72 yX5_uses, Cond.instanceMethod yX5_uses, Cond.selects RX5 yX5_uses yX5_uses, Cond.code yX5_uses cX5_uses 2 (some .int), Cond.methodLink RX5 65 yX5_hoursIn, Cond.static yX5_hoursIn]
def wsX5_faulty_r5 : List Cond := [Cond.code yX5_hoursIn cX5_hoursIn 1 (some .int), Cond.methodLink RX5 81 yX5_credits, Cond.instanceMethod yX5_credits, Cond.selects RX5 yX5_credits yX5_credits, Cond.code yX5_credits cX5_credits 4 (some .int), Cond.methodLink RX5 59 yX5_spot, Cond.static yX5_spot, Cond.code yX5_spot cX5_spot 2 (some .int), Cond.methodLink RX5 62 yX5_allowed, Cond.instanceMethod yX5_allowed, Cond.selects RX5 yX5_allowed yX5_allowed, Cond.code yX5_allowed cX5_allowed 4 (some .int), Cond.methodLink RX5 136 yX5_isFull, Cond.instanceMethod yX5_isFull, Cond.selects RX5 yX5_isFull yX5_isFull, Cond.code yX5_isFull cX5_isFull 1 (some .boolean), Cond.methodLink RX5 101 yX5_valid, Cond.instanceMethod yX5_valid, Cond.selects RX5 yX5_valid yX5_valid, Cond.code yX5_valid cX5_valid 4 (some .int), Cond.methodLink RX5 140 yX5_grants, Cond.instanceMethod yX5_grants, Cond.selects RX5 yX5_grants yX5_grants, Cond.code yX5_grants cX5_grants 6 (some .int)]
def wsX5_faulty : List Cond := .code yX5_faulty cX5_faulty 3 (some .int) :: ((wsX5_faulty_r1 ++ (wsX5_faulty_r2 ++ (wsX5_faulty_r3 ++ (wsX5_faulty_r4 ++ wsX5_faulty_r5)))) ++ wsX50)
def wsX5_fault_r1 : List Cond := [Cond.fieldLink RX5 165 "CranePermitsModel" "reason" "I", Cond.methodLink RX5 26 yX5_in, Cond.static yX5_in, Cond.initialized RX5, Cond.code yX5_in cX5_in 3 (some .boolean), Cond.methodLink RX5 168 yX5_faulty, Cond.instanceMethod yX5_faulty, Cond.selects RX5 yX5_faulty yX5_faulty, Cond.code yX5_faulty cX5_faulty 3 (some .int), Cond.fieldLink RX5 16 "CranePermitsModel" "aside" "[I", Cond.fieldLink RX5 7 "CranePermitsModel" "d" "[I", Cond.fieldLink RX5 149 "CranePermitsModel" "at" "I", Cond.fieldLink RX5 117 "CranePermitsModel" "typed" "I", Cond.methodLink RX5 162 yX5_entersOne, Cond.instanceMethod yX5_entersOne, Cond.selects RX5 yX5_entersOne yX5_entersOne, Cond.code yX5_entersOne cX5_entersOne 3 (some .int), Cond.fieldLink RX5 23 "CranePermitsModel" "got" "[I", Cond.methodLink RX5 159 yX5_readsForm, Cond.instanceMethod yX5_readsForm, Cond.selects RX5 yX5_readsForm yX5_readsForm, Cond.code yX5_readsForm cX5_readsForm 1 (some .boolean), Cond.methodLink RX5 152 yX5_number, Cond.instanceMethod yX5_number]
def wsX5_fault_r2 : List Cond := [Cond.selects RX5 yX5_number yX5_number, Cond.code yX5_number cX5_number 4 (some .int), Cond.fieldLink RX5 19 "CranePermitsModel" "text" "[C", Cond.methodLink RX5 155 yX5_passes, Cond.instanceMethod yX5_passes, Cond.selects RX5 yX5_passes yX5_passes, Cond.code yX5_passes cX5_passes 3 (some .boolean), Cond.methodLink RX5 130 yX5_isApplication, Cond.instanceMethod yX5_isApplication, Cond.selects RX5 yX5_isApplication yX5_isApplication, Cond.code yX5_isApplication cX5_isApplication 5 (some .boolean), Cond.methodLink RX5 94 yX5_isCrane, Cond.instanceMethod yX5_isCrane, Cond.selects RX5 yX5_isCrane yX5_isCrane, Cond.code yX5_isCrane cX5_isCrane 2 (some .boolean), Cond.methodLink RX5 107 yX5_isNight, Cond.static yX5_isNight, Cond.code yX5_isNight cX5_isNight 1 (some .boolean), Cond.methodLink RX5 123 yX5_areHours, Cond.static yX5_areHours, Cond.code yX5_areHours cX5_areHours 1 (some .boolean), Cond.methodLink RX5 120 yX5_isSwing, Cond.static yX5_isSwing, Cond.code yX5_isSwing cX5_isSwing 1 (some .boolean)]
def wsX5_fault_r3 : List Cond := [Cond.methodLink RX5 133 yX5_refuses, Cond.instanceMethod yX5_refuses, Cond.selects RX5 yX5_refuses yX5_refuses, Cond.code yX5_refuses cX5_refuses 6 (some .int), Cond.methodLink RX5 45 yX5_of, Cond.instanceMethod yX5_of, Cond.selects RX5 yX5_of yX5_of, Cond.code yX5_of cX5_of 3 (some .int), Cond.methodLink RX5 48 yX5_hoursMeet, Cond.static yX5_hoursMeet, Cond.code yX5_hoursMeet cX5_hoursMeet 2 (some .boolean), Cond.methodLink RX5 75 yX5_stops, Cond.instanceMethod yX5_stops, Cond.selects RX5 yX5_stops yX5_stops, Cond.code yX5_stops cX5_stops 3 (some .boolean), Cond.methodLink RX5 34 yX5_craned, Cond.instanceMethod yX5_craned, Cond.selects RX5 yX5_craned yX5_craned, Cond.code yX5_craned cX5_craned 3 (some .int), Cond.methodLink RX5 126 yX5_firstInAir, Cond.instanceMethod yX5_firstInAir, Cond.selects RX5 yX5_firstInAir yX5_firstInAir, Cond.code yX5_firstInAir cX5_firstInAir 6 (some .int), Cond.methodLink RX5 55 yX5_air]
def wsX5_fault_r4 : List Cond := [Cond.instanceMethod yX5_air, Cond.selects RX5 yX5_air yX5_air, Cond.code yX5_air cX5_air 8 (some .boolean), Cond.methodLink RX5 52 yX5_areaMeets, Cond.instanceMethod yX5_areaMeets, Cond.selects RX5 yX5_areaMeets yX5_areaMeets, Cond.code yX5_areaMeets cX5_areaMeets 6 (some .boolean), Cond.methodLink RX5 41 yX5_isCovered, Cond.instanceMethod yX5_isCovered, Cond.selects RX5 yX5_isCovered yX5_isCovered, Cond.code yX5_isCovered cX5_isCovered 7 (some .boolean), Cond.methodLink RX5 38 yX5_direction, Cond.static yX5_direction, Cond.code yX5_direction cX5_direction 2 (some .int), Cond.methodLink RX5 78 yX5_used, Cond.instanceMethod yX5_used, Cond.selects RX5 yX5_used yX5_used, Cond.code yX5_used cX5_used 5 (some .int), Cond.methodLink RX5 69 yX5_isOf, Cond.instanceMethod yX5_isOf, Cond.selects RX5 yX5_isOf yX5_isOf, Cond.code yX5_isOf cX5_isOf 4 (some .boolean), Cond.methodLink RX5 72 yX5_uses, Cond.instanceMethod yX5_uses]
def wsX5_fault_r5 : List Cond := [Cond.selects RX5 yX5_uses yX5_uses, Cond.code yX5_uses cX5_uses 2 (some .int), Cond.methodLink RX5 65 yX5_hoursIn, Cond.static yX5_hoursIn, Cond.code yX5_hoursIn cX5_hoursIn 1 (some .int), Cond.methodLink RX5 81 yX5_credits, Cond.instanceMethod yX5_credits, Cond.selects RX5 yX5_credits yX5_credits, Cond.code yX5_credits cX5_credits 4 (some .int), Cond.methodLink RX5 59 yX5_spot, Cond.static yX5_spot, Cond.code yX5_spot cX5_spot 2 (some .int), Cond.methodLink RX5 62 yX5_allowed, Cond.instanceMethod yX5_allowed, Cond.selects RX5 yX5_allowed yX5_allowed, Cond.code yX5_allowed cX5_allowed 4 (some .int), Cond.methodLink RX5 136 yX5_isFull, Cond.instanceMethod yX5_isFull, Cond.selects RX5 yX5_isFull yX5_isFull, Cond.code yX5_isFull cX5_isFull 1 (some .boolean), Cond.methodLink RX5 101 yX5_valid, Cond.instanceMethod yX5_valid, Cond.selects RX5 yX5_valid yX5_valid, Cond.code yX5_valid cX5_valid 4 (some .int)]
def wsX5_fault_r6 : List Cond := [Cond.methodLink RX5 140 yX5_grants, Cond.instanceMethod yX5_grants, Cond.selects RX5 yX5_grants yX5_grants, Cond.code yX5_grants cX5_grants 6 (some .int)]
def wsX5_fault : List Cond := .code yX5_fault cX5_fault 3 (some .int) :: ((wsX5_fault_r1 ++ (wsX5_fault_r2 ++ (wsX5_fault_r3 ++ (wsX5_fault_r4 ++ (wsX5_fault_r5 ++ wsX5_fault_r6))))) ++ wsX50)
def wsX5_enter_r1 : List Cond := [Cond.fieldLink RX5 149 "CranePermitsModel" "at" "I", Cond.fieldLink RX5 117 "CranePermitsModel" "typed" "I", Cond.methodLink RX5 168 yX5_faulty, Cond.instanceMethod yX5_faulty, Cond.selects RX5 yX5_faulty yX5_faulty, Cond.initialized RX5, Cond.code yX5_faulty cX5_faulty 3 (some .int), Cond.fieldLink RX5 16 "CranePermitsModel" "aside" "[I", Cond.fieldLink RX5 7 "CranePermitsModel" "d" "[I", Cond.fieldLink RX5 165 "CranePermitsModel" "reason" "I", Cond.methodLink RX5 162 yX5_entersOne, Cond.instanceMethod yX5_entersOne, Cond.selects RX5 yX5_entersOne yX5_entersOne, Cond.code yX5_entersOne cX5_entersOne 3 (some .int), Cond.fieldLink RX5 23 "CranePermitsModel" "got" "[I", Cond.methodLink RX5 159 yX5_readsForm, Cond.instanceMethod yX5_readsForm, Cond.selects RX5 yX5_readsForm yX5_readsForm, Cond.code yX5_readsForm cX5_readsForm 1 (some .boolean), Cond.methodLink RX5 152 yX5_number, Cond.instanceMethod yX5_number, Cond.selects RX5 yX5_number yX5_number, Cond.code yX5_number cX5_number 4 (some .int), Cond.fieldLink RX5 19 "CranePermitsModel" "text" "[C"]
def wsX5_enter_r2 : List Cond := [Cond.methodLink RX5 26 yX5_in, Cond.static yX5_in, Cond.code yX5_in cX5_in 3 (some .boolean), Cond.methodLink RX5 155 yX5_passes, Cond.instanceMethod yX5_passes, Cond.selects RX5 yX5_passes yX5_passes, Cond.code yX5_passes cX5_passes 3 (some .boolean), Cond.methodLink RX5 130 yX5_isApplication, Cond.instanceMethod yX5_isApplication, Cond.selects RX5 yX5_isApplication yX5_isApplication, Cond.code yX5_isApplication cX5_isApplication 5 (some .boolean), Cond.methodLink RX5 94 yX5_isCrane, Cond.instanceMethod yX5_isCrane, Cond.selects RX5 yX5_isCrane yX5_isCrane, Cond.code yX5_isCrane cX5_isCrane 2 (some .boolean), Cond.methodLink RX5 107 yX5_isNight, Cond.static yX5_isNight, Cond.code yX5_isNight cX5_isNight 1 (some .boolean), Cond.methodLink RX5 123 yX5_areHours, Cond.static yX5_areHours, Cond.code yX5_areHours cX5_areHours 1 (some .boolean), Cond.methodLink RX5 120 yX5_isSwing, Cond.static yX5_isSwing, Cond.code yX5_isSwing cX5_isSwing 1 (some .boolean)]
def wsX5_enter_r3 : List Cond := [Cond.methodLink RX5 133 yX5_refuses, Cond.instanceMethod yX5_refuses, Cond.selects RX5 yX5_refuses yX5_refuses, Cond.code yX5_refuses cX5_refuses 6 (some .int), Cond.methodLink RX5 45 yX5_of, Cond.instanceMethod yX5_of, Cond.selects RX5 yX5_of yX5_of, Cond.code yX5_of cX5_of 3 (some .int), Cond.methodLink RX5 48 yX5_hoursMeet, Cond.static yX5_hoursMeet, Cond.code yX5_hoursMeet cX5_hoursMeet 2 (some .boolean), Cond.methodLink RX5 75 yX5_stops, Cond.instanceMethod yX5_stops, Cond.selects RX5 yX5_stops yX5_stops, Cond.code yX5_stops cX5_stops 3 (some .boolean), Cond.methodLink RX5 34 yX5_craned, Cond.instanceMethod yX5_craned, Cond.selects RX5 yX5_craned yX5_craned, Cond.code yX5_craned cX5_craned 3 (some .int), Cond.methodLink RX5 126 yX5_firstInAir, Cond.instanceMethod yX5_firstInAir, Cond.selects RX5 yX5_firstInAir yX5_firstInAir, Cond.code yX5_firstInAir cX5_firstInAir 6 (some .int), Cond.methodLink RX5 55 yX5_air]
def wsX5_enter_r4 : List Cond := [Cond.instanceMethod yX5_air, Cond.selects RX5 yX5_air yX5_air, Cond.code yX5_air cX5_air 8 (some .boolean), Cond.methodLink RX5 52 yX5_areaMeets, Cond.instanceMethod yX5_areaMeets, Cond.selects RX5 yX5_areaMeets yX5_areaMeets, Cond.code yX5_areaMeets cX5_areaMeets 6 (some .boolean), Cond.methodLink RX5 41 yX5_isCovered, Cond.instanceMethod yX5_isCovered, Cond.selects RX5 yX5_isCovered yX5_isCovered, Cond.code yX5_isCovered cX5_isCovered 7 (some .boolean), Cond.methodLink RX5 38 yX5_direction, Cond.static yX5_direction, Cond.code yX5_direction cX5_direction 2 (some .int), Cond.methodLink RX5 78 yX5_used, Cond.instanceMethod yX5_used, Cond.selects RX5 yX5_used yX5_used, Cond.code yX5_used cX5_used 5 (some .int), Cond.methodLink RX5 69 yX5_isOf, Cond.instanceMethod yX5_isOf, Cond.selects RX5 yX5_isOf yX5_isOf, Cond.code yX5_isOf cX5_isOf 4 (some .boolean), Cond.methodLink RX5 72 yX5_uses, Cond.instanceMethod yX5_uses]
def wsX5_enter_r5 : List Cond := [Cond.selects RX5 yX5_uses yX5_uses, Cond.code yX5_uses cX5_uses 2 (some .int), Cond.methodLink RX5 65 yX5_hoursIn, Cond.static yX5_hoursIn, Cond.code yX5_hoursIn cX5_hoursIn 1 (some .int), Cond.methodLink RX5 81 yX5_credits, Cond.instanceMethod yX5_credits, Cond.selects RX5 yX5_credits yX5_credits, Cond.code yX5_credits cX5_credits 4 (some .int), Cond.methodLink RX5 59 yX5_spot, Cond.static yX5_spot, Cond.code yX5_spot cX5_spot 2 (some .int), Cond.methodLink RX5 62 yX5_allowed, Cond.instanceMethod yX5_allowed, Cond.selects RX5 yX5_allowed yX5_allowed, Cond.code yX5_allowed cX5_allowed 4 (some .int), Cond.methodLink RX5 136 yX5_isFull, Cond.instanceMethod yX5_isFull, Cond.selects RX5 yX5_isFull yX5_isFull, Cond.code yX5_isFull cX5_isFull 1 (some .boolean), Cond.methodLink RX5 101 yX5_valid, Cond.instanceMethod yX5_valid, Cond.selects RX5 yX5_valid yX5_valid, Cond.code yX5_valid cX5_valid 4 (some .int)]
def wsX5_enter_r6 : List Cond := [Cond.methodLink RX5 140 yX5_grants, Cond.instanceMethod yX5_grants, Cond.selects RX5 yX5_grants yX5_grants, Cond.code yX5_grants cX5_grants 6 (some .int), Cond.methodLink RX5 91 yX5_records, Cond.instanceMethod yX5_records, Cond.selects RX5 yX5_records yX5_records, Cond.code yX5_records cX5_records 2 none, Cond.fieldLink RX5 30 "CranePermitsModel" "states" "I", Cond.fieldLink RX5 13 "CranePermitsModel" "was" "[I"]
def wsX5_enter : List Cond := .code yX5_enter cX5_enter 2 (some .int) :: ((wsX5_enter_r1 ++ (wsX5_enter_r2 ++ (wsX5_enter_r3 ++ (wsX5_enter_r4 ++ (wsX5_enter_r5 ++ wsX5_enter_r6))))) ++ wsX50)
def wsJ9_abs_0f7a4 : List Cond := .code yJ9_abs_0f7a4 cJ9_abs_0f7a4 1 (some .int) :: ([])
def wsL_law_r1 : List Cond := [Cond.classLink RL 7 RX4, Cond.instantiable RX4 5, Cond.initialized RX4, Cond.classLink RL 10 RX5, Cond.instantiable RX5 9, Cond.initialized RX5, Cond.methodLink RL 9 yX4_init, Cond.instanceMethod yX4_init, Cond.code yX4_init cX4_init 2 none, Cond.methodLink RX4 1 objectInit, Cond.instanceMethod objectInit, Cond.code objectInit ⟨#[0xb1]⟩ 1 none, Cond.classLink RX4 7 RX2, Cond.instantiable RX2 13, Cond.initialized RX2, Cond.fieldLink RX4 10 "CranePermits" "now" "LCranePermits$Site;", Cond.fieldLink RX4 16 "CranePermits" "trial" "LCranePermits$Site;", Cond.fieldLink RX4 19 "CranePermits" "past" "[LCranePermits$Site;", Cond.fieldLink RX4 23 "CranePermits" "pastCount" "I", Cond.classLink RX4 27 RX3, Cond.instantiable RX3 9, Cond.initialized RX3, Cond.fieldLink RX4 30 "CranePermits" "text" "LCranePermits$Text;", Cond.methodLink RX4 9 yX2_init]
def wsL_law_r2 : List Cond := [Cond.instanceMethod yX2_init, Cond.code yX2_init cX2_init 1 none, Cond.methodLink RX2 3 objectInit, Cond.classLink RX2 9 RX0, Cond.fieldLink RX2 11 "CranePermits$Site" "cranes" "[LCranePermits$Crane;", Cond.fieldLink RX2 17 "CranePermits$Site" "craneCount" "I", Cond.arrayClass .int, Cond.fieldLink RX2 21 "CranePermits$Site" "noises" "[I", Cond.fieldLink RX2 25 "CranePermits$Site" "settings" "[I", Cond.fieldLink RX2 28 "CranePermits$Site" "winds" "[I", Cond.fieldLink RX2 31 "CranePermits$Site" "allowances" "[I", Cond.fieldLink RX2 34 "CranePermits$Site" "received" "[I", Cond.fieldLink RX2 37 "CranePermits$Site" "given" "[I", Cond.classLink RX2 40 RX1, Cond.fieldLink RX2 42 "CranePermits$Site" "permits" "[LCranePermits$Permit;", Cond.fieldLink RX2 46 "CranePermits$Site" "permitCount" "I", Cond.fieldLink RX2 49 "CranePermits$Site" "states" "[I", Cond.fieldLink RX2 52 "CranePermits$Site" "valid" "[LCranePermits$Permit;", Cond.fieldLink RX2 55 "CranePermits$Site" "validCount" "I", Cond.methodLink RX2 58 yJ7_fill_53178, Cond.static yJ7_fill_53178, Cond.initialized RJ7, Cond.code yJ7_fill_53178 cJ7_fill_53178 4 none, Cond.instanceMethod yX3_init]
def wsL_law_r3 : List Cond := [Cond.code yX3_init cX3_init 1 none, Cond.methodLink RX3 3 objectInit, Cond.arrayClass .char, Cond.fieldLink RX3 9 "CranePermits$Text" "signs" "[C", Cond.fieldLink RX3 15 "CranePermits$Text" "length" "I", Cond.fieldLink RX3 19 "CranePermits$Text" "start" "I", Cond.fieldLink RX3 22 "CranePermits$Text" "next" "I", Cond.fieldLink RX3 25 "CranePermits$Text" "formed" "Z", Cond.fieldLink RX3 29 "CranePermits$Text" "crane" "I", Cond.fieldLink RX3 32 "CranePermits$Text" "night" "I", Cond.fieldLink RX3 35 "CranePermits$Text" "hours" "I", Cond.fieldLink RX3 38 "CranePermits$Text" "swing" "I", Cond.methodLink RL 12 yX5_init, Cond.instanceMethod yX5_init, Cond.code yX5_init cX5_init 2 none, Cond.methodLink RX5 1 objectInit, Cond.fieldLink RX5 7 "CranePermitsModel" "d" "[I", Cond.fieldLink RX5 13 "CranePermitsModel" "was" "[I", Cond.fieldLink RX5 16 "CranePermitsModel" "aside" "[I", Cond.fieldLink RX5 19 "CranePermitsModel" "text" "[C", Cond.fieldLink RX5 23 "CranePermitsModel" "got" "[I", Cond.methodLink RL 13 yX4_crane, Cond.instanceMethod yX4_crane, Cond.selects RX4 yX4_crane yX4_crane]
def wsL_law_r4 : List Cond := [Cond.code yX4_crane cX4_crane 8 (some .int), Cond.fieldLink RX4 49 "CranePermits$Site" "craneCount" "I", Cond.classLink RX4 55 RX0, Cond.instantiable RX0 7, Cond.initialized RX0, Cond.fieldLink RX4 64 "CranePermits$Crane" "number" "I", Cond.methodLink RX4 34 yX4_isCell, Cond.static yX4_isCell, Cond.code yX4_isCell cX4_isCell 2 (some .boolean), Cond.methodLink RX4 38 yX4_isIn, Cond.static yX4_isIn, Cond.code yX4_isIn cX4_isIn 3 (some .boolean), Cond.methodLink RX4 42 yX4_isStreet, Cond.static yX4_isStreet, Cond.code yX4_isStreet cX4_isStreet 1 (some .boolean), Cond.methodLink RX4 46 yX2_hasCraneIn, Cond.instanceMethod yX2_hasCraneIn, Cond.selects RX2 yX2_hasCraneIn yX2_hasCraneIn, Cond.code yX2_hasCraneIn cX2_hasCraneIn 5 (some .boolean), Cond.fieldLink RX2 74 "CranePermits$Crane" "x" "I", Cond.fieldLink RX2 77 "CranePermits$Crane" "y" "I", Cond.methodLink RX2 70 yX2_craneAt, Cond.instanceMethod yX2_craneAt, Cond.selects RX2 yX2_craneAt yX2_craneAt]
def wsL_law_r5 : List Cond := [Cond.code yX2_craneAt cX2_craneAt 3 (some (.object "CranePermits$Crane")), Cond.methodLink RX4 52 yX4_remember, Cond.instanceMethod yX4_remember, Cond.selects RX4 yX4_remember yX4_remember, Cond.code yX4_remember cX4_remember 2 none, Cond.methodLink RX4 261 arraycopyName, Cond.native arraycopyName, Cond.static arraycopyName, Cond.initialized "java/lang/System", Cond.methodLink RX4 171 yX2_copyFrom, Cond.instanceMethod yX2_copyFrom, Cond.selects RX2 yX2_copyFrom yX2_copyFrom, Cond.code yX2_copyFrom cX2_copyFrom 2 none, Cond.methodLink RX2 64 arraycopyName, Cond.methodLink RX4 57 yX0_init, Cond.instanceMethod yX0_init, Cond.code yX0_init cX0_init 10 none, Cond.methodLink RX0 3 objectInit, Cond.arrayClass .long, Cond.fieldLink RX0 9 "CranePermits$Crane" "eighths" "[J", Cond.fieldLink RX0 15 "CranePermits$Crane" "number" "I", Cond.fieldLink RX0 19 "CranePermits$Crane" "x" "I", Cond.fieldLink RX0 22 "CranePermits$Crane" "y" "I", Cond.fieldLink RX0 25 "CranePermits$Crane" "reach" "I"]
def wsL_law_r6 : List Cond := [Cond.fieldLink RX0 28 "CranePermits$Crane" "height" "I", Cond.fieldLink RX0 31 "CranePermits$Crane" "street" "I", Cond.methodLink RX0 34 yX0_markOwnCell, Cond.instanceMethod yX0_markOwnCell, Cond.selects RX0 yX0_markOwnCell yX0_markOwnCell, Cond.code yX0_markOwnCell cX0_markOwnCell 3 none, Cond.methodLink RX0 42 yX0_mark, Cond.instanceMethod yX0_mark, Cond.selects RX0 yX0_mark yX0_mark, Cond.code yX0_mark cX0_mark 4 none, Cond.methodLink RX0 38 yX0_directionOf, Cond.static yX0_directionOf, Cond.code yX0_directionOf cX0_directionOf 2 (some .int), Cond.methodLink RX4 60 yX2_addCrane, Cond.instanceMethod yX2_addCrane, Cond.selects RX2 yX2_addCrane yX2_addCrane, Cond.code yX2_addCrane cX2_addCrane 3 none, Cond.static yX4_put, Cond.code yX4_put cX4_put 3 none, Cond.methodLink RL 17 yX5_crane, Cond.instanceMethod yX5_crane, Cond.selects RX5 yX5_crane yX5_crane, Cond.code yX5_crane cX5_crane 8 (some .int), Cond.methodLink RX5 26 yX5_in]
def wsL_law_r7 : List Cond := [Cond.static yX5_in, Cond.code yX5_in cX5_in 3 (some .boolean), Cond.methodLink RX5 87 yX5_isStreet, Cond.static yX5_isStreet, Cond.code yX5_isStreet cX5_isStreet 1 (some .boolean), Cond.methodLink RX5 34 yX5_craned, Cond.instanceMethod yX5_craned, Cond.selects RX5 yX5_craned yX5_craned, Cond.code yX5_craned cX5_craned 3 (some .int), Cond.methodLink RX5 91 yX5_records, Cond.instanceMethod yX5_records, Cond.selects RX5 yX5_records yX5_records, Cond.code yX5_records cX5_records 2 none, Cond.fieldLink RX5 30 "CranePermitsModel" "states" "I", Cond.methodLink RL 18 yX4_noise, Cond.instanceMethod yX4_noise, Cond.selects RX4 yX4_noise yX4_noise, Cond.code yX4_noise cX4_noise 4 (some .int), Cond.fieldLink RX4 71 "CranePermits$Site" "noises" "[I", Cond.methodLink RX4 67 yX2_craneAt, Cond.methodLink RX4 75 yX4_put, Cond.methodLink RX4 79 yX2_withdrawFailing, Cond.instanceMethod yX2_withdrawFailing, Cond.selects RX2 yX2_withdrawFailing yX2_withdrawFailing]
def wsL_law_r8 : List Cond := [Cond.code yX2_withdrawFailing cX2_withdrawFailing 4 (some .int), Cond.fieldLink RX2 113 "CranePermits$Permit" "crane" "LCranePermits$Crane;", Cond.fieldLink RX2 159 "CranePermits$Permit" "night" "I", Cond.fieldLink RX2 174 "CranePermits$Crane" "street" "I", Cond.methodLink RX2 105 yX2_validAt, Cond.instanceMethod yX2_validAt, Cond.selects RX2 yX2_validAt yX2_validAt, Cond.code yX2_validAt cX2_validAt 3 (some (.object "CranePermits$Permit")), Cond.methodLink RX2 166 yX2_mustStop, Cond.instanceMethod yX2_mustStop, Cond.selects RX2 yX2_mustStop yX2_mustStop, Cond.code yX2_mustStop cX2_mustStop 3 (some .boolean), Cond.static yX4_at, Cond.code yX4_at cX4_at 2 (some .int), Cond.methodLink RX2 91 yX2_stopWindOf, Cond.instanceMethod yX2_stopWindOf, Cond.selects RX2 yX2_stopWindOf yX2_stopWindOf, Cond.code yX2_stopWindOf cX2_stopWindOf 2 (some .int), Cond.fieldLink RX2 88 "CranePermits$Crane" "height" "I", Cond.methodLink RX2 177 yX2_freeOf, Cond.instanceMethod yX2_freeOf, Cond.selects RX2 yX2_freeOf yX2_freeOf, Cond.code yX2_freeOf cX2_freeOf 3 (some .int), Cond.methodLink RX2 124 yX2_creditsOf]
def wsL_law_r9 : List Cond := [Cond.instanceMethod yX2_creditsOf, Cond.selects RX2 yX2_creditsOf yX2_creditsOf, Cond.code yX2_creditsOf cX2_creditsOf 4 (some .int), Cond.static yX4_streetNight, Cond.code yX4_streetNight cX4_streetNight 2 (some .int), Cond.methodLink RX2 99 yX2_allowanceOf, Cond.instanceMethod yX2_allowanceOf, Cond.selects RX2 yX2_allowanceOf yX2_allowanceOf, Cond.code yX2_allowanceOf cX2_allowanceOf 4 (some .int), Cond.methodLink RX2 127 yX2_usedOf, Cond.instanceMethod yX2_usedOf, Cond.selects RX2 yX2_usedOf yX2_usedOf, Cond.code yX2_usedOf cX2_usedOf 6 (some .int), Cond.fieldLink RX2 117 "CranePermits$Permit" "hours" "I", Cond.methodLink RX2 109 yX1_isOf, Cond.instanceMethod yX1_isOf, Cond.selects RX1 yX1_isOf yX1_isOf, Cond.initialized RX1, Cond.code yX1_isOf cX1_isOf 3 (some .boolean), Cond.fieldLink RX1 13 "CranePermits$Permit" "crane" "LCranePermits$Crane;", Cond.fieldLink RX1 35 "CranePermits$Crane" "street" "I", Cond.fieldLink RX1 17 "CranePermits$Permit" "night" "I", Cond.methodLink RX2 120 yX2_useOf, Cond.instanceMethod yX2_useOf]
def wsL_law_r10 : List Cond := [Cond.selects RX2 yX2_useOf yX2_useOf, Cond.code yX2_useOf cX2_useOf 3 (some .int), Cond.fieldLink RX2 102 "CranePermits$Crane" "number" "I", Cond.methodLink RX2 180 yX2_end, Cond.instanceMethod yX2_end, Cond.selects RX2 yX2_end yX2_end, Cond.code yX2_end cX2_end 6 none, Cond.fieldLink RX2 158 "CranePermits$Permit" "number" "I", Cond.methodLink RL 22 yX5_noise, Cond.instanceMethod yX5_noise, Cond.selects RX5 yX5_noise yX5_noise, Cond.code yX5_noise cX5_noise 3 (some .int), Cond.methodLink RX5 94 yX5_isCrane, Cond.instanceMethod yX5_isCrane, Cond.selects RX5 yX5_isCrane yX5_isCrane, Cond.code yX5_isCrane cX5_isCrane 2 (some .boolean), Cond.methodLink RX5 97 yX5_savesAll, Cond.instanceMethod yX5_savesAll, Cond.selects RX5 yX5_savesAll yX5_savesAll, Cond.code yX5_savesAll cX5_savesAll 3 (some .int), Cond.methodLink RX5 84 yX5_saves, Cond.instanceMethod yX5_saves, Cond.selects RX5 yX5_saves yX5_saves, Cond.code yX5_saves cX5_saves 5 (some .int)]
def wsL_law_r11 : List Cond := [Cond.methodLink RX5 69 yX5_isOf, Cond.instanceMethod yX5_isOf, Cond.selects RX5 yX5_isOf yX5_isOf, Cond.code yX5_isOf cX5_isOf 4 (some .boolean), Cond.methodLink RX5 45 yX5_of, Cond.instanceMethod yX5_of, Cond.selects RX5 yX5_of yX5_of, Cond.code yX5_of cX5_of 3 (some .int), Cond.methodLink RX5 78 yX5_used, Cond.instanceMethod yX5_used, Cond.selects RX5 yX5_used yX5_used, Cond.code yX5_used cX5_used 5 (some .int), Cond.methodLink RX5 72 yX5_uses, Cond.instanceMethod yX5_uses, Cond.selects RX5 yX5_uses yX5_uses, Cond.code yX5_uses cX5_uses 2 (some .int), Cond.methodLink RX5 65 yX5_hoursIn, Cond.static yX5_hoursIn, Cond.code yX5_hoursIn cX5_hoursIn 1 (some .int), Cond.methodLink RX5 81 yX5_credits, Cond.instanceMethod yX5_credits, Cond.selects RX5 yX5_credits yX5_credits, Cond.code yX5_credits cX5_credits 4 (some .int), Cond.methodLink RX5 59 yX5_spot]
def wsL_law_r12 : List Cond := [Cond.static yX5_spot, Cond.code yX5_spot cX5_spot 2 (some .int), Cond.methodLink RX5 62 yX5_allowed, Cond.instanceMethod yX5_allowed, Cond.selects RX5 yX5_allowed yX5_allowed, Cond.code yX5_allowed cX5_allowed 4 (some .int), Cond.methodLink RL 23 yX4_craneOf, Cond.instanceMethod yX4_craneOf, Cond.selects RX4 yX4_craneOf yX4_craneOf, Cond.code yX4_craneOf cX4_craneOf 4 (some .int), Cond.fieldLink RX4 83 "CranePermits$Crane" "x" "I", Cond.fieldLink RX4 86 "CranePermits$Crane" "y" "I", Cond.fieldLink RX4 89 "CranePermits$Crane" "reach" "I", Cond.fieldLink RX4 92 "CranePermits$Crane" "height" "I", Cond.fieldLink RX4 95 "CranePermits$Crane" "street" "I", Cond.methodLink RX4 98 yX4_at, Cond.methodLink RX4 102 yX2_validOfCrane, Cond.instanceMethod yX2_validOfCrane, Cond.selects RX2 yX2_validOfCrane yX2_validOfCrane, Cond.code yX2_validOfCrane cX2_validOfCrane 5 (some .int), Cond.methodLink RX2 130 yX1_isFor, Cond.instanceMethod yX1_isFor, Cond.selects RX1 yX1_isFor yX1_isFor, Cond.code yX1_isFor cX1_isFor 2 (some .boolean)]
def wsL_law_r13 : List Cond := [Cond.fieldLink RX1 32 "CranePermits$Crane" "number" "I", Cond.methodLink RX4 106 yX2_stopWindOf, Cond.methodLink RL 26 yX5_craneOf, Cond.instanceMethod yX5_craneOf, Cond.selects RX5 yX5_craneOf yX5_craneOf, Cond.code yX5_craneOf cX5_craneOf 3 (some .int), Cond.methodLink RX5 101 yX5_valid, Cond.instanceMethod yX5_valid, Cond.selects RX5 yX5_valid yX5_valid, Cond.code yX5_valid cX5_valid 4 (some .int), Cond.methodLink RL 27 yX4_set, Cond.instanceMethod yX4_set, Cond.selects RX4 yX4_set yX4_set, Cond.code yX4_set cX4_set 3 (some .int), Cond.fieldLink RX4 109 "CranePermits" "SETTING_LEAST" "[I", Cond.fieldLink RX4 112 "CranePermits" "SETTING_MOST" "[I", Cond.fieldLink RX4 115 "CranePermits$Site" "settings" "[I", Cond.methodLink RL 30 yX5_set, Cond.instanceMethod yX5_set, Cond.selects RX5 yX5_set yX5_set, Cond.code yX5_set cX5_set 6 (some .int), Cond.methodLink RX5 104 yX5_calms, Cond.instanceMethod yX5_calms, Cond.selects RX5 yX5_calms yX5_calms]
def wsL_law_r14 : List Cond := [Cond.code yX5_calms cX5_calms 4 (some .int), Cond.methodLink RX5 75 yX5_stops, Cond.instanceMethod yX5_stops, Cond.selects RX5 yX5_stops yX5_stops, Cond.code yX5_stops cX5_stops 3 (some .boolean), Cond.methodLink RL 31 yX4_wind, Cond.instanceMethod yX4_wind, Cond.selects RX4 yX4_wind yX4_wind, Cond.code yX4_wind cX4_wind 3 (some .int), Cond.fieldLink RX4 121 "CranePermits$Site" "winds" "[I", Cond.methodLink RX4 118 yX4_isNight, Cond.static yX4_isNight, Cond.code yX4_isNight cX4_isNight 1 (some .boolean), Cond.methodLink RL 34 yX5_wind, Cond.instanceMethod yX5_wind, Cond.selects RX5 yX5_wind yX5_wind, Cond.code yX5_wind cX5_wind 3 (some .int), Cond.methodLink RX5 107 yX5_isNight, Cond.static yX5_isNight, Cond.code yX5_isNight cX5_isNight 1 (some .boolean), Cond.methodLink RL 35 yX4_allow, Cond.instanceMethod yX4_allow, Cond.selects RX4 yX4_allow yX4_allow, Cond.code yX4_allow cX4_allow 4 (some .int)]
def wsL_law_r15 : List Cond := [Cond.fieldLink RX4 124 "CranePermits$Site" "allowances" "[I", Cond.methodLink RX4 127 yX4_streetNight, Cond.methodLink RL 39 yX5_allow, Cond.instanceMethod yX5_allow, Cond.selects RX5 yX5_allow yX5_allow, Cond.code yX5_allow cX5_allow 4 (some .int), Cond.methodLink RL 40 yX4_transfer, Cond.instanceMethod yX4_transfer, Cond.selects RX4 yX4_transfer yX4_transfer, Cond.code yX4_transfer cX4_transfer 8 (some .int), Cond.fieldLink RX4 134 "CranePermits$Site" "given" "[I", Cond.fieldLink RX4 137 "CranePermits$Site" "received" "[I", Cond.methodLink RX4 131 yX2_freeOf, Cond.methodLink RL 44 yX5_transfer, Cond.instanceMethod yX5_transfer, Cond.selects RX5 yX5_transfer yX5_transfer, Cond.code yX5_transfer cX5_transfer 6 (some .int), Cond.methodLink RL 45 yX4_street, Cond.instanceMethod yX4_street, Cond.selects RX4 yX4_street yX4_street, Cond.code yX4_street cX4_street 4 (some .int), Cond.methodLink RX4 140 yX2_allowanceOf, Cond.methodLink RX4 143 yX2_creditsOf, Cond.methodLink RX4 146 yX2_usedOf]
def wsL_law_r16 : List Cond := [Cond.methodLink RX4 149 yX2_validOfStreet, Cond.instanceMethod yX2_validOfStreet, Cond.selects RX2 yX2_validOfStreet yX2_validOfStreet, Cond.code yX2_validOfStreet cX2_validOfStreet 6 (some .int), Cond.methodLink RL 48 yX5_street, Cond.instanceMethod yX5_street, Cond.selects RX5 yX5_street yX5_street, Cond.code yX5_street cX5_street 4 (some .int), Cond.methodLink RX5 110 yX5_validOf, Cond.instanceMethod yX5_validOf, Cond.selects RX5 yX5_validOf yX5_validOf, Cond.code yX5_validOf cX5_validOf 5 (some .int), Cond.methodLink RL 49 yX4_count, Cond.instanceMethod yX4_count, Cond.selects RX4 yX4_count yX4_count, Cond.code yX4_count cX4_count 2 (some .int), Cond.fieldLink RX4 152 "CranePermits$Site" "validCount" "I", Cond.fieldLink RX4 155 "CranePermits$Site" "permitCount" "I", Cond.fieldLink RX4 168 "CranePermits$Text" "length" "I", Cond.methodLink RX4 158 yX2_permitsWith, Cond.instanceMethod yX2_permitsWith, Cond.selects RX2 yX2_permitsWith yX2_permitsWith, Cond.code yX2_permitsWith cX2_permitsWith 4 (some .int), Cond.methodLink RX4 162 yX2_usedByAll]
def wsL_law_r17 : List Cond := [Cond.instanceMethod yX2_usedByAll, Cond.selects RX2 yX2_usedByAll yX2_usedByAll, Cond.code yX2_usedByAll cX2_usedByAll 4 (some .int), Cond.methodLink RX4 165 yX2_sharingPairs, Cond.instanceMethod yX2_sharingPairs, Cond.selects RX2 yX2_sharingPairs yX2_sharingPairs, Cond.code yX2_sharingPairs cX2_sharingPairs 6 (some .int), Cond.fieldLink RX2 151 "CranePermits$Permit" "swing" "I", Cond.methodLink RX2 154 yX2_shareAir, Cond.instanceMethod yX2_shareAir, Cond.selects RX2 yX2_shareAir yX2_shareAir, Cond.code yX2_shareAir cX2_shareAir 8 (some .boolean), Cond.methodLink RX2 141 Lib.Math.abs.name, Cond.static Lib.Math.abs.name, Cond.initialized "java/lang/Math", Cond.code Lib.Math.abs.name Lib.Math.abs.code 1 (some .int), Cond.methodLink RX2 138 yX1_meets, Cond.instanceMethod yX1_meets, Cond.selects RX1 yX1_meets yX1_meets, Cond.code yX1_meets cX1_meets 5 (some .boolean), Cond.fieldLink RX1 26 "CranePermits$Permit" "last" "I", Cond.fieldLink RX1 23 "CranePermits$Permit" "first" "I", Cond.methodLink RX2 147 yX0_airOf, Cond.instanceMethod yX0_airOf]
def wsL_law_r18 : List Cond := [Cond.selects RX0 yX0_airOf yX0_airOf, Cond.code yX0_airOf cX0_airOf 8 (some .long), Cond.methodLink RL 53 yX5_count, Cond.instanceMethod yX5_count, Cond.selects RX5 yX5_count yX5_count, Cond.code yX5_count cX5_count 2 (some .int), Cond.fieldLink RX5 117 "CranePermitsModel" "typed" "I", Cond.methodLink RX5 113 yX5_together, Cond.instanceMethod yX5_together, Cond.selects RX5 yX5_together yX5_together, Cond.code yX5_together cX5_together 5 (some .int), Cond.methodLink RX5 55 yX5_air, Cond.instanceMethod yX5_air, Cond.selects RX5 yX5_air yX5_air, Cond.code yX5_air cX5_air 8 (some .boolean), Cond.methodLink RX5 48 yX5_hoursMeet, Cond.static yX5_hoursMeet, Cond.code yX5_hoursMeet cX5_hoursMeet 2 (some .boolean), Cond.methodLink RX5 52 yX5_areaMeets, Cond.instanceMethod yX5_areaMeets, Cond.selects RX5 yX5_areaMeets yX5_areaMeets, Cond.code yX5_areaMeets cX5_areaMeets 6 (some .boolean), Cond.methodLink RX5 41 yX5_isCovered, Cond.instanceMethod yX5_isCovered]
def wsL_law_r19 : List Cond := [Cond.selects RX5 yX5_isCovered yX5_isCovered, Cond.code yX5_isCovered cX5_isCovered 7 (some .boolean), Cond.methodLink RX5 38 yX5_direction, Cond.static yX5_direction, Cond.code yX5_direction cX5_direction 2 (some .int), Cond.methodLink RL 54 yX4_undo, Cond.instanceMethod yX4_undo, Cond.selects RX4 yX4_undo yX4_undo, Cond.code yX4_undo cX4_undo 1 (some .int), Cond.methodLink RL 58 yX5_undo, Cond.instanceMethod yX5_undo, Cond.selects RX5 yX5_undo yX5_undo, Cond.code yX5_undo cX5_undo 2 (some .int), Cond.methodLink RL 59 yX4_covers, Cond.instanceMethod yX4_covers, Cond.selects RX4 yX4_covers yX4_covers, Cond.code yX4_covers cX4_covers 9 (some .int), Cond.methodLink RX4 175 yX4_isSwing, Cond.static yX4_isSwing, Cond.code yX4_isSwing cX4_isSwing 1 (some .boolean), Cond.methodLink RX4 178 yX0_airOf, Cond.methodLink RL 62 yX5_covers, Cond.instanceMethod yX5_covers, Cond.selects RX5 yX5_covers yX5_covers]
def wsL_law_r20 : List Cond := [Cond.code yX5_covers cX5_covers 5 (some .int), Cond.methodLink RX5 120 yX5_isSwing, Cond.static yX5_isSwing, Cond.code yX5_isSwing cX5_isSwing 1 (some .boolean), Cond.methodLink RL 63 yX4_area, Cond.instanceMethod yX4_area, Cond.selects RX4 yX4_area yX4_area, Cond.code yX4_area cX4_area 6 (some .int), Cond.methodLink RX4 182 yJ13_bitCount_95d88, Cond.static yJ13_bitCount_95d88, Cond.initialized RJ13, Cond.code yJ13_bitCount_95d88 cJ13_bitCount_95d88 2 (some .int), Cond.constantLong RJ13 314 (6148914691236517205), Cond.constantLong RJ13 316 (3689348814741910323), Cond.constantLong RJ13 318 (1085102592571150095), Cond.methodLink RL 66 yX5_area, Cond.instanceMethod yX5_area, Cond.selects RX5 yX5_area yX5_area, Cond.code yX5_area cX5_area 5 (some .int), Cond.methodLink RL 67 yX4_refusal, Cond.instanceMethod yX4_refusal, Cond.selects RX4 yX4_refusal yX4_refusal, Cond.code yX4_refusal cX4_refusal 6 (some .int), Cond.methodLink RX4 188 yX4_isPlan]
def wsL_law_r21 : List Cond := [Cond.static yX4_isPlan, Cond.code yX4_isPlan cX4_isPlan 3 (some .boolean), Cond.methodLink RX4 191 yX2_refusalOf, Cond.instanceMethod yX2_refusalOf, Cond.selects RX2 yX2_refusalOf yX2_refusalOf, Cond.code yX2_refusalOf cX2_refusalOf 6 (some .int), Cond.methodLink RX2 162 yX2_isBusy, Cond.instanceMethod yX2_isBusy, Cond.selects RX2 yX2_isBusy yX2_isBusy, Cond.code yX2_isBusy cX2_isBusy 6 (some .boolean), Cond.methodLink RX2 170 yX2_lowestSharing, Cond.instanceMethod yX2_lowestSharing, Cond.selects RX2 yX2_lowestSharing yX2_lowestSharing, Cond.code yX2_lowestSharing cX2_lowestSharing 7 (some .int), Cond.methodLink RL 70 yX5_refusal, Cond.instanceMethod yX5_refusal, Cond.selects RX5 yX5_refusal yX5_refusal, Cond.code yX5_refusal cX5_refusal 5 (some .int), Cond.methodLink RX5 130 yX5_isApplication, Cond.instanceMethod yX5_isApplication, Cond.selects RX5 yX5_isApplication yX5_isApplication, Cond.code yX5_isApplication cX5_isApplication 5 (some .boolean), Cond.methodLink RX5 123 yX5_areHours, Cond.static yX5_areHours]
def wsL_law_r22 : List Cond := [Cond.code yX5_areHours cX5_areHours 1 (some .boolean), Cond.methodLink RX5 133 yX5_refuses, Cond.instanceMethod yX5_refuses, Cond.selects RX5 yX5_refuses yX5_refuses, Cond.code yX5_refuses cX5_refuses 6 (some .int), Cond.methodLink RX5 126 yX5_firstInAir, Cond.instanceMethod yX5_firstInAir, Cond.selects RX5 yX5_firstInAir yX5_firstInAir, Cond.code yX5_firstInAir cX5_firstInAir 6 (some .int), Cond.methodLink RL 71 yX4_apply, Cond.instanceMethod yX4_apply, Cond.selects RX4 yX4_apply yX4_apply, Cond.code yX4_apply cX4_apply 7 (some .int), Cond.classLink RX4 199 RX1, Cond.instantiable RX1 7, Cond.fieldLink RX4 208 "CranePermits$Permit" "number" "I", Cond.methodLink RX4 195 yX2_hasRoom, Cond.instanceMethod yX2_hasRoom, Cond.selects RX2 yX2_hasRoom yX2_hasRoom, Cond.code yX2_hasRoom cX2_hasRoom 1 (some .boolean), Cond.methodLink RX4 201 yX1_init, Cond.instanceMethod yX1_init, Cond.code yX1_init cX1_init 6 none, Cond.methodLink RX1 1 objectInit]
def wsL_law_r23 : List Cond := [Cond.fieldLink RX1 7 "CranePermits$Permit" "number" "I", Cond.fieldLink RX1 20 "CranePermits$Permit" "hours" "I", Cond.fieldLink RX1 29 "CranePermits$Permit" "swing" "I", Cond.methodLink RX4 204 yX2_grant, Cond.instanceMethod yX2_grant, Cond.selects RX2 yX2_grant yX2_grant, Cond.code yX2_grant cX2_grant 2 none, Cond.methodLink RL 74 yX5_apply, Cond.instanceMethod yX5_apply, Cond.selects RX5 yX5_apply yX5_apply, Cond.code yX5_apply cX5_apply 5 (some .int), Cond.methodLink RX5 136 yX5_isFull, Cond.instanceMethod yX5_isFull, Cond.selects RX5 yX5_isFull yX5_isFull, Cond.code yX5_isFull cX5_isFull 1 (some .boolean), Cond.methodLink RX5 140 yX5_grants, Cond.instanceMethod yX5_grants, Cond.selects RX5 yX5_grants yX5_grants, Cond.code yX5_grants cX5_grants 6 (some .int), Cond.methodLink RL 75 yX4_withdraw, Cond.instanceMethod yX4_withdraw, Cond.selects RX4 yX4_withdraw yX4_withdraw, Cond.code yX4_withdraw cX4_withdraw 3 (some .int), Cond.fieldLink RX4 213 "CranePermits$Site" "states" "[I"]
def wsL_law_r24 : List Cond := [Cond.fieldLink RX4 220 "CranePermits$Permit" "crane" "LCranePermits$Crane;", Cond.fieldLink RX4 224 "CranePermits$Permit" "hours" "I", Cond.methodLink RX4 209 yX2_permitAt, Cond.instanceMethod yX2_permitAt, Cond.selects RX2 yX2_permitAt yX2_permitAt, Cond.code yX2_permitAt cX2_permitAt 3 (some (.object "CranePermits$Permit")), Cond.methodLink RX4 216 yX2_end, Cond.methodLink RX4 227 yX2_useOf, Cond.methodLink RL 78 yX5_withdraw, Cond.instanceMethod yX5_withdraw, Cond.selects RX5 yX5_withdraw yX5_withdraw, Cond.code yX5_withdraw cX5_withdraw 2 (some .int), Cond.methodLink RX5 143 yX5_isPermit, Cond.instanceMethod yX5_isPermit, Cond.selects RX5 yX5_isPermit yX5_isPermit, Cond.code yX5_isPermit cX5_isPermit 2 (some .boolean), Cond.methodLink RL 79 yX4_permit, Cond.instanceMethod yX4_permit, Cond.selects RX4 yX4_permit yX4_permit, Cond.code yX4_permit cX4_permit 4 (some .int), Cond.fieldLink RX4 231 "CranePermits$Permit" "night" "I", Cond.fieldLink RX4 234 "CranePermits$Permit" "swing" "I", Cond.methodLink RL 82 yX5_permit, Cond.instanceMethod yX5_permit]
def wsL_law_r25 : List Cond := [Cond.selects RX5 yX5_permit yX5_permit, Cond.code yX5_permit cX5_permit 3 (some .int), Cond.methodLink RL 83 yX4_inOrder, Cond.instanceMethod yX4_inOrder, Cond.selects RX4 yX4_inOrder yX4_inOrder, Cond.code yX4_inOrder cX4_inOrder 4 (some .int), Cond.methodLink RX4 237 yX2_validAt, Cond.methodLink RX4 240 yX2_validAhead, Cond.instanceMethod yX2_validAhead, Cond.selects RX2 yX2_validAhead yX2_validAhead, Cond.code yX2_validAhead cX2_validAhead 5 (some .int), Cond.methodLink RX2 134 yX1_isAheadOf, Cond.instanceMethod yX1_isAheadOf, Cond.selects RX1 yX1_isAheadOf yX1_isAheadOf, Cond.code yX1_isAheadOf cX1_isAheadOf 2 (some .boolean), Cond.methodLink RL 86 yX5_inOrder, Cond.instanceMethod yX5_inOrder, Cond.selects RX5 yX5_inOrder yX5_inOrder, Cond.code yX5_inOrder cX5_inOrder 5 (some .int), Cond.methodLink RX5 146 yX5_isAhead, Cond.instanceMethod yX5_isAhead, Cond.selects RX5 yX5_isAhead yX5_isAhead, Cond.code yX5_isAhead cX5_isAhead 5 (some .boolean), Cond.methodLink RL 87 yX4_shares]
def wsL_law_r26 : List Cond := [Cond.instanceMethod yX4_shares, Cond.selects RX4 yX4_shares yX4_shares, Cond.code yX4_shares cX4_shares 6 (some .int), Cond.methodLink RX4 244 yX2_shareAir, Cond.methodLink RL 90 yX5_shares, Cond.instanceMethod yX5_shares, Cond.selects RX5 yX5_shares yX5_shares, Cond.code yX5_shares cX5_shares 3 (some .int), Cond.methodLink RL 91 yX4_inTheWay, Cond.instanceMethod yX4_inTheWay, Cond.selects RX4 yX4_inTheWay yX4_inTheWay, Cond.code yX4_inTheWay cX4_inTheWay 7 (some .int), Cond.methodLink RX4 248 yX2_lowestSharing, Cond.methodLink RL 94 yX5_inTheWay, Cond.instanceMethod yX5_inTheWay, Cond.selects RX5 yX5_inTheWay yX5_inTheWay, Cond.code yX5_inTheWay cX5_inTheWay 6 (some .int), Cond.methodLink RL 95 yX4_firstFree, Cond.instanceMethod yX4_firstFree, Cond.selects RX4 yX4_firstFree yX4_firstFree, Cond.code yX4_firstFree cX4_firstFree 9 (some .int), Cond.methodLink RL 98 yX5_firstFree, Cond.instanceMethod yX5_firstFree, Cond.selects RX5 yX5_firstFree yX5_firstFree]
def wsL_law_r27 : List Cond := [Cond.code yX5_firstFree cX5_firstFree 7 (some .int), Cond.methodLink RL 99 yX4_type, Cond.instanceMethod yX4_type, Cond.selects RX4 yX4_type yX4_type, Cond.code yX4_type cX4_type 2 (some .int), Cond.methodLink RX4 251 yX3_append, Cond.instanceMethod yX3_append, Cond.selects RX3 yX3_append yX3_append, Cond.code yX3_append cX3_append 2 none, Cond.methodLink RL 102 yX5_type, Cond.instanceMethod yX5_type, Cond.selects RX5 yX5_type yX5_type, Cond.code yX5_type cX5_type 2 (some .int), Cond.methodLink RL 103 yX4_clearText, Cond.instanceMethod yX4_clearText, Cond.selects RX4 yX4_clearText yX4_clearText, Cond.code yX4_clearText cX4_clearText 2 (some .int), Cond.methodLink RL 106 yX5_clearText, Cond.instanceMethod yX5_clearText, Cond.selects RX5 yX5_clearText yX5_clearText, Cond.code yX5_clearText cX5_clearText 2 (some .int), Cond.methodLink RL 107 yX4_fault, Cond.instanceMethod yX4_fault, Cond.selects RX4 yX4_fault yX4_fault]
def wsL_law_r28 : List Cond := [Cond.code yX4_fault cX4_fault 3 (some .int), Cond.fieldLink RX4 258 "CranePermits$Text" "start" "I", Cond.methodLink RX4 255 yX4_tryText, Cond.instanceMethod yX4_tryText, Cond.selects RX4 yX4_tryText yX4_tryText, Cond.code yX4_tryText cX4_tryText 3 (some .int), Cond.fieldLink RX4 267 "CranePermits$Text" "next" "I", Cond.methodLink RX4 270 yX4_tryApplication, Cond.instanceMethod yX4_tryApplication, Cond.selects RX4 yX4_tryApplication yX4_tryApplication, Cond.code yX4_tryApplication cX4_tryApplication 3 (some .int), Cond.fieldLink RX4 276 "CranePermits$Text" "crane" "I", Cond.fieldLink RX4 278 "CranePermits$Text" "night" "I", Cond.fieldLink RX4 279 "CranePermits$Text" "hours" "I", Cond.fieldLink RX4 280 "CranePermits$Text" "swing" "I", Cond.methodLink RX4 273 yX3_readApplication, Cond.instanceMethod yX3_readApplication, Cond.selects RX3 yX3_readApplication yX3_readApplication, Cond.code yX3_readApplication cX3_readApplication 3 (some .boolean), Cond.methodLink RX3 41 yX3_readNumber, Cond.instanceMethod yX3_readNumber, Cond.selects RX3 yX3_readNumber yX3_readNumber, Cond.code yX3_readNumber cX3_readNumber 4 (some .int), Cond.methodLink RX3 49 yX3_signAt]
def wsL_law_r29 : List Cond := [Cond.instanceMethod yX3_signAt, Cond.selects RX3 yX3_signAt yX3_signAt, Cond.code yX3_signAt cX3_signAt 2 (some .int), Cond.methodLink RX3 45 yX3_readSign, Cond.instanceMethod yX3_readSign, Cond.selects RX3 yX3_readSign yX3_readSign, Cond.code yX3_readSign cX3_readSign 2 none, Cond.methodLink RL 110 yX5_fault, Cond.instanceMethod yX5_fault, Cond.selects RX5 yX5_fault yX5_fault, Cond.code yX5_fault cX5_fault 3 (some .int), Cond.fieldLink RX5 165 "CranePermitsModel" "reason" "I", Cond.methodLink RX5 168 yX5_faulty, Cond.instanceMethod yX5_faulty, Cond.selects RX5 yX5_faulty yX5_faulty, Cond.code yX5_faulty cX5_faulty 3 (some .int), Cond.fieldLink RX5 149 "CranePermitsModel" "at" "I", Cond.methodLink RX5 162 yX5_entersOne, Cond.instanceMethod yX5_entersOne, Cond.selects RX5 yX5_entersOne yX5_entersOne, Cond.code yX5_entersOne cX5_entersOne 3 (some .int), Cond.methodLink RX5 159 yX5_readsForm, Cond.instanceMethod yX5_readsForm, Cond.selects RX5 yX5_readsForm yX5_readsForm]
def wsL_law_r30 : List Cond := [Cond.code yX5_readsForm cX5_readsForm 1 (some .boolean), Cond.methodLink RX5 152 yX5_number, Cond.instanceMethod yX5_number, Cond.selects RX5 yX5_number yX5_number, Cond.code yX5_number cX5_number 4 (some .int), Cond.methodLink RX5 155 yX5_passes, Cond.instanceMethod yX5_passes, Cond.selects RX5 yX5_passes yX5_passes, Cond.code yX5_passes cX5_passes 3 (some .boolean), Cond.methodLink RL 111 yX4_enter, Cond.instanceMethod yX4_enter, Cond.selects RX4 yX4_enter yX4_enter, Cond.code yX4_enter cX4_enter 2 (some .int), Cond.methodLink RL 114 yX5_enter, Cond.instanceMethod yX5_enter, Cond.selects RX5 yX5_enter yX5_enter, Cond.code yX5_enter cX5_enter 2 (some .int)]
def wsL_law : List Cond := (wsL_law_r1 ++ (wsL_law_r2 ++ (wsL_law_r3 ++ (wsL_law_r4 ++ (wsL_law_r5 ++ (wsL_law_r6 ++ (wsL_law_r7 ++ (wsL_law_r8 ++ (wsL_law_r9 ++ (wsL_law_r10 ++ (wsL_law_r11 ++ (wsL_law_r12 ++ (wsL_law_r13 ++ (wsL_law_r14 ++ (wsL_law_r15 ++ (wsL_law_r16 ++ (wsL_law_r17 ++ (wsL_law_r18 ++ (wsL_law_r19 ++ (wsL_law_r20 ++ (wsL_law_r21 ++ (wsL_law_r22 ++ (wsL_law_r23 ++ (wsL_law_r24 ++ (wsL_law_r25 ++ (wsL_law_r26 ++ (wsL_law_r27 ++ (wsL_law_r28 ++ (wsL_law_r29 ++ wsL_law_r30))))))))))))))))))))))))))))) ++ wsX40 ++ wsX50 ++ wsX20 ++ wsX30 ++ wsX00 ++ wsX10 ++ ([] : List Cond)
set_option maxRecDepth 20000 in
theorem wsL_law_in : ∀ w ∈ wsL_law, w ∈ lw_tbl := fun w h => (goodIn_p wsL_law [55, 58, 63, 71, 128, 593, 185, 188, 191, 194, 198, 202, 206, 213, 219, 224, 228, 231, 271, 274, 626, 629, 632, 636, 640, 278, 284, 288, 292, 295, 299, 303, 307, 310, 314, 318, 322, 326, 330, 644, 648, 652, 656, 660, 664, 668, 672, 675, 679, 682, 686, 334, 339, 343, 690, 694, 348, 698, 702, 706, 356, 359, 710, 713, 363, 717, 368, 721, 373, 380, 725, 729, 384, 388, 392, 396, 400, 407, 404, 411, 733, 737, 741, 744, 748, 752, 755, 415, 759, 419, 422, 763, 766, 427, 430, 770, 437, 440, 444, 448, 452, 774, 778, 781, 785, 789, 456, 460, 465, 502, 793, 797, 801, 506, 510, 805, 809, 516, 813, 520, 525, 529, 817, 821, 533, 825, 538, 829, 543, 833, 547, 551, 837, 555, 841, 559, 563, 567, 571, 575, 579, 584, 845, 849, 853, 857, 861, 865, 588, 869] (by decide +kernel) (by decide +kernel) w h).1
theorem inlX0 : ∀ w ∈ wsX00, w ∈ wsL_law := fun _ h => List.mem_append_left _ (List.mem_append_left _ (List.mem_append_right _ h))
theorem inX0 : ∀ w ∈ wsX00, w ∈ lw_tbl := fun w h => wsL_law_in w (inlX0 w h)
theorem inlX1 : ∀ w ∈ wsX10, w ∈ wsL_law := fun _ h => List.mem_append_left _ (List.mem_append_right _ h)
theorem inX1 : ∀ w ∈ wsX10, w ∈ lw_tbl := fun w h => wsL_law_in w (inlX1 w h)
theorem inlX2 : ∀ w ∈ wsX20, w ∈ wsL_law := fun _ h => List.mem_append_left _ (List.mem_append_left _ (List.mem_append_left _ (List.mem_append_left _ (List.mem_append_right _ h))))
theorem inX2 : ∀ w ∈ wsX20, w ∈ lw_tbl := fun w h => wsL_law_in w (inlX2 w h)
theorem inlX3 : ∀ w ∈ wsX30, w ∈ wsL_law := fun _ h => List.mem_append_left _ (List.mem_append_left _ (List.mem_append_left _ (List.mem_append_right _ h)))
theorem inX3 : ∀ w ∈ wsX30, w ∈ lw_tbl := fun w h => wsL_law_in w (inlX3 w h)
theorem inlX4 : ∀ w ∈ wsX40, w ∈ wsL_law := fun _ h => List.mem_append_left _ (List.mem_append_left _ (List.mem_append_left _ (List.mem_append_left _ (List.mem_append_left _ (List.mem_append_left _ (List.mem_append_right _ h))))))
theorem inX4 : ∀ w ∈ wsX40, w ∈ lw_tbl := fun w h => wsL_law_in w (inlX4 w h)
theorem inlX5 : ∀ w ∈ wsX50, w ∈ wsL_law := fun _ h => List.mem_append_left _ (List.mem_append_left _ (List.mem_append_left _ (List.mem_append_left _ (List.mem_append_left _ (List.mem_append_right _ h)))))
theorem inX5 : ∀ w ∈ wsX50, w ∈ lw_tbl := fun w h => wsL_law_in w (inlX5 w h)
theorem inJ13 : ∀ w ∈ wsJ130, w ∈ lw_tbl := by decide +kernel
theorem inJ9 : ∀ w ∈ wsJ90, w ∈ lw_tbl := by decide +kernel
theorem inJ10 : ∀ w ∈ wsJ100, w ∈ lw_tbl := by decide +kernel
theorem inJ7 : ∀ w ∈ wsJ70, w ∈ lw_tbl := by decide +kernel
set_option maxRecDepth 20000 in
theorem ggX0_init_X0_markOwnCell : GoodIn wsX0_init wsX0_markOwnCell := goodIn_r _ [16, 17, 18, 19, 15, 20, 5, 24, 25, 26, 27, 28, 29, 30] (by decide +kernel) (by decide +kernel)
set_option maxRecDepth 20000 in
theorem gX0_init_X0_markOwnCell : GoodIn wsX0_init (wsV RX0 34 RX0 yX0_markOwnCell wsX0_markOwnCell) := goodIn_app (goodIn_of _ (by decide +kernel)) ggX0_init_X0_markOwnCell
set_option maxRecDepth 20000 in
theorem ggX0_init_X0_directionOf : GoodIn wsX0_init wsX0_directionOf := goodIn_r _ [23] (by decide +kernel) (by decide +kernel)
set_option maxRecDepth 20000 in
theorem gX0_init_X0_directionOf : GoodIn wsX0_init (va_wsS RX0 38 yX0_directionOf wsX0_directionOf) := goodIn_app (goodIn_of _ (by decide +kernel)) ggX0_init_X0_directionOf
set_option maxRecDepth 20000 in
theorem ggX0_init_X0_mark : GoodIn wsX0_init wsX0_mark := goodIn_r _ [20, 5, 24, 25, 26, 27, 28, 29, 30] (by decide +kernel) (by decide +kernel)
set_option maxRecDepth 20000 in
theorem gX0_init_X0_mark : GoodIn wsX0_init (wsV RX0 42 RX0 yX0_mark wsX0_mark) := goodIn_app (goodIn_of _ (by decide +kernel)) ggX0_init_X0_mark
theorem dX0_init_0 : decode cX0_init 0 = .ok (.aload_n 0, 1) := by decide +kernel
theorem dX0_init_1 : decode cX0_init 1 = .ok (.invokespecial 3, 3) := by decide +kernel
theorem dX0_init_4 : decode cX0_init 4 = .ok (.aload_n 0, 1) := by decide +kernel
theorem dX0_init_5 : decode cX0_init 5 = .ok (.bipush 32, 2) := by decide +kernel
theorem dX0_init_7 : decode cX0_init 7 = .ok (.newarray .long, 2) := by decide +kernel
theorem dX0_init_9 : decode cX0_init 9 = .ok (.putfield 9, 3) := by decide +kernel
theorem dX0_init_12 : decode cX0_init 12 = .ok (.aload_n 0, 1) := by decide +kernel
theorem dX0_init_13 : decode cX0_init 13 = .ok (.iload_n 1, 1) := by decide +kernel
theorem dX0_init_14 : decode cX0_init 14 = .ok (.putfield 15, 3) := by decide +kernel
theorem dX0_init_17 : decode cX0_init 17 = .ok (.aload_n 0, 1) := by decide +kernel
theorem dX0_init_18 : decode cX0_init 18 = .ok (.iload_n 2, 1) := by decide +kernel
theorem dX0_init_19 : decode cX0_init 19 = .ok (.putfield 19, 3) := by decide +kernel
theorem dX0_init_22 : decode cX0_init 22 = .ok (.aload_n 0, 1) := by decide +kernel
theorem dX0_init_23 : decode cX0_init 23 = .ok (.iload_n 3, 1) := by decide +kernel
theorem dX0_init_24 : decode cX0_init 24 = .ok (.putfield 22, 3) := by decide +kernel
theorem dX0_init_27 : decode cX0_init 27 = .ok (.aload_n 0, 1) := by decide +kernel
theorem dX0_init_28 : decode cX0_init 28 = .ok (.iload 4, 2) := by decide +kernel
theorem dX0_init_30 : decode cX0_init 30 = .ok (.putfield 25, 3) := by decide +kernel
theorem dX0_init_33 : decode cX0_init 33 = .ok (.aload_n 0, 1) := by decide +kernel
theorem dX0_init_34 : decode cX0_init 34 = .ok (.iload 5, 2) := by decide +kernel
theorem dX0_init_36 : decode cX0_init 36 = .ok (.putfield 28, 3) := by decide +kernel
theorem dX0_init_39 : decode cX0_init 39 = .ok (.aload_n 0, 1) := by decide +kernel
theorem dX0_init_40 : decode cX0_init 40 = .ok (.iload 6, 2) := by decide +kernel
theorem dX0_init_42 : decode cX0_init 42 = .ok (.putfield 31, 3) := by decide +kernel
theorem dX0_init_45 : decode cX0_init 45 = .ok (.iconst 0, 1) := by decide +kernel
theorem dX0_init_46 : decode cX0_init 46 = .ok (.istore 7, 2) := by decide +kernel
theorem dX0_init_48 : decode cX0_init 48 = .ok (.iload 7, 2) := by decide +kernel
theorem dX0_init_50 : decode cX0_init 50 = .ok (.sipush 256, 3) := by decide +kernel
theorem dX0_init_53 : decode cX0_init 53 = .ok (.if_icmp .ge 78, 3) := by decide +kernel
theorem dX0_init_56 : decode cX0_init 56 = .ok (.iload 7, 2) := by decide +kernel
theorem dX0_init_58 : decode cX0_init 58 = .ok (.bipush 16, 2) := by decide +kernel
theorem dX0_init_60 : decode cX0_init 60 = .ok (.irem, 1) := by decide +kernel
theorem dX0_init_61 : decode cX0_init 61 = .ok (.iload_n 2, 1) := by decide +kernel
theorem dX0_init_62 : decode cX0_init 62 = .ok (.isub, 1) := by decide +kernel
theorem dX0_init_63 : decode cX0_init 63 = .ok (.istore 8, 2) := by decide +kernel
theorem dX0_init_65 : decode cX0_init 65 = .ok (.iload 7, 2) := by decide +kernel
theorem dX0_init_67 : decode cX0_init 67 = .ok (.bipush 16, 2) := by decide +kernel
theorem dX0_init_69 : decode cX0_init 69 = .ok (.idiv, 1) := by decide +kernel
theorem dX0_init_70 : decode cX0_init 70 = .ok (.iload_n 3, 1) := by decide +kernel
theorem dX0_init_71 : decode cX0_init 71 = .ok (.isub, 1) := by decide +kernel
theorem dX0_init_72 : decode cX0_init 72 = .ok (.istore 9, 2) := by decide +kernel
theorem dX0_init_74 : decode cX0_init 74 = .ok (.iload 8, 2) := by decide +kernel
theorem dX0_init_76 : decode cX0_init 76 = .ok (.ifCond .ne 17, 3) := by decide +kernel
theorem dX0_init_79 : decode cX0_init 79 = .ok (.iload 9, 2) := by decide +kernel
theorem dX0_init_81 : decode cX0_init 81 = .ok (.ifCond .ne 12, 3) := by decide +kernel
theorem dX0_init_84 : decode cX0_init 84 = .ok (.aload_n 0, 1) := by decide +kernel
theorem dX0_init_85 : decode cX0_init 85 = .ok (.iload 7, 2) := by decide +kernel
theorem dX0_init_87 : decode cX0_init 87 = .ok (.invokevirtual 34, 3) := by decide +kernel
theorem dX0_init_90 : decode cX0_init 90 = .ok (.goto 35, 3) := by decide +kernel
theorem dX0_init_93 : decode cX0_init 93 = .ok (.iload 8, 2) := by decide +kernel
theorem dX0_init_95 : decode cX0_init 95 = .ok (.iload 8, 2) := by decide +kernel
theorem dX0_init_97 : decode cX0_init 97 = .ok (.imul, 1) := by decide +kernel
theorem dX0_init_98 : decode cX0_init 98 = .ok (.iload 9, 2) := by decide +kernel
theorem dX0_init_100 : decode cX0_init 100 = .ok (.iload 9, 2) := by decide +kernel
theorem dX0_init_102 : decode cX0_init 102 = .ok (.imul, 1) := by decide +kernel
theorem dX0_init_103 : decode cX0_init 103 = .ok (.iadd, 1) := by decide +kernel
theorem dX0_init_104 : decode cX0_init 104 = .ok (.iload 4, 2) := by decide +kernel
theorem dX0_init_106 : decode cX0_init 106 = .ok (.iload 4, 2) := by decide +kernel
theorem dX0_init_108 : decode cX0_init 108 = .ok (.imul, 1) := by decide +kernel
theorem dX0_init_109 : decode cX0_init 109 = .ok (.if_icmp .gt 16, 3) := by decide +kernel
theorem dX0_init_112 : decode cX0_init 112 = .ok (.aload_n 0, 1) := by decide +kernel
theorem dX0_init_113 : decode cX0_init 113 = .ok (.iload 8, 2) := by decide +kernel
theorem dX0_init_115 : decode cX0_init 115 = .ok (.iload 9, 2) := by decide +kernel
theorem dX0_init_117 : decode cX0_init 117 = .ok (.invokestatic 38, 3) := by decide +kernel
theorem dX0_init_120 : decode cX0_init 120 = .ok (.iload 7, 2) := by decide +kernel
theorem dX0_init_122 : decode cX0_init 122 = .ok (.invokevirtual 42, 3) := by decide +kernel
theorem dX0_init_125 : decode cX0_init 125 = .ok (.iinc 7 1, 3) := by decide +kernel
theorem dX0_init_128 : decode cX0_init 128 = .ok (.goto (-80), 3) := by decide +kernel
theorem dX0_init_131 : decode cX0_init 131 = .ok (.return_, 1) := by decide +kernel
set_option maxRecDepth 20000 in
theorem ggX0_markOwnCell_X0_mark : GoodIn wsX0_markOwnCell wsX0_mark := goodIn_r _ [5, 6, 7, 8, 9, 10, 11, 12, 13] (by decide +kernel) (by decide +kernel)
set_option maxRecDepth 20000 in
theorem gX0_markOwnCell_X0_mark : GoodIn wsX0_markOwnCell (wsV RX0 42 RX0 yX0_mark wsX0_mark) := goodIn_app (goodIn_of _ (by decide +kernel)) ggX0_markOwnCell_X0_mark
theorem dX0_markOwnCell_0 : decode cX0_markOwnCell 0 = .ok (.iconst 0, 1) := by decide +kernel
theorem dX0_markOwnCell_1 : decode cX0_markOwnCell 1 = .ok (.istore_n 2, 1) := by decide +kernel
theorem dX0_markOwnCell_2 : decode cX0_markOwnCell 2 = .ok (.iload_n 2, 1) := by decide +kernel
theorem dX0_markOwnCell_3 : decode cX0_markOwnCell 3 = .ok (.bipush 8, 2) := by decide +kernel
theorem dX0_markOwnCell_5 : decode cX0_markOwnCell 5 = .ok (.if_icmp .ge 15, 3) := by decide +kernel
theorem dX0_markOwnCell_8 : decode cX0_markOwnCell 8 = .ok (.aload_n 0, 1) := by decide +kernel
theorem dX0_markOwnCell_9 : decode cX0_markOwnCell 9 = .ok (.iload_n 2, 1) := by decide +kernel
theorem dX0_markOwnCell_10 : decode cX0_markOwnCell 10 = .ok (.iload_n 1, 1) := by decide +kernel
theorem dX0_markOwnCell_11 : decode cX0_markOwnCell 11 = .ok (.invokevirtual 42, 3) := by decide +kernel
theorem dX0_markOwnCell_14 : decode cX0_markOwnCell 14 = .ok (.iinc 2 1, 3) := by decide +kernel
theorem dX0_markOwnCell_17 : decode cX0_markOwnCell 17 = .ok (.goto (-15), 3) := by decide +kernel
theorem dX0_markOwnCell_20 : decode cX0_markOwnCell 20 = .ok (.return_, 1) := by decide +kernel
theorem dX0_mark_0 : decode cX0_mark 0 = .ok (.iconst 4, 1) := by decide +kernel
theorem dX0_mark_1 : decode cX0_mark 1 = .ok (.iload_n 1, 1) := by decide +kernel
theorem dX0_mark_2 : decode cX0_mark 2 = .ok (.imul, 1) := by decide +kernel
theorem dX0_mark_3 : decode cX0_mark 3 = .ok (.iload_n 2, 1) := by decide +kernel
theorem dX0_mark_4 : decode cX0_mark 4 = .ok (.bipush 64, 2) := by decide +kernel
theorem dX0_mark_6 : decode cX0_mark 6 = .ok (.idiv, 1) := by decide +kernel
theorem dX0_mark_7 : decode cX0_mark 7 = .ok (.iadd, 1) := by decide +kernel
theorem dX0_mark_8 : decode cX0_mark 8 = .ok (.istore_n 3, 1) := by decide +kernel
theorem dX0_mark_9 : decode cX0_mark 9 = .ok (.iload_n 3, 1) := by decide +kernel
theorem dX0_mark_10 : decode cX0_mark 10 = .ok (.ifCond .lt 27, 3) := by decide +kernel
theorem dX0_mark_13 : decode cX0_mark 13 = .ok (.iload_n 3, 1) := by decide +kernel
theorem dX0_mark_14 : decode cX0_mark 14 = .ok (.aload_n 0, 1) := by decide +kernel
theorem dX0_mark_15 : decode cX0_mark 15 = .ok (.getfield 9, 3) := by decide +kernel
theorem dX0_mark_18 : decode cX0_mark 18 = .ok (.arraylength, 1) := by decide +kernel
theorem dX0_mark_19 : decode cX0_mark 19 = .ok (.if_icmp .ge 18, 3) := by decide +kernel
theorem dX0_mark_22 : decode cX0_mark 22 = .ok (.aload_n 0, 1) := by decide +kernel
theorem dX0_mark_23 : decode cX0_mark 23 = .ok (.getfield 9, 3) := by decide +kernel
theorem dX0_mark_26 : decode cX0_mark 26 = .ok (.iload_n 3, 1) := by decide +kernel
theorem dX0_mark_27 : decode cX0_mark 27 = .ok (.dup2, 1) := by decide +kernel
theorem dX0_mark_28 : decode cX0_mark 28 = .ok (.laload, 1) := by decide +kernel
theorem dX0_mark_29 : decode cX0_mark 29 = .ok (.lconst 1, 1) := by decide +kernel
theorem dX0_mark_30 : decode cX0_mark 30 = .ok (.iload_n 2, 1) := by decide +kernel
theorem dX0_mark_31 : decode cX0_mark 31 = .ok (.bipush 64, 2) := by decide +kernel
theorem dX0_mark_33 : decode cX0_mark 33 = .ok (.irem, 1) := by decide +kernel
theorem dX0_mark_34 : decode cX0_mark 34 = .ok (.lshl, 1) := by decide +kernel
theorem dX0_mark_35 : decode cX0_mark 35 = .ok (.lor, 1) := by decide +kernel
theorem dX0_mark_36 : decode cX0_mark 36 = .ok (.lastore, 1) := by decide +kernel
theorem dX0_mark_37 : decode cX0_mark 37 = .ok (.return_, 1) := by decide +kernel
theorem dX0_directionOf_0 : decode cX0_directionOf 0 = .ok (.iload_n 0, 1) := by decide +kernel
theorem dX0_directionOf_1 : decode cX0_directionOf 1 = .ok (.ifCond .le 18, 3) := by decide +kernel
theorem dX0_directionOf_4 : decode cX0_directionOf 4 = .ok (.iload_n 1, 1) := by decide +kernel
theorem dX0_directionOf_5 : decode cX0_directionOf 5 = .ok (.ifCond .lt 14, 3) := by decide +kernel
theorem dX0_directionOf_8 : decode cX0_directionOf 8 = .ok (.iload_n 1, 1) := by decide +kernel
theorem dX0_directionOf_9 : decode cX0_directionOf 9 = .ok (.iload_n 0, 1) := by decide +kernel
theorem dX0_directionOf_10 : decode cX0_directionOf 10 = .ok (.if_icmp .ge 7, 3) := by decide +kernel
theorem dX0_directionOf_13 : decode cX0_directionOf 13 = .ok (.iconst 0, 1) := by decide +kernel
theorem dX0_directionOf_14 : decode cX0_directionOf 14 = .ok (.goto 4, 3) := by decide +kernel
theorem dX0_directionOf_17 : decode cX0_directionOf 17 = .ok (.iconst 1, 1) := by decide +kernel
theorem dX0_directionOf_18 : decode cX0_directionOf 18 = .ok (.ireturn, 1) := by decide +kernel
theorem dX0_directionOf_19 : decode cX0_directionOf 19 = .ok (.iload_n 1, 1) := by decide +kernel
theorem dX0_directionOf_20 : decode cX0_directionOf 20 = .ok (.ifCond .le 15, 3) := by decide +kernel
theorem dX0_directionOf_23 : decode cX0_directionOf 23 = .ok (.iload_n 0, 1) := by decide +kernel
theorem dX0_directionOf_24 : decode cX0_directionOf 24 = .ok (.ineg, 1) := by decide +kernel
theorem dX0_directionOf_25 : decode cX0_directionOf 25 = .ok (.iload_n 1, 1) := by decide +kernel
theorem dX0_directionOf_26 : decode cX0_directionOf 26 = .ok (.if_icmp .ge 7, 3) := by decide +kernel
theorem dX0_directionOf_29 : decode cX0_directionOf 29 = .ok (.iconst 2, 1) := by decide +kernel
theorem dX0_directionOf_30 : decode cX0_directionOf 30 = .ok (.goto 4, 3) := by decide +kernel
theorem dX0_directionOf_33 : decode cX0_directionOf 33 = .ok (.iconst 3, 1) := by decide +kernel
theorem dX0_directionOf_34 : decode cX0_directionOf 34 = .ok (.ireturn, 1) := by decide +kernel
theorem dX0_directionOf_35 : decode cX0_directionOf 35 = .ok (.iload_n 0, 1) := by decide +kernel
theorem dX0_directionOf_36 : decode cX0_directionOf 36 = .ok (.ifCond .ge 16, 3) := by decide +kernel
theorem dX0_directionOf_39 : decode cX0_directionOf 39 = .ok (.iload_n 1, 1) := by decide +kernel
theorem dX0_directionOf_40 : decode cX0_directionOf 40 = .ok (.ineg, 1) := by decide +kernel
theorem dX0_directionOf_41 : decode cX0_directionOf 41 = .ok (.iload_n 0, 1) := by decide +kernel
theorem dX0_directionOf_42 : decode cX0_directionOf 42 = .ok (.ineg, 1) := by decide +kernel
theorem dX0_directionOf_43 : decode cX0_directionOf 43 = .ok (.if_icmp .ge 7, 3) := by decide +kernel
theorem dX0_directionOf_46 : decode cX0_directionOf 46 = .ok (.iconst 4, 1) := by decide +kernel
theorem dX0_directionOf_47 : decode cX0_directionOf 47 = .ok (.goto 4, 3) := by decide +kernel
theorem dX0_directionOf_50 : decode cX0_directionOf 50 = .ok (.iconst 5, 1) := by decide +kernel
theorem dX0_directionOf_51 : decode cX0_directionOf 51 = .ok (.ireturn, 1) := by decide +kernel
theorem dX0_directionOf_52 : decode cX0_directionOf 52 = .ok (.iload_n 0, 1) := by decide +kernel
theorem dX0_directionOf_53 : decode cX0_directionOf 53 = .ok (.iload_n 1, 1) := by decide +kernel
theorem dX0_directionOf_54 : decode cX0_directionOf 54 = .ok (.ineg, 1) := by decide +kernel
theorem dX0_directionOf_55 : decode cX0_directionOf 55 = .ok (.if_icmp .ge 8, 3) := by decide +kernel
theorem dX0_directionOf_58 : decode cX0_directionOf 58 = .ok (.bipush 6, 2) := by decide +kernel
theorem dX0_directionOf_60 : decode cX0_directionOf 60 = .ok (.goto 5, 3) := by decide +kernel
theorem dX0_directionOf_63 : decode cX0_directionOf 63 = .ok (.bipush 7, 2) := by decide +kernel
theorem dX0_directionOf_65 : decode cX0_directionOf 65 = .ok (.ireturn, 1) := by decide +kernel
theorem dX0_airOf_0 : decode cX0_airOf 0 = .ok (.lconst 0, 1) := by decide +kernel
theorem dX0_airOf_1 : decode cX0_airOf 1 = .ok (.lstore_n 3, 1) := by decide +kernel
theorem dX0_airOf_2 : decode cX0_airOf 2 = .ok (.iconst 0, 1) := by decide +kernel
theorem dX0_airOf_3 : decode cX0_airOf 3 = .ok (.istore 5, 2) := by decide +kernel
theorem dX0_airOf_5 : decode cX0_airOf 5 = .ok (.iload 5, 2) := by decide +kernel
theorem dX0_airOf_7 : decode cX0_airOf 7 = .ok (.bipush 8, 2) := by decide +kernel
theorem dX0_airOf_9 : decode cX0_airOf 9 = .ok (.if_icmp .ge 63, 3) := by decide +kernel
theorem dX0_airOf_12 : decode cX0_airOf 12 = .ok (.iconst 4, 1) := by decide +kernel
theorem dX0_airOf_13 : decode cX0_airOf 13 = .ok (.iload 5, 2) := by decide +kernel
theorem dX0_airOf_15 : decode cX0_airOf 15 = .ok (.imul, 1) := by decide +kernel
theorem dX0_airOf_16 : decode cX0_airOf 16 = .ok (.iload_n 2, 1) := by decide +kernel
theorem dX0_airOf_17 : decode cX0_airOf 17 = .ok (.iadd, 1) := by decide +kernel
theorem dX0_airOf_18 : decode cX0_airOf 18 = .ok (.istore 6, 2) := by decide +kernel
theorem dX0_airOf_20 : decode cX0_airOf 20 = .ok (.iload_n 1, 1) := by decide +kernel
theorem dX0_airOf_21 : decode cX0_airOf 21 = .ok (.iload 5, 2) := by decide +kernel
theorem dX0_airOf_23 : decode cX0_airOf 23 = .ok (.ishr, 1) := by decide +kernel
theorem dX0_airOf_24 : decode cX0_airOf 24 = .ok (.iconst 1, 1) := by decide +kernel
theorem dX0_airOf_25 : decode cX0_airOf 25 = .ok (.iand, 1) := by decide +kernel
theorem dX0_airOf_26 : decode cX0_airOf 26 = .ok (.ifCond .eq 7, 3) := by decide +kernel
theorem dX0_airOf_29 : decode cX0_airOf 29 = .ok (.iconst 1, 1) := by decide +kernel
theorem dX0_airOf_30 : decode cX0_airOf 30 = .ok (.goto 4, 3) := by decide +kernel
theorem dX0_airOf_33 : decode cX0_airOf 33 = .ok (.iconst 0, 1) := by decide +kernel
theorem dX0_airOf_34 : decode cX0_airOf 34 = .ok (.istore 7, 2) := by decide +kernel
theorem dX0_airOf_36 : decode cX0_airOf 36 = .ok (.iload 7, 2) := by decide +kernel
theorem dX0_airOf_38 : decode cX0_airOf 38 = .ok (.ifCond .eq 28, 3) := by decide +kernel
theorem dX0_airOf_41 : decode cX0_airOf 41 = .ok (.iload 6, 2) := by decide +kernel
theorem dX0_airOf_43 : decode cX0_airOf 43 = .ok (.ifCond .lt 23, 3) := by decide +kernel
theorem dX0_airOf_46 : decode cX0_airOf 46 = .ok (.iload 6, 2) := by decide +kernel
theorem dX0_airOf_48 : decode cX0_airOf 48 = .ok (.aload_n 0, 1) := by decide +kernel
theorem dX0_airOf_49 : decode cX0_airOf 49 = .ok (.getfield 9, 3) := by decide +kernel
theorem dX0_airOf_52 : decode cX0_airOf 52 = .ok (.arraylength, 1) := by decide +kernel
theorem dX0_airOf_53 : decode cX0_airOf 53 = .ok (.if_icmp .ge 13, 3) := by decide +kernel
theorem dX0_airOf_56 : decode cX0_airOf 56 = .ok (.lload_n 3, 1) := by decide +kernel
theorem dX0_airOf_57 : decode cX0_airOf 57 = .ok (.aload_n 0, 1) := by decide +kernel
theorem dX0_airOf_58 : decode cX0_airOf 58 = .ok (.getfield 9, 3) := by decide +kernel
theorem dX0_airOf_61 : decode cX0_airOf 61 = .ok (.iload 6, 2) := by decide +kernel
theorem dX0_airOf_63 : decode cX0_airOf 63 = .ok (.laload, 1) := by decide +kernel
theorem dX0_airOf_64 : decode cX0_airOf 64 = .ok (.lor, 1) := by decide +kernel
theorem dX0_airOf_65 : decode cX0_airOf 65 = .ok (.lstore_n 3, 1) := by decide +kernel
theorem dX0_airOf_66 : decode cX0_airOf 66 = .ok (.iinc 5 1, 3) := by decide +kernel
theorem dX0_airOf_69 : decode cX0_airOf 69 = .ok (.goto (-64), 3) := by decide +kernel
theorem dX0_airOf_72 : decode cX0_airOf 72 = .ok (.lload_n 3, 1) := by decide +kernel
theorem dX0_airOf_73 : decode cX0_airOf 73 = .ok (.lreturn, 1) := by decide +kernel
theorem dX1_init_0 : decode cX1_init 0 = .ok (.aload_n 0, 1) := by decide +kernel
theorem dX1_init_1 : decode cX1_init 1 = .ok (.invokespecial 1, 3) := by decide +kernel
theorem dX1_init_4 : decode cX1_init 4 = .ok (.aload_n 0, 1) := by decide +kernel
theorem dX1_init_5 : decode cX1_init 5 = .ok (.iload_n 1, 1) := by decide +kernel
theorem dX1_init_6 : decode cX1_init 6 = .ok (.putfield 7, 3) := by decide +kernel
theorem dX1_init_9 : decode cX1_init 9 = .ok (.aload_n 0, 1) := by decide +kernel
theorem dX1_init_10 : decode cX1_init 10 = .ok (.aload_n 2, 1) := by decide +kernel
theorem dX1_init_11 : decode cX1_init 11 = .ok (.putfield 13, 3) := by decide +kernel
theorem dX1_init_14 : decode cX1_init 14 = .ok (.aload_n 0, 1) := by decide +kernel
theorem dX1_init_15 : decode cX1_init 15 = .ok (.iload_n 3, 1) := by decide +kernel
theorem dX1_init_16 : decode cX1_init 16 = .ok (.putfield 17, 3) := by decide +kernel
theorem dX1_init_19 : decode cX1_init 19 = .ok (.aload_n 0, 1) := by decide +kernel
theorem dX1_init_20 : decode cX1_init 20 = .ok (.iload 4, 2) := by decide +kernel
theorem dX1_init_22 : decode cX1_init 22 = .ok (.putfield 20, 3) := by decide +kernel
theorem dX1_init_25 : decode cX1_init 25 = .ok (.aload_n 0, 1) := by decide +kernel
theorem dX1_init_26 : decode cX1_init 26 = .ok (.iload 4, 2) := by decide +kernel
theorem dX1_init_28 : decode cX1_init 28 = .ok (.bipush 10, 2) := by decide +kernel
theorem dX1_init_30 : decode cX1_init 30 = .ok (.idiv, 1) := by decide +kernel
theorem dX1_init_31 : decode cX1_init 31 = .ok (.putfield 23, 3) := by decide +kernel
theorem dX1_init_34 : decode cX1_init 34 = .ok (.aload_n 0, 1) := by decide +kernel
theorem dX1_init_35 : decode cX1_init 35 = .ok (.iload 4, 2) := by decide +kernel
theorem dX1_init_37 : decode cX1_init 37 = .ok (.bipush 10, 2) := by decide +kernel
theorem dX1_init_39 : decode cX1_init 39 = .ok (.irem, 1) := by decide +kernel
theorem dX1_init_40 : decode cX1_init 40 = .ok (.putfield 26, 3) := by decide +kernel
theorem dX1_init_43 : decode cX1_init 43 = .ok (.aload_n 0, 1) := by decide +kernel
theorem dX1_init_44 : decode cX1_init 44 = .ok (.iload 5, 2) := by decide +kernel
theorem dX1_init_46 : decode cX1_init 46 = .ok (.putfield 29, 3) := by decide +kernel
theorem dX1_init_49 : decode cX1_init 49 = .ok (.return_, 1) := by decide +kernel
theorem dX1_isFor_0 : decode cX1_isFor 0 = .ok (.aload_n 0, 1) := by decide +kernel
theorem dX1_isFor_1 : decode cX1_isFor 1 = .ok (.getfield 13, 3) := by decide +kernel
theorem dX1_isFor_4 : decode cX1_isFor 4 = .ok (.getfield 32, 3) := by decide +kernel
theorem dX1_isFor_7 : decode cX1_isFor 7 = .ok (.aload_n 1, 1) := by decide +kernel
theorem dX1_isFor_8 : decode cX1_isFor 8 = .ok (.getfield 32, 3) := by decide +kernel
theorem dX1_isFor_11 : decode cX1_isFor 11 = .ok (.if_icmp .ne 7, 3) := by decide +kernel
theorem dX1_isFor_14 : decode cX1_isFor 14 = .ok (.iconst 1, 1) := by decide +kernel
theorem dX1_isFor_15 : decode cX1_isFor 15 = .ok (.goto 4, 3) := by decide +kernel
theorem dX1_isFor_18 : decode cX1_isFor 18 = .ok (.iconst 0, 1) := by decide +kernel
theorem dX1_isFor_19 : decode cX1_isFor 19 = .ok (.ireturn, 1) := by decide +kernel
theorem dX1_isOf_0 : decode cX1_isOf 0 = .ok (.aload_n 0, 1) := by decide +kernel
theorem dX1_isOf_1 : decode cX1_isOf 1 = .ok (.getfield 13, 3) := by decide +kernel
theorem dX1_isOf_4 : decode cX1_isOf 4 = .ok (.getfield 35, 3) := by decide +kernel
theorem dX1_isOf_7 : decode cX1_isOf 7 = .ok (.iload_n 1, 1) := by decide +kernel
theorem dX1_isOf_8 : decode cX1_isOf 8 = .ok (.if_icmp .ne 15, 3) := by decide +kernel
theorem dX1_isOf_11 : decode cX1_isOf 11 = .ok (.aload_n 0, 1) := by decide +kernel
theorem dX1_isOf_12 : decode cX1_isOf 12 = .ok (.getfield 17, 3) := by decide +kernel
theorem dX1_isOf_15 : decode cX1_isOf 15 = .ok (.iload_n 2, 1) := by decide +kernel
theorem dX1_isOf_16 : decode cX1_isOf 16 = .ok (.if_icmp .ne 7, 3) := by decide +kernel
theorem dX1_isOf_19 : decode cX1_isOf 19 = .ok (.iconst 1, 1) := by decide +kernel
theorem dX1_isOf_20 : decode cX1_isOf 20 = .ok (.goto 4, 3) := by decide +kernel
theorem dX1_isOf_23 : decode cX1_isOf 23 = .ok (.iconst 0, 1) := by decide +kernel
theorem dX1_isOf_24 : decode cX1_isOf 24 = .ok (.ireturn, 1) := by decide +kernel
theorem dX1_meets_0 : decode cX1_meets 0 = .ok (.aload_n 0, 1) := by decide +kernel
theorem dX1_meets_1 : decode cX1_meets 1 = .ok (.getfield 26, 3) := by decide +kernel
theorem dX1_meets_4 : decode cX1_meets 4 = .ok (.iload_n 2, 1) := by decide +kernel
theorem dX1_meets_5 : decode cX1_meets 5 = .ok (.bipush 10, 2) := by decide +kernel
theorem dX1_meets_7 : decode cX1_meets 7 = .ok (.idiv, 1) := by decide +kernel
theorem dX1_meets_8 : decode cX1_meets 8 = .ok (.if_icmp .ge 7, 3) := by decide +kernel
theorem dX1_meets_11 : decode cX1_meets 11 = .ok (.iconst 1, 1) := by decide +kernel
theorem dX1_meets_12 : decode cX1_meets 12 = .ok (.goto 4, 3) := by decide +kernel
theorem dX1_meets_15 : decode cX1_meets 15 = .ok (.iconst 0, 1) := by decide +kernel
theorem dX1_meets_16 : decode cX1_meets 16 = .ok (.istore_n 3, 1) := by decide +kernel
theorem dX1_meets_17 : decode cX1_meets 17 = .ok (.aload_n 0, 1) := by decide +kernel
theorem dX1_meets_18 : decode cX1_meets 18 = .ok (.getfield 23, 3) := by decide +kernel
theorem dX1_meets_21 : decode cX1_meets 21 = .ok (.iload_n 2, 1) := by decide +kernel
theorem dX1_meets_22 : decode cX1_meets 22 = .ok (.bipush 10, 2) := by decide +kernel
theorem dX1_meets_24 : decode cX1_meets 24 = .ok (.irem, 1) := by decide +kernel
theorem dX1_meets_25 : decode cX1_meets 25 = .ok (.if_icmp .le 7, 3) := by decide +kernel
theorem dX1_meets_28 : decode cX1_meets 28 = .ok (.iconst 1, 1) := by decide +kernel
theorem dX1_meets_29 : decode cX1_meets 29 = .ok (.goto 4, 3) := by decide +kernel
theorem dX1_meets_32 : decode cX1_meets 32 = .ok (.iconst 0, 1) := by decide +kernel
theorem dX1_meets_33 : decode cX1_meets 33 = .ok (.istore 4, 2) := by decide +kernel
theorem dX1_meets_35 : decode cX1_meets 35 = .ok (.aload_n 0, 1) := by decide +kernel
theorem dX1_meets_36 : decode cX1_meets 36 = .ok (.getfield 17, 3) := by decide +kernel
theorem dX1_meets_39 : decode cX1_meets 39 = .ok (.iload_n 1, 1) := by decide +kernel
theorem dX1_meets_40 : decode cX1_meets 40 = .ok (.if_icmp .ne 16, 3) := by decide +kernel
theorem dX1_meets_43 : decode cX1_meets 43 = .ok (.iload_n 3, 1) := by decide +kernel
theorem dX1_meets_44 : decode cX1_meets 44 = .ok (.ifCond .ne 12, 3) := by decide +kernel
theorem dX1_meets_47 : decode cX1_meets 47 = .ok (.iload 4, 2) := by decide +kernel
theorem dX1_meets_49 : decode cX1_meets 49 = .ok (.ifCond .ne 7, 3) := by decide +kernel
theorem dX1_meets_52 : decode cX1_meets 52 = .ok (.iconst 1, 1) := by decide +kernel
theorem dX1_meets_53 : decode cX1_meets 53 = .ok (.goto 4, 3) := by decide +kernel
theorem dX1_meets_56 : decode cX1_meets 56 = .ok (.iconst 0, 1) := by decide +kernel
theorem dX1_meets_57 : decode cX1_meets 57 = .ok (.ireturn, 1) := by decide +kernel
theorem dX1_isAheadOf_0 : decode cX1_isAheadOf 0 = .ok (.aload_n 0, 1) := by decide +kernel
theorem dX1_isAheadOf_1 : decode cX1_isAheadOf 1 = .ok (.getfield 17, 3) := by decide +kernel
theorem dX1_isAheadOf_4 : decode cX1_isAheadOf 4 = .ok (.aload_n 1, 1) := by decide +kernel
theorem dX1_isAheadOf_5 : decode cX1_isAheadOf 5 = .ok (.getfield 17, 3) := by decide +kernel
theorem dX1_isAheadOf_8 : decode cX1_isAheadOf 8 = .ok (.if_icmp .eq 20, 3) := by decide +kernel
theorem dX1_isAheadOf_11 : decode cX1_isAheadOf 11 = .ok (.aload_n 0, 1) := by decide +kernel
theorem dX1_isAheadOf_12 : decode cX1_isAheadOf 12 = .ok (.getfield 17, 3) := by decide +kernel
theorem dX1_isAheadOf_15 : decode cX1_isAheadOf 15 = .ok (.aload_n 1, 1) := by decide +kernel
theorem dX1_isAheadOf_16 : decode cX1_isAheadOf 16 = .ok (.getfield 17, 3) := by decide +kernel
theorem dX1_isAheadOf_19 : decode cX1_isAheadOf 19 = .ok (.if_icmp .ge 7, 3) := by decide +kernel
theorem dX1_isAheadOf_22 : decode cX1_isAheadOf 22 = .ok (.iconst 1, 1) := by decide +kernel
theorem dX1_isAheadOf_23 : decode cX1_isAheadOf 23 = .ok (.goto 4, 3) := by decide +kernel
theorem dX1_isAheadOf_26 : decode cX1_isAheadOf 26 = .ok (.iconst 0, 1) := by decide +kernel
theorem dX1_isAheadOf_27 : decode cX1_isAheadOf 27 = .ok (.ireturn, 1) := by decide +kernel
theorem dX1_isAheadOf_28 : decode cX1_isAheadOf 28 = .ok (.aload_n 0, 1) := by decide +kernel
theorem dX1_isAheadOf_29 : decode cX1_isAheadOf 29 = .ok (.getfield 23, 3) := by decide +kernel
theorem dX1_isAheadOf_32 : decode cX1_isAheadOf 32 = .ok (.aload_n 1, 1) := by decide +kernel
theorem dX1_isAheadOf_33 : decode cX1_isAheadOf 33 = .ok (.getfield 23, 3) := by decide +kernel
theorem dX1_isAheadOf_36 : decode cX1_isAheadOf 36 = .ok (.if_icmp .ne 22, 3) := by decide +kernel
theorem dX1_isAheadOf_39 : decode cX1_isAheadOf 39 = .ok (.aload_n 0, 1) := by decide +kernel
theorem dX1_isAheadOf_40 : decode cX1_isAheadOf 40 = .ok (.getfield 7, 3) := by decide +kernel
theorem dX1_isAheadOf_43 : decode cX1_isAheadOf 43 = .ok (.aload_n 1, 1) := by decide +kernel
theorem dX1_isAheadOf_44 : decode cX1_isAheadOf 44 = .ok (.getfield 7, 3) := by decide +kernel
theorem dX1_isAheadOf_47 : decode cX1_isAheadOf 47 = .ok (.if_icmp .ge 7, 3) := by decide +kernel
theorem dX1_isAheadOf_50 : decode cX1_isAheadOf 50 = .ok (.iconst 1, 1) := by decide +kernel
theorem dX1_isAheadOf_51 : decode cX1_isAheadOf 51 = .ok (.goto 23, 3) := by decide +kernel
theorem dX1_isAheadOf_54 : decode cX1_isAheadOf 54 = .ok (.iconst 0, 1) := by decide +kernel
theorem dX1_isAheadOf_55 : decode cX1_isAheadOf 55 = .ok (.goto 19, 3) := by decide +kernel
theorem dX1_isAheadOf_58 : decode cX1_isAheadOf 58 = .ok (.aload_n 0, 1) := by decide +kernel
theorem dX1_isAheadOf_59 : decode cX1_isAheadOf 59 = .ok (.getfield 23, 3) := by decide +kernel
theorem dX1_isAheadOf_62 : decode cX1_isAheadOf 62 = .ok (.aload_n 1, 1) := by decide +kernel
theorem dX1_isAheadOf_63 : decode cX1_isAheadOf 63 = .ok (.getfield 23, 3) := by decide +kernel
theorem dX1_isAheadOf_66 : decode cX1_isAheadOf 66 = .ok (.if_icmp .ge 7, 3) := by decide +kernel
theorem dX1_isAheadOf_69 : decode cX1_isAheadOf 69 = .ok (.iconst 1, 1) := by decide +kernel
theorem dX1_isAheadOf_70 : decode cX1_isAheadOf 70 = .ok (.goto 4, 3) := by decide +kernel
theorem dX1_isAheadOf_73 : decode cX1_isAheadOf 73 = .ok (.iconst 0, 1) := by decide +kernel
theorem dX1_isAheadOf_74 : decode cX1_isAheadOf 74 = .ok (.ireturn, 1) := by decide +kernel
set_option maxRecDepth 20000 in
theorem ggX2_init_J7_fill_53178 : GoodIn wsX2_init wsJ7_fill_53178 := goodIn_r _ [23] (by decide +kernel) (by decide +kernel)
set_option maxRecDepth 20000 in
theorem gX2_init_J7_fill_53178 : GoodIn wsX2_init (va_wsS RX2 58 yJ7_fill_53178 wsJ7_fill_53178) := goodIn_app (goodIn_of _ (by decide +kernel)) ggX2_init_J7_fill_53178
theorem dX2_init_0 : decode cX2_init 0 = .ok (.aload_n 0, 1) := by decide +kernel
theorem dX2_init_1 : decode cX2_init 1 = .ok (.invokespecial 3, 3) := by decide +kernel
theorem dX2_init_4 : decode cX2_init 4 = .ok (.aload_n 0, 1) := by decide +kernel
theorem dX2_init_5 : decode cX2_init 5 = .ok (.bipush 8, 2) := by decide +kernel
theorem dX2_init_7 : decode cX2_init 7 = .ok (.anewarray 9, 3) := by decide +kernel
theorem dX2_init_10 : decode cX2_init 10 = .ok (.putfield 11, 3) := by decide +kernel
theorem dX2_init_13 : decode cX2_init 13 = .ok (.aload_n 0, 1) := by decide +kernel
theorem dX2_init_14 : decode cX2_init 14 = .ok (.iconst 0, 1) := by decide +kernel
theorem dX2_init_15 : decode cX2_init 15 = .ok (.putfield 17, 3) := by decide +kernel
theorem dX2_init_18 : decode cX2_init 18 = .ok (.aload_n 0, 1) := by decide +kernel
theorem dX2_init_19 : decode cX2_init 19 = .ok (.bipush 8, 2) := by decide +kernel
theorem dX2_init_21 : decode cX2_init 21 = .ok (.newarray .int, 2) := by decide +kernel
theorem dX2_init_23 : decode cX2_init 23 = .ok (.putfield 21, 3) := by decide +kernel
theorem dX2_init_26 : decode cX2_init 26 = .ok (.aload_n 0, 1) := by decide +kernel
theorem dX2_init_27 : decode cX2_init 27 = .ok (.iconst 3, 1) := by decide +kernel
theorem dX2_init_28 : decode cX2_init 28 = .ok (.newarray .int, 2) := by decide +kernel
theorem dX2_init_30 : decode cX2_init 30 = .ok (.dup, 1) := by decide +kernel
theorem dX2_init_31 : decode cX2_init 31 = .ok (.iconst 0, 1) := by decide +kernel
theorem dX2_init_32 : decode cX2_init 32 = .ok (.bipush 100, 2) := by decide +kernel
theorem dX2_init_34 : decode cX2_init 34 = .ok (.iastore, 1) := by decide +kernel
theorem dX2_init_35 : decode cX2_init 35 = .ok (.dup, 1) := by decide +kernel
theorem dX2_init_36 : decode cX2_init 36 = .ok (.iconst 1, 1) := by decide +kernel
theorem dX2_init_37 : decode cX2_init 37 = .ok (.bipush 40, 2) := by decide +kernel
theorem dX2_init_39 : decode cX2_init 39 = .ok (.iastore, 1) := by decide +kernel
theorem dX2_init_40 : decode cX2_init 40 = .ok (.dup, 1) := by decide +kernel
theorem dX2_init_41 : decode cX2_init 41 = .ok (.iconst 2, 1) := by decide +kernel
theorem dX2_init_42 : decode cX2_init 42 = .ok (.iconst 5, 1) := by decide +kernel
theorem dX2_init_43 : decode cX2_init 43 = .ok (.iastore, 1) := by decide +kernel
theorem dX2_init_44 : decode cX2_init 44 = .ok (.putfield 25, 3) := by decide +kernel
theorem dX2_init_47 : decode cX2_init 47 = .ok (.aload_n 0, 1) := by decide +kernel
theorem dX2_init_48 : decode cX2_init 48 = .ok (.bipush 30, 2) := by decide +kernel
theorem dX2_init_50 : decode cX2_init 50 = .ok (.newarray .int, 2) := by decide +kernel
theorem dX2_init_52 : decode cX2_init 52 = .ok (.putfield 28, 3) := by decide +kernel
theorem dX2_init_55 : decode cX2_init 55 = .ok (.aload_n 0, 1) := by decide +kernel
theorem dX2_init_56 : decode cX2_init 56 = .ok (.bipush 120, 2) := by decide +kernel
theorem dX2_init_58 : decode cX2_init 58 = .ok (.newarray .int, 2) := by decide +kernel
theorem dX2_init_60 : decode cX2_init 60 = .ok (.putfield 31, 3) := by decide +kernel
theorem dX2_init_63 : decode cX2_init 63 = .ok (.aload_n 0, 1) := by decide +kernel
theorem dX2_init_64 : decode cX2_init 64 = .ok (.bipush 120, 2) := by decide +kernel
theorem dX2_init_66 : decode cX2_init 66 = .ok (.newarray .int, 2) := by decide +kernel
theorem dX2_init_68 : decode cX2_init 68 = .ok (.putfield 34, 3) := by decide +kernel
theorem dX2_init_71 : decode cX2_init 71 = .ok (.aload_n 0, 1) := by decide +kernel
theorem dX2_init_72 : decode cX2_init 72 = .ok (.bipush 120, 2) := by decide +kernel
theorem dX2_init_74 : decode cX2_init 74 = .ok (.newarray .int, 2) := by decide +kernel
theorem dX2_init_76 : decode cX2_init 76 = .ok (.putfield 37, 3) := by decide +kernel
theorem dX2_init_79 : decode cX2_init 79 = .ok (.aload_n 0, 1) := by decide +kernel
theorem dX2_init_80 : decode cX2_init 80 = .ok (.sipush 200, 3) := by decide +kernel
theorem dX2_init_83 : decode cX2_init 83 = .ok (.anewarray 40, 3) := by decide +kernel
theorem dX2_init_86 : decode cX2_init 86 = .ok (.putfield 42, 3) := by decide +kernel
theorem dX2_init_89 : decode cX2_init 89 = .ok (.aload_n 0, 1) := by decide +kernel
theorem dX2_init_90 : decode cX2_init 90 = .ok (.iconst 0, 1) := by decide +kernel
theorem dX2_init_91 : decode cX2_init 91 = .ok (.putfield 46, 3) := by decide +kernel
theorem dX2_init_94 : decode cX2_init 94 = .ok (.aload_n 0, 1) := by decide +kernel
theorem dX2_init_95 : decode cX2_init 95 = .ok (.sipush 200, 3) := by decide +kernel
theorem dX2_init_98 : decode cX2_init 98 = .ok (.newarray .int, 2) := by decide +kernel
theorem dX2_init_100 : decode cX2_init 100 = .ok (.putfield 49, 3) := by decide +kernel
theorem dX2_init_103 : decode cX2_init 103 = .ok (.aload_n 0, 1) := by decide +kernel
theorem dX2_init_104 : decode cX2_init 104 = .ok (.bipush 24, 2) := by decide +kernel
theorem dX2_init_106 : decode cX2_init 106 = .ok (.anewarray 40, 3) := by decide +kernel
theorem dX2_init_109 : decode cX2_init 109 = .ok (.putfield 52, 3) := by decide +kernel
theorem dX2_init_112 : decode cX2_init 112 = .ok (.aload_n 0, 1) := by decide +kernel
theorem dX2_init_113 : decode cX2_init 113 = .ok (.iconst 0, 1) := by decide +kernel
theorem dX2_init_114 : decode cX2_init 114 = .ok (.putfield 55, 3) := by decide +kernel
theorem dX2_init_117 : decode cX2_init 117 = .ok (.aload_n 0, 1) := by decide +kernel
theorem dX2_init_118 : decode cX2_init 118 = .ok (.getfield 31, 3) := by decide +kernel
theorem dX2_init_121 : decode cX2_init 121 = .ok (.iconst (-1), 1) := by decide +kernel
theorem dX2_init_122 : decode cX2_init 122 = .ok (.invokestatic 58, 3) := by decide +kernel
theorem dX2_init_125 : decode cX2_init 125 = .ok (.return_, 1) := by decide +kernel
theorem dX2_copyFrom_0 : decode cX2_copyFrom 0 = .ok (.aload_n 1, 1) := by decide +kernel
theorem dX2_copyFrom_1 : decode cX2_copyFrom 1 = .ok (.getfield 11, 3) := by decide +kernel
theorem dX2_copyFrom_4 : decode cX2_copyFrom 4 = .ok (.iconst 0, 1) := by decide +kernel
theorem dX2_copyFrom_5 : decode cX2_copyFrom 5 = .ok (.aload_n 0, 1) := by decide +kernel
theorem dX2_copyFrom_6 : decode cX2_copyFrom 6 = .ok (.getfield 11, 3) := by decide +kernel
theorem dX2_copyFrom_9 : decode cX2_copyFrom 9 = .ok (.iconst 0, 1) := by decide +kernel
theorem dX2_copyFrom_10 : decode cX2_copyFrom 10 = .ok (.bipush 8, 2) := by decide +kernel
theorem dX2_copyFrom_12 : decode cX2_copyFrom 12 = .ok (.invokestatic 64, 3) := by decide +kernel
theorem dX2_copyFrom_15 : decode cX2_copyFrom 15 = .ok (.aload_n 0, 1) := by decide +kernel
theorem dX2_copyFrom_16 : decode cX2_copyFrom 16 = .ok (.aload_n 1, 1) := by decide +kernel
theorem dX2_copyFrom_17 : decode cX2_copyFrom 17 = .ok (.getfield 17, 3) := by decide +kernel
theorem dX2_copyFrom_20 : decode cX2_copyFrom 20 = .ok (.putfield 17, 3) := by decide +kernel
theorem dX2_copyFrom_23 : decode cX2_copyFrom 23 = .ok (.aload_n 1, 1) := by decide +kernel
theorem dX2_copyFrom_24 : decode cX2_copyFrom 24 = .ok (.getfield 21, 3) := by decide +kernel
theorem dX2_copyFrom_27 : decode cX2_copyFrom 27 = .ok (.iconst 0, 1) := by decide +kernel
theorem dX2_copyFrom_28 : decode cX2_copyFrom 28 = .ok (.aload_n 0, 1) := by decide +kernel
theorem dX2_copyFrom_29 : decode cX2_copyFrom 29 = .ok (.getfield 21, 3) := by decide +kernel
theorem dX2_copyFrom_32 : decode cX2_copyFrom 32 = .ok (.iconst 0, 1) := by decide +kernel
theorem dX2_copyFrom_33 : decode cX2_copyFrom 33 = .ok (.bipush 8, 2) := by decide +kernel
theorem dX2_copyFrom_35 : decode cX2_copyFrom 35 = .ok (.invokestatic 64, 3) := by decide +kernel
theorem dX2_copyFrom_38 : decode cX2_copyFrom 38 = .ok (.aload_n 1, 1) := by decide +kernel
theorem dX2_copyFrom_39 : decode cX2_copyFrom 39 = .ok (.getfield 25, 3) := by decide +kernel
theorem dX2_copyFrom_42 : decode cX2_copyFrom 42 = .ok (.iconst 0, 1) := by decide +kernel
theorem dX2_copyFrom_43 : decode cX2_copyFrom 43 = .ok (.aload_n 0, 1) := by decide +kernel
theorem dX2_copyFrom_44 : decode cX2_copyFrom 44 = .ok (.getfield 25, 3) := by decide +kernel
theorem dX2_copyFrom_47 : decode cX2_copyFrom 47 = .ok (.iconst 0, 1) := by decide +kernel
theorem dX2_copyFrom_48 : decode cX2_copyFrom 48 = .ok (.aload_n 0, 1) := by decide +kernel
theorem dX2_copyFrom_49 : decode cX2_copyFrom 49 = .ok (.getfield 25, 3) := by decide +kernel
theorem dX2_copyFrom_52 : decode cX2_copyFrom 52 = .ok (.arraylength, 1) := by decide +kernel
theorem dX2_copyFrom_53 : decode cX2_copyFrom 53 = .ok (.invokestatic 64, 3) := by decide +kernel
theorem dX2_copyFrom_56 : decode cX2_copyFrom 56 = .ok (.aload_n 1, 1) := by decide +kernel
theorem dX2_copyFrom_57 : decode cX2_copyFrom 57 = .ok (.getfield 28, 3) := by decide +kernel
theorem dX2_copyFrom_60 : decode cX2_copyFrom 60 = .ok (.iconst 0, 1) := by decide +kernel
theorem dX2_copyFrom_61 : decode cX2_copyFrom 61 = .ok (.aload_n 0, 1) := by decide +kernel
theorem dX2_copyFrom_62 : decode cX2_copyFrom 62 = .ok (.getfield 28, 3) := by decide +kernel
theorem dX2_copyFrom_65 : decode cX2_copyFrom 65 = .ok (.iconst 0, 1) := by decide +kernel
theorem dX2_copyFrom_66 : decode cX2_copyFrom 66 = .ok (.bipush 30, 2) := by decide +kernel
theorem dX2_copyFrom_68 : decode cX2_copyFrom 68 = .ok (.invokestatic 64, 3) := by decide +kernel
theorem dX2_copyFrom_71 : decode cX2_copyFrom 71 = .ok (.aload_n 1, 1) := by decide +kernel
theorem dX2_copyFrom_72 : decode cX2_copyFrom 72 = .ok (.getfield 31, 3) := by decide +kernel
theorem dX2_copyFrom_75 : decode cX2_copyFrom 75 = .ok (.iconst 0, 1) := by decide +kernel
theorem dX2_copyFrom_76 : decode cX2_copyFrom 76 = .ok (.aload_n 0, 1) := by decide +kernel
theorem dX2_copyFrom_77 : decode cX2_copyFrom 77 = .ok (.getfield 31, 3) := by decide +kernel
theorem dX2_copyFrom_80 : decode cX2_copyFrom 80 = .ok (.iconst 0, 1) := by decide +kernel
theorem dX2_copyFrom_81 : decode cX2_copyFrom 81 = .ok (.bipush 120, 2) := by decide +kernel
theorem dX2_copyFrom_83 : decode cX2_copyFrom 83 = .ok (.invokestatic 64, 3) := by decide +kernel
theorem dX2_copyFrom_86 : decode cX2_copyFrom 86 = .ok (.aload_n 1, 1) := by decide +kernel
theorem dX2_copyFrom_87 : decode cX2_copyFrom 87 = .ok (.getfield 34, 3) := by decide +kernel
theorem dX2_copyFrom_90 : decode cX2_copyFrom 90 = .ok (.iconst 0, 1) := by decide +kernel
theorem dX2_copyFrom_91 : decode cX2_copyFrom 91 = .ok (.aload_n 0, 1) := by decide +kernel
theorem dX2_copyFrom_92 : decode cX2_copyFrom 92 = .ok (.getfield 34, 3) := by decide +kernel
theorem dX2_copyFrom_95 : decode cX2_copyFrom 95 = .ok (.iconst 0, 1) := by decide +kernel
theorem dX2_copyFrom_96 : decode cX2_copyFrom 96 = .ok (.bipush 120, 2) := by decide +kernel
theorem dX2_copyFrom_98 : decode cX2_copyFrom 98 = .ok (.invokestatic 64, 3) := by decide +kernel
theorem dX2_copyFrom_101 : decode cX2_copyFrom 101 = .ok (.aload_n 1, 1) := by decide +kernel
theorem dX2_copyFrom_102 : decode cX2_copyFrom 102 = .ok (.getfield 37, 3) := by decide +kernel
theorem dX2_copyFrom_105 : decode cX2_copyFrom 105 = .ok (.iconst 0, 1) := by decide +kernel
theorem dX2_copyFrom_106 : decode cX2_copyFrom 106 = .ok (.aload_n 0, 1) := by decide +kernel
theorem dX2_copyFrom_107 : decode cX2_copyFrom 107 = .ok (.getfield 37, 3) := by decide +kernel
theorem dX2_copyFrom_110 : decode cX2_copyFrom 110 = .ok (.iconst 0, 1) := by decide +kernel
theorem dX2_copyFrom_111 : decode cX2_copyFrom 111 = .ok (.bipush 120, 2) := by decide +kernel
theorem dX2_copyFrom_113 : decode cX2_copyFrom 113 = .ok (.invokestatic 64, 3) := by decide +kernel
theorem dX2_copyFrom_116 : decode cX2_copyFrom 116 = .ok (.aload_n 1, 1) := by decide +kernel
theorem dX2_copyFrom_117 : decode cX2_copyFrom 117 = .ok (.getfield 42, 3) := by decide +kernel
theorem dX2_copyFrom_120 : decode cX2_copyFrom 120 = .ok (.iconst 0, 1) := by decide +kernel
theorem dX2_copyFrom_121 : decode cX2_copyFrom 121 = .ok (.aload_n 0, 1) := by decide +kernel
theorem dX2_copyFrom_122 : decode cX2_copyFrom 122 = .ok (.getfield 42, 3) := by decide +kernel
theorem dX2_copyFrom_125 : decode cX2_copyFrom 125 = .ok (.iconst 0, 1) := by decide +kernel
theorem dX2_copyFrom_126 : decode cX2_copyFrom 126 = .ok (.sipush 200, 3) := by decide +kernel
theorem dX2_copyFrom_129 : decode cX2_copyFrom 129 = .ok (.invokestatic 64, 3) := by decide +kernel
theorem dX2_copyFrom_132 : decode cX2_copyFrom 132 = .ok (.aload_n 0, 1) := by decide +kernel
theorem dX2_copyFrom_133 : decode cX2_copyFrom 133 = .ok (.aload_n 1, 1) := by decide +kernel
theorem dX2_copyFrom_134 : decode cX2_copyFrom 134 = .ok (.getfield 46, 3) := by decide +kernel
theorem dX2_copyFrom_137 : decode cX2_copyFrom 137 = .ok (.putfield 46, 3) := by decide +kernel
theorem dX2_copyFrom_140 : decode cX2_copyFrom 140 = .ok (.aload_n 1, 1) := by decide +kernel
theorem dX2_copyFrom_141 : decode cX2_copyFrom 141 = .ok (.getfield 49, 3) := by decide +kernel
theorem dX2_copyFrom_144 : decode cX2_copyFrom 144 = .ok (.iconst 0, 1) := by decide +kernel
theorem dX2_copyFrom_145 : decode cX2_copyFrom 145 = .ok (.aload_n 0, 1) := by decide +kernel
theorem dX2_copyFrom_146 : decode cX2_copyFrom 146 = .ok (.getfield 49, 3) := by decide +kernel
theorem dX2_copyFrom_149 : decode cX2_copyFrom 149 = .ok (.iconst 0, 1) := by decide +kernel
theorem dX2_copyFrom_150 : decode cX2_copyFrom 150 = .ok (.sipush 200, 3) := by decide +kernel
theorem dX2_copyFrom_153 : decode cX2_copyFrom 153 = .ok (.invokestatic 64, 3) := by decide +kernel
theorem dX2_copyFrom_156 : decode cX2_copyFrom 156 = .ok (.aload_n 1, 1) := by decide +kernel
theorem dX2_copyFrom_157 : decode cX2_copyFrom 157 = .ok (.getfield 52, 3) := by decide +kernel
theorem dX2_copyFrom_160 : decode cX2_copyFrom 160 = .ok (.iconst 0, 1) := by decide +kernel
theorem dX2_copyFrom_161 : decode cX2_copyFrom 161 = .ok (.aload_n 0, 1) := by decide +kernel
theorem dX2_copyFrom_162 : decode cX2_copyFrom 162 = .ok (.getfield 52, 3) := by decide +kernel
theorem dX2_copyFrom_165 : decode cX2_copyFrom 165 = .ok (.iconst 0, 1) := by decide +kernel
theorem dX2_copyFrom_166 : decode cX2_copyFrom 166 = .ok (.bipush 24, 2) := by decide +kernel
theorem dX2_copyFrom_168 : decode cX2_copyFrom 168 = .ok (.invokestatic 64, 3) := by decide +kernel
theorem dX2_copyFrom_171 : decode cX2_copyFrom 171 = .ok (.aload_n 0, 1) := by decide +kernel
theorem dX2_copyFrom_172 : decode cX2_copyFrom 172 = .ok (.aload_n 1, 1) := by decide +kernel
theorem dX2_copyFrom_173 : decode cX2_copyFrom 173 = .ok (.getfield 55, 3) := by decide +kernel
theorem dX2_copyFrom_176 : decode cX2_copyFrom 176 = .ok (.putfield 55, 3) := by decide +kernel
theorem dX2_copyFrom_179 : decode cX2_copyFrom 179 = .ok (.return_, 1) := by decide +kernel
theorem dX2_craneAt_0 : decode cX2_craneAt 0 = .ok (.iload_n 1, 1) := by decide +kernel
theorem dX2_craneAt_1 : decode cX2_craneAt 1 = .ok (.ifCond .lt 24, 3) := by decide +kernel
theorem dX2_craneAt_4 : decode cX2_craneAt 4 = .ok (.iload_n 1, 1) := by decide +kernel
theorem dX2_craneAt_5 : decode cX2_craneAt 5 = .ok (.aload_n 0, 1) := by decide +kernel
theorem dX2_craneAt_6 : decode cX2_craneAt 6 = .ok (.getfield 17, 3) := by decide +kernel
theorem dX2_craneAt_9 : decode cX2_craneAt 9 = .ok (.if_icmp .ge 16, 3) := by decide +kernel
theorem dX2_craneAt_12 : decode cX2_craneAt 12 = .ok (.iload_n 1, 1) := by decide +kernel
theorem dX2_craneAt_13 : decode cX2_craneAt 13 = .ok (.aload_n 0, 1) := by decide +kernel
theorem dX2_craneAt_14 : decode cX2_craneAt 14 = .ok (.getfield 11, 3) := by decide +kernel
theorem dX2_craneAt_17 : decode cX2_craneAt 17 = .ok (.arraylength, 1) := by decide +kernel
theorem dX2_craneAt_18 : decode cX2_craneAt 18 = .ok (.if_icmp .ge 7, 3) := by decide +kernel
theorem dX2_craneAt_21 : decode cX2_craneAt 21 = .ok (.iconst 1, 1) := by decide +kernel
theorem dX2_craneAt_22 : decode cX2_craneAt 22 = .ok (.goto 4, 3) := by decide +kernel
theorem dX2_craneAt_25 : decode cX2_craneAt 25 = .ok (.iconst 0, 1) := by decide +kernel
theorem dX2_craneAt_26 : decode cX2_craneAt 26 = .ok (.istore_n 2, 1) := by decide +kernel
theorem dX2_craneAt_27 : decode cX2_craneAt 27 = .ok (.iload_n 2, 1) := by decide +kernel
theorem dX2_craneAt_28 : decode cX2_craneAt 28 = .ok (.ifCond .eq 12, 3) := by decide +kernel
theorem dX2_craneAt_31 : decode cX2_craneAt 31 = .ok (.aload_n 0, 1) := by decide +kernel
theorem dX2_craneAt_32 : decode cX2_craneAt 32 = .ok (.getfield 11, 3) := by decide +kernel
theorem dX2_craneAt_35 : decode cX2_craneAt 35 = .ok (.iload_n 1, 1) := by decide +kernel
theorem dX2_craneAt_36 : decode cX2_craneAt 36 = .ok (.aaload, 1) := by decide +kernel
theorem dX2_craneAt_37 : decode cX2_craneAt 37 = .ok (.goto 4, 3) := by decide +kernel
theorem dX2_craneAt_40 : decode cX2_craneAt 40 = .ok (.aconst_null, 1) := by decide +kernel
theorem dX2_craneAt_41 : decode cX2_craneAt 41 = .ok (.areturn, 1) := by decide +kernel
theorem dX2_permitAt_0 : decode cX2_permitAt 0 = .ok (.iload_n 1, 1) := by decide +kernel
theorem dX2_permitAt_1 : decode cX2_permitAt 1 = .ok (.ifCond .lt 24, 3) := by decide +kernel
theorem dX2_permitAt_4 : decode cX2_permitAt 4 = .ok (.iload_n 1, 1) := by decide +kernel
theorem dX2_permitAt_5 : decode cX2_permitAt 5 = .ok (.aload_n 0, 1) := by decide +kernel
theorem dX2_permitAt_6 : decode cX2_permitAt 6 = .ok (.getfield 46, 3) := by decide +kernel
theorem dX2_permitAt_9 : decode cX2_permitAt 9 = .ok (.if_icmp .ge 16, 3) := by decide +kernel
theorem dX2_permitAt_12 : decode cX2_permitAt 12 = .ok (.iload_n 1, 1) := by decide +kernel
theorem dX2_permitAt_13 : decode cX2_permitAt 13 = .ok (.aload_n 0, 1) := by decide +kernel
theorem dX2_permitAt_14 : decode cX2_permitAt 14 = .ok (.getfield 42, 3) := by decide +kernel
theorem dX2_permitAt_17 : decode cX2_permitAt 17 = .ok (.arraylength, 1) := by decide +kernel
theorem dX2_permitAt_18 : decode cX2_permitAt 18 = .ok (.if_icmp .ge 7, 3) := by decide +kernel
theorem dX2_permitAt_21 : decode cX2_permitAt 21 = .ok (.iconst 1, 1) := by decide +kernel
theorem dX2_permitAt_22 : decode cX2_permitAt 22 = .ok (.goto 4, 3) := by decide +kernel
theorem dX2_permitAt_25 : decode cX2_permitAt 25 = .ok (.iconst 0, 1) := by decide +kernel
theorem dX2_permitAt_26 : decode cX2_permitAt 26 = .ok (.istore_n 2, 1) := by decide +kernel
theorem dX2_permitAt_27 : decode cX2_permitAt 27 = .ok (.iload_n 2, 1) := by decide +kernel
theorem dX2_permitAt_28 : decode cX2_permitAt 28 = .ok (.ifCond .eq 12, 3) := by decide +kernel
theorem dX2_permitAt_31 : decode cX2_permitAt 31 = .ok (.aload_n 0, 1) := by decide +kernel
theorem dX2_permitAt_32 : decode cX2_permitAt 32 = .ok (.getfield 42, 3) := by decide +kernel
theorem dX2_permitAt_35 : decode cX2_permitAt 35 = .ok (.iload_n 1, 1) := by decide +kernel
theorem dX2_permitAt_36 : decode cX2_permitAt 36 = .ok (.aaload, 1) := by decide +kernel
theorem dX2_permitAt_37 : decode cX2_permitAt 37 = .ok (.goto 4, 3) := by decide +kernel
theorem dX2_permitAt_40 : decode cX2_permitAt 40 = .ok (.aconst_null, 1) := by decide +kernel
theorem dX2_permitAt_41 : decode cX2_permitAt 41 = .ok (.areturn, 1) := by decide +kernel
theorem dX2_validAt_0 : decode cX2_validAt 0 = .ok (.iload_n 1, 1) := by decide +kernel
theorem dX2_validAt_1 : decode cX2_validAt 1 = .ok (.ifCond .lt 24, 3) := by decide +kernel
theorem dX2_validAt_4 : decode cX2_validAt 4 = .ok (.iload_n 1, 1) := by decide +kernel
theorem dX2_validAt_5 : decode cX2_validAt 5 = .ok (.aload_n 0, 1) := by decide +kernel
theorem dX2_validAt_6 : decode cX2_validAt 6 = .ok (.getfield 55, 3) := by decide +kernel
theorem dX2_validAt_9 : decode cX2_validAt 9 = .ok (.if_icmp .ge 16, 3) := by decide +kernel
theorem dX2_validAt_12 : decode cX2_validAt 12 = .ok (.iload_n 1, 1) := by decide +kernel
theorem dX2_validAt_13 : decode cX2_validAt 13 = .ok (.aload_n 0, 1) := by decide +kernel
theorem dX2_validAt_14 : decode cX2_validAt 14 = .ok (.getfield 52, 3) := by decide +kernel
theorem dX2_validAt_17 : decode cX2_validAt 17 = .ok (.arraylength, 1) := by decide +kernel
theorem dX2_validAt_18 : decode cX2_validAt 18 = .ok (.if_icmp .ge 7, 3) := by decide +kernel
theorem dX2_validAt_21 : decode cX2_validAt 21 = .ok (.iconst 1, 1) := by decide +kernel
theorem dX2_validAt_22 : decode cX2_validAt 22 = .ok (.goto 4, 3) := by decide +kernel
theorem dX2_validAt_25 : decode cX2_validAt 25 = .ok (.iconst 0, 1) := by decide +kernel
theorem dX2_validAt_26 : decode cX2_validAt 26 = .ok (.istore_n 2, 1) := by decide +kernel
theorem dX2_validAt_27 : decode cX2_validAt 27 = .ok (.iload_n 2, 1) := by decide +kernel
theorem dX2_validAt_28 : decode cX2_validAt 28 = .ok (.ifCond .eq 12, 3) := by decide +kernel
theorem dX2_validAt_31 : decode cX2_validAt 31 = .ok (.aload_n 0, 1) := by decide +kernel
theorem dX2_validAt_32 : decode cX2_validAt 32 = .ok (.getfield 52, 3) := by decide +kernel
theorem dX2_validAt_35 : decode cX2_validAt 35 = .ok (.iload_n 1, 1) := by decide +kernel
theorem dX2_validAt_36 : decode cX2_validAt 36 = .ok (.aaload, 1) := by decide +kernel
theorem dX2_validAt_37 : decode cX2_validAt 37 = .ok (.goto 4, 3) := by decide +kernel
theorem dX2_validAt_40 : decode cX2_validAt 40 = .ok (.aconst_null, 1) := by decide +kernel
theorem dX2_validAt_41 : decode cX2_validAt 41 = .ok (.areturn, 1) := by decide +kernel
set_option maxRecDepth 20000 in
theorem ggX2_hasCraneIn_X2_craneAt : GoodIn wsX2_hasCraneIn wsX2_craneAt := goodIn_r _ [8, 1, 9, 10, 11, 12, 13, 14, 15, 16, 17, 18, 19, 20, 21, 22] (by decide +kernel) (by decide +kernel)
set_option maxRecDepth 20000 in
theorem gX2_hasCraneIn_X2_craneAt : GoodIn wsX2_hasCraneIn (wsV RX2 70 RX2 yX2_craneAt wsX2_craneAt) := goodIn_app (goodIn_of _ (by decide +kernel)) ggX2_hasCraneIn_X2_craneAt
theorem dX2_hasCraneIn_0 : decode cX2_hasCraneIn 0 = .ok (.iconst 0, 1) := by decide +kernel
theorem dX2_hasCraneIn_1 : decode cX2_hasCraneIn 1 = .ok (.istore_n 3, 1) := by decide +kernel
theorem dX2_hasCraneIn_2 : decode cX2_hasCraneIn 2 = .ok (.iload_n 3, 1) := by decide +kernel
theorem dX2_hasCraneIn_3 : decode cX2_hasCraneIn 3 = .ok (.aload_n 0, 1) := by decide +kernel
theorem dX2_hasCraneIn_4 : decode cX2_hasCraneIn 4 = .ok (.getfield 17, 3) := by decide +kernel
theorem dX2_hasCraneIn_7 : decode cX2_hasCraneIn 7 = .ok (.if_icmp .ge 41, 3) := by decide +kernel
theorem dX2_hasCraneIn_10 : decode cX2_hasCraneIn 10 = .ok (.aload_n 0, 1) := by decide +kernel
theorem dX2_hasCraneIn_11 : decode cX2_hasCraneIn 11 = .ok (.iload_n 3, 1) := by decide +kernel
theorem dX2_hasCraneIn_12 : decode cX2_hasCraneIn 12 = .ok (.invokevirtual 70, 3) := by decide +kernel
theorem dX2_hasCraneIn_15 : decode cX2_hasCraneIn 15 = .ok (.astore 4, 2) := by decide +kernel
theorem dX2_hasCraneIn_17 : decode cX2_hasCraneIn 17 = .ok (.aload 4, 2) := by decide +kernel
theorem dX2_hasCraneIn_19 : decode cX2_hasCraneIn 19 = .ok (.ifnull 23, 3) := by decide +kernel
theorem dX2_hasCraneIn_22 : decode cX2_hasCraneIn 22 = .ok (.aload 4, 2) := by decide +kernel
theorem dX2_hasCraneIn_24 : decode cX2_hasCraneIn 24 = .ok (.getfield 74, 3) := by decide +kernel
theorem dX2_hasCraneIn_27 : decode cX2_hasCraneIn 27 = .ok (.iload_n 1, 1) := by decide +kernel
theorem dX2_hasCraneIn_28 : decode cX2_hasCraneIn 28 = .ok (.if_icmp .ne 14, 3) := by decide +kernel
theorem dX2_hasCraneIn_31 : decode cX2_hasCraneIn 31 = .ok (.aload 4, 2) := by decide +kernel
theorem dX2_hasCraneIn_33 : decode cX2_hasCraneIn 33 = .ok (.getfield 77, 3) := by decide +kernel
theorem dX2_hasCraneIn_36 : decode cX2_hasCraneIn 36 = .ok (.iload_n 2, 1) := by decide +kernel
theorem dX2_hasCraneIn_37 : decode cX2_hasCraneIn 37 = .ok (.if_icmp .ne 5, 3) := by decide +kernel
theorem dX2_hasCraneIn_40 : decode cX2_hasCraneIn 40 = .ok (.iconst 1, 1) := by decide +kernel
theorem dX2_hasCraneIn_41 : decode cX2_hasCraneIn 41 = .ok (.ireturn, 1) := by decide +kernel
theorem dX2_hasCraneIn_42 : decode cX2_hasCraneIn 42 = .ok (.iinc 3 1, 3) := by decide +kernel
theorem dX2_hasCraneIn_45 : decode cX2_hasCraneIn 45 = .ok (.goto (-43), 3) := by decide +kernel
theorem dX2_hasCraneIn_48 : decode cX2_hasCraneIn 48 = .ok (.iconst 0, 1) := by decide +kernel
theorem dX2_hasCraneIn_49 : decode cX2_hasCraneIn 49 = .ok (.ireturn, 1) := by decide +kernel
set_option maxRecDepth 20000 in
theorem ggX2_addCrane_X4_put : GoodIn wsX2_addCrane wsX4_put := goodIn_r _ [6] (by decide +kernel) (by decide +kernel)
set_option maxRecDepth 20000 in
theorem gX2_addCrane_X4_put_n80 : GoodIn wsX2_addCrane (wsX4_put) := ggX2_addCrane_X4_put
theorem dX2_addCrane_0 : decode cX2_addCrane 0 = .ok (.aload_n 0, 1) := by decide +kernel
theorem dX2_addCrane_1 : decode cX2_addCrane 1 = .ok (.getfield 17, 3) := by decide +kernel
theorem dX2_addCrane_4 : decode cX2_addCrane 4 = .ok (.ifCond .lt 47, 3) := by decide +kernel
theorem dX2_addCrane_7 : decode cX2_addCrane 7 = .ok (.aload_n 0, 1) := by decide +kernel
theorem dX2_addCrane_8 : decode cX2_addCrane 8 = .ok (.getfield 17, 3) := by decide +kernel
theorem dX2_addCrane_11 : decode cX2_addCrane 11 = .ok (.aload_n 0, 1) := by decide +kernel
theorem dX2_addCrane_12 : decode cX2_addCrane 12 = .ok (.getfield 11, 3) := by decide +kernel
theorem dX2_addCrane_15 : decode cX2_addCrane 15 = .ok (.arraylength, 1) := by decide +kernel
theorem dX2_addCrane_16 : decode cX2_addCrane 16 = .ok (.if_icmp .ge 35, 3) := by decide +kernel
theorem dX2_addCrane_19 : decode cX2_addCrane 19 = .ok (.aload_n 0, 1) := by decide +kernel
theorem dX2_addCrane_20 : decode cX2_addCrane 20 = .ok (.getfield 11, 3) := by decide +kernel
theorem dX2_addCrane_23 : decode cX2_addCrane 23 = .ok (.aload_n 0, 1) := by decide +kernel
theorem dX2_addCrane_24 : decode cX2_addCrane 24 = .ok (.getfield 17, 3) := by decide +kernel
theorem dX2_addCrane_27 : decode cX2_addCrane 27 = .ok (.aload_n 1, 1) := by decide +kernel
theorem dX2_addCrane_28 : decode cX2_addCrane 28 = .ok (.aastore, 1) := by decide +kernel
theorem dX2_addCrane_29 : decode cX2_addCrane 29 = .ok (.aload_n 0, 1) := by decide +kernel
theorem dX2_addCrane_30 : decode cX2_addCrane 30 = .ok (.getfield 21, 3) := by decide +kernel
theorem dX2_addCrane_33 : decode cX2_addCrane 33 = .ok (.aload_n 0, 1) := by decide +kernel
theorem dX2_addCrane_34 : decode cX2_addCrane 34 = .ok (.getfield 17, 3) := by decide +kernel
theorem dX2_addCrane_37 : decode cX2_addCrane 37 = .ok (.iload_n 2, 1) := by decide +kernel
theorem dX2_addCrane_38 : decode cX2_addCrane 38 = .ok (.invokestatic 80, 3) := by decide +kernel
theorem dX2_addCrane_41 : decode cX2_addCrane 41 = .ok (.aload_n 0, 1) := by decide +kernel
theorem dX2_addCrane_42 : decode cX2_addCrane 42 = .ok (.dup, 1) := by decide +kernel
theorem dX2_addCrane_43 : decode cX2_addCrane 43 = .ok (.getfield 17, 3) := by decide +kernel
theorem dX2_addCrane_46 : decode cX2_addCrane 46 = .ok (.iconst 1, 1) := by decide +kernel
theorem dX2_addCrane_47 : decode cX2_addCrane 47 = .ok (.iadd, 1) := by decide +kernel
theorem dX2_addCrane_48 : decode cX2_addCrane 48 = .ok (.putfield 17, 3) := by decide +kernel
theorem dX2_addCrane_51 : decode cX2_addCrane 51 = .ok (.return_, 1) := by decide +kernel
set_option maxRecDepth 20000 in
theorem ggX2_stopWindOf_X4_at : GoodIn wsX2_stopWindOf wsX4_at := goodIn_r _ [5] (by decide +kernel) (by decide +kernel)
set_option maxRecDepth 20000 in
theorem gX2_stopWindOf_X4_at_n84 : GoodIn wsX2_stopWindOf (wsX4_at) := ggX2_stopWindOf_X4_at
theorem dX2_stopWindOf_0 : decode cX2_stopWindOf 0 = .ok (.aload_n 0, 1) := by decide +kernel
theorem dX2_stopWindOf_1 : decode cX2_stopWindOf 1 = .ok (.getfield 25, 3) := by decide +kernel
theorem dX2_stopWindOf_4 : decode cX2_stopWindOf 4 = .ok (.iconst 0, 1) := by decide +kernel
theorem dX2_stopWindOf_5 : decode cX2_stopWindOf 5 = .ok (.invokestatic 84, 3) := by decide +kernel
theorem dX2_stopWindOf_8 : decode cX2_stopWindOf 8 = .ok (.aload_n 1, 1) := by decide +kernel
theorem dX2_stopWindOf_9 : decode cX2_stopWindOf 9 = .ok (.getfield 88, 3) := by decide +kernel
theorem dX2_stopWindOf_12 : decode cX2_stopWindOf 12 = .ok (.iconst 2, 1) := by decide +kernel
theorem dX2_stopWindOf_13 : decode cX2_stopWindOf 13 = .ok (.idiv, 1) := by decide +kernel
theorem dX2_stopWindOf_14 : decode cX2_stopWindOf 14 = .ok (.isub, 1) := by decide +kernel
theorem dX2_stopWindOf_15 : decode cX2_stopWindOf 15 = .ok (.ireturn, 1) := by decide +kernel
set_option maxRecDepth 20000 in
theorem ggX2_mustStop_X4_at : GoodIn wsX2_mustStop wsX4_at := goodIn_r _ [4] (by decide +kernel) (by decide +kernel)
set_option maxRecDepth 20000 in
theorem gX2_mustStop_X4_at_n84 : GoodIn wsX2_mustStop (wsX4_at) := ggX2_mustStop_X4_at
set_option maxRecDepth 20000 in
theorem ggX2_mustStop_X2_stopWindOf : GoodIn wsX2_mustStop wsX2_stopWindOf := goodIn_r _ [9, 10, 11, 2, 3, 4, 12, 13, 14, 15, 16, 17, 18, 19, 20, 21, 22, 23, 24, 25, 26, 27, 28, 29, 30, 31] (by decide +kernel) (by decide +kernel)
set_option maxRecDepth 20000 in
theorem gX2_mustStop_X2_stopWindOf : GoodIn wsX2_mustStop (wsV RX2 91 RX2 yX2_stopWindOf wsX2_stopWindOf) := goodIn_app (goodIn_of _ (by decide +kernel)) ggX2_mustStop_X2_stopWindOf
theorem dX2_mustStop_0 : decode cX2_mustStop 0 = .ok (.aload_n 0, 1) := by decide +kernel
theorem dX2_mustStop_1 : decode cX2_mustStop 1 = .ok (.getfield 28, 3) := by decide +kernel
theorem dX2_mustStop_4 : decode cX2_mustStop 4 = .ok (.iload_n 2, 1) := by decide +kernel
theorem dX2_mustStop_5 : decode cX2_mustStop 5 = .ok (.invokestatic 84, 3) := by decide +kernel
theorem dX2_mustStop_8 : decode cX2_mustStop 8 = .ok (.aload_n 0, 1) := by decide +kernel
theorem dX2_mustStop_9 : decode cX2_mustStop 9 = .ok (.aload_n 1, 1) := by decide +kernel
theorem dX2_mustStop_10 : decode cX2_mustStop 10 = .ok (.invokevirtual 91, 3) := by decide +kernel
theorem dX2_mustStop_13 : decode cX2_mustStop 13 = .ok (.if_icmp .lt 7, 3) := by decide +kernel
theorem dX2_mustStop_16 : decode cX2_mustStop 16 = .ok (.iconst 1, 1) := by decide +kernel
theorem dX2_mustStop_17 : decode cX2_mustStop 17 = .ok (.goto 4, 3) := by decide +kernel
theorem dX2_mustStop_20 : decode cX2_mustStop 20 = .ok (.iconst 0, 1) := by decide +kernel
theorem dX2_mustStop_21 : decode cX2_mustStop 21 = .ok (.ireturn, 1) := by decide +kernel
set_option maxRecDepth 20000 in
theorem ggX2_allowanceOf_X4_streetNight : GoodIn wsX2_allowanceOf wsX4_streetNight := goodIn_r _ [5] (by decide +kernel) (by decide +kernel)
set_option maxRecDepth 20000 in
theorem gX2_allowanceOf_X4_streetNight_n95 : GoodIn wsX2_allowanceOf (wsX4_streetNight) := ggX2_allowanceOf_X4_streetNight
set_option maxRecDepth 20000 in
theorem ggX2_allowanceOf_X4_at : GoodIn wsX2_allowanceOf wsX4_at := goodIn_r _ [7] (by decide +kernel) (by decide +kernel)
set_option maxRecDepth 20000 in
theorem gX2_allowanceOf_X4_at_n84 : GoodIn wsX2_allowanceOf (wsX4_at) := ggX2_allowanceOf_X4_at
theorem dX2_allowanceOf_0 : decode cX2_allowanceOf 0 = .ok (.aload_n 0, 1) := by decide +kernel
theorem dX2_allowanceOf_1 : decode cX2_allowanceOf 1 = .ok (.getfield 31, 3) := by decide +kernel
theorem dX2_allowanceOf_4 : decode cX2_allowanceOf 4 = .ok (.iload_n 1, 1) := by decide +kernel
theorem dX2_allowanceOf_5 : decode cX2_allowanceOf 5 = .ok (.iload_n 2, 1) := by decide +kernel
theorem dX2_allowanceOf_6 : decode cX2_allowanceOf 6 = .ok (.invokestatic 95, 3) := by decide +kernel
theorem dX2_allowanceOf_9 : decode cX2_allowanceOf 9 = .ok (.invokestatic 84, 3) := by decide +kernel
theorem dX2_allowanceOf_12 : decode cX2_allowanceOf 12 = .ok (.istore_n 3, 1) := by decide +kernel
theorem dX2_allowanceOf_13 : decode cX2_allowanceOf 13 = .ok (.iload_n 3, 1) := by decide +kernel
theorem dX2_allowanceOf_14 : decode cX2_allowanceOf 14 = .ok (.iconst (-1), 1) := by decide +kernel
theorem dX2_allowanceOf_15 : decode cX2_allowanceOf 15 = .ok (.if_icmp .ne 14, 3) := by decide +kernel
theorem dX2_allowanceOf_18 : decode cX2_allowanceOf 18 = .ok (.aload_n 0, 1) := by decide +kernel
theorem dX2_allowanceOf_19 : decode cX2_allowanceOf 19 = .ok (.getfield 25, 3) := by decide +kernel
theorem dX2_allowanceOf_22 : decode cX2_allowanceOf 22 = .ok (.iconst 1, 1) := by decide +kernel
theorem dX2_allowanceOf_23 : decode cX2_allowanceOf 23 = .ok (.invokestatic 84, 3) := by decide +kernel
theorem dX2_allowanceOf_26 : decode cX2_allowanceOf 26 = .ok (.goto 4, 3) := by decide +kernel
theorem dX2_allowanceOf_29 : decode cX2_allowanceOf 29 = .ok (.iload_n 3, 1) := by decide +kernel
theorem dX2_allowanceOf_30 : decode cX2_allowanceOf 30 = .ok (.ireturn, 1) := by decide +kernel
set_option maxRecDepth 20000 in
theorem ggX2_creditsOf_X4_streetNight : GoodIn wsX2_creditsOf wsX4_streetNight := goodIn_r _ [5] (by decide +kernel) (by decide +kernel)
set_option maxRecDepth 20000 in
theorem gX2_creditsOf_X4_streetNight_n95 : GoodIn wsX2_creditsOf (wsX4_streetNight) := ggX2_creditsOf_X4_streetNight
set_option maxRecDepth 20000 in
theorem ggX2_creditsOf_X2_allowanceOf : GoodIn wsX2_creditsOf wsX2_allowanceOf := goodIn_r _ [10, 11, 12, 3, 4, 5, 13, 14, 15, 16, 17, 18, 19, 20, 21, 22, 23, 24, 25, 26, 27] (by decide +kernel) (by decide +kernel)
set_option maxRecDepth 20000 in
theorem gX2_creditsOf_X2_allowanceOf : GoodIn wsX2_creditsOf (wsV RX2 99 RX2 yX2_allowanceOf wsX2_allowanceOf) := goodIn_app (goodIn_of _ (by decide +kernel)) ggX2_creditsOf_X2_allowanceOf
set_option maxRecDepth 20000 in
theorem ggX2_creditsOf_X4_at : GoodIn wsX2_creditsOf wsX4_at := goodIn_r _ [14] (by decide +kernel) (by decide +kernel)
set_option maxRecDepth 20000 in
theorem gX2_creditsOf_X4_at_n84 : GoodIn wsX2_creditsOf (wsX4_at) := ggX2_creditsOf_X4_at
theorem dX2_creditsOf_0 : decode cX2_creditsOf 0 = .ok (.iload_n 1, 1) := by decide +kernel
theorem dX2_creditsOf_1 : decode cX2_creditsOf 1 = .ok (.iload_n 2, 1) := by decide +kernel
theorem dX2_creditsOf_2 : decode cX2_creditsOf 2 = .ok (.invokestatic 95, 3) := by decide +kernel
theorem dX2_creditsOf_5 : decode cX2_creditsOf 5 = .ok (.istore_n 3, 1) := by decide +kernel
theorem dX2_creditsOf_6 : decode cX2_creditsOf 6 = .ok (.aload_n 0, 1) := by decide +kernel
theorem dX2_creditsOf_7 : decode cX2_creditsOf 7 = .ok (.iload_n 1, 1) := by decide +kernel
theorem dX2_creditsOf_8 : decode cX2_creditsOf 8 = .ok (.iload_n 2, 1) := by decide +kernel
theorem dX2_creditsOf_9 : decode cX2_creditsOf 9 = .ok (.invokevirtual 99, 3) := by decide +kernel
theorem dX2_creditsOf_12 : decode cX2_creditsOf 12 = .ok (.aload_n 0, 1) := by decide +kernel
theorem dX2_creditsOf_13 : decode cX2_creditsOf 13 = .ok (.getfield 34, 3) := by decide +kernel
theorem dX2_creditsOf_16 : decode cX2_creditsOf 16 = .ok (.iload_n 3, 1) := by decide +kernel
theorem dX2_creditsOf_17 : decode cX2_creditsOf 17 = .ok (.invokestatic 84, 3) := by decide +kernel
theorem dX2_creditsOf_20 : decode cX2_creditsOf 20 = .ok (.iadd, 1) := by decide +kernel
theorem dX2_creditsOf_21 : decode cX2_creditsOf 21 = .ok (.aload_n 0, 1) := by decide +kernel
theorem dX2_creditsOf_22 : decode cX2_creditsOf 22 = .ok (.getfield 37, 3) := by decide +kernel
theorem dX2_creditsOf_25 : decode cX2_creditsOf 25 = .ok (.iload_n 3, 1) := by decide +kernel
theorem dX2_creditsOf_26 : decode cX2_creditsOf 26 = .ok (.invokestatic 84, 3) := by decide +kernel
theorem dX2_creditsOf_29 : decode cX2_creditsOf 29 = .ok (.isub, 1) := by decide +kernel
theorem dX2_creditsOf_30 : decode cX2_creditsOf 30 = .ok (.ireturn, 1) := by decide +kernel
set_option maxRecDepth 20000 in
theorem ggX2_useOf_X4_at : GoodIn wsX2_useOf wsX4_at := goodIn_r _ [5] (by decide +kernel) (by decide +kernel)
set_option maxRecDepth 20000 in
theorem gX2_useOf_X4_at_n84 : GoodIn wsX2_useOf (wsX4_at) := ggX2_useOf_X4_at
theorem dX2_useOf_0 : decode cX2_useOf 0 = .ok (.iload_n 2, 1) := by decide +kernel
theorem dX2_useOf_1 : decode cX2_useOf 1 = .ok (.bipush 10, 2) := by decide +kernel
theorem dX2_useOf_3 : decode cX2_useOf 3 = .ok (.irem, 1) := by decide +kernel
theorem dX2_useOf_4 : decode cX2_useOf 4 = .ok (.iload_n 2, 1) := by decide +kernel
theorem dX2_useOf_5 : decode cX2_useOf 5 = .ok (.bipush 10, 2) := by decide +kernel
theorem dX2_useOf_7 : decode cX2_useOf 7 = .ok (.idiv, 1) := by decide +kernel
theorem dX2_useOf_8 : decode cX2_useOf 8 = .ok (.isub, 1) := by decide +kernel
theorem dX2_useOf_9 : decode cX2_useOf 9 = .ok (.iconst 1, 1) := by decide +kernel
theorem dX2_useOf_10 : decode cX2_useOf 10 = .ok (.iadd, 1) := by decide +kernel
theorem dX2_useOf_11 : decode cX2_useOf 11 = .ok (.aload_n 0, 1) := by decide +kernel
theorem dX2_useOf_12 : decode cX2_useOf 12 = .ok (.getfield 21, 3) := by decide +kernel
theorem dX2_useOf_15 : decode cX2_useOf 15 = .ok (.aload_n 1, 1) := by decide +kernel
theorem dX2_useOf_16 : decode cX2_useOf 16 = .ok (.getfield 102, 3) := by decide +kernel
theorem dX2_useOf_19 : decode cX2_useOf 19 = .ok (.invokestatic 84, 3) := by decide +kernel
theorem dX2_useOf_22 : decode cX2_useOf 22 = .ok (.imul, 1) := by decide +kernel
theorem dX2_useOf_23 : decode cX2_useOf 23 = .ok (.ireturn, 1) := by decide +kernel
set_option maxRecDepth 20000 in
theorem ggX2_usedOf_X2_validAt : GoodIn wsX2_usedOf wsX2_validAt := goodIn_r _ [8, 1, 9, 27, 28, 29, 30, 31, 32, 33, 34, 35, 36, 37, 38, 39] (by decide +kernel) (by decide +kernel)
set_option maxRecDepth 20000 in
theorem gX2_usedOf_X2_validAt : GoodIn wsX2_usedOf (wsV RX2 105 RX2 yX2_validAt wsX2_validAt) := goodIn_app (goodIn_of _ (by decide +kernel)) ggX2_usedOf_X2_validAt
set_option maxRecDepth 20000 in
theorem ggX2_usedOf_X1_isOf : GoodIn wsX2_usedOf wsX1_isOf := goodIn_r _ [14, 15, 16, 17, 40, 41, 42, 43, 44, 45, 46, 47, 48, 49, 50, 51, 52, 53] (by decide +kernel) (by decide +kernel)
set_option maxRecDepth 20000 in
theorem gX2_usedOf_X1_isOf : GoodIn wsX2_usedOf (wsV RX2 109 RX1 yX1_isOf wsX1_isOf) := goodIn_app (goodIn_of _ (by decide +kernel)) ggX2_usedOf_X1_isOf
set_option maxRecDepth 20000 in
theorem ggX2_usedOf_X2_useOf : GoodIn wsX2_usedOf wsX2_useOf := goodIn_r _ [21, 22, 23, 24, 25, 26, 27, 28, 29, 30, 31, 32, 33, 34, 35, 36, 37, 38, 39, 47, 48, 49, 50, 51, 52, 53] (by decide +kernel) (by decide +kernel)
set_option maxRecDepth 20000 in
theorem gX2_usedOf_X2_useOf : GoodIn wsX2_usedOf (wsV RX2 120 RX2 yX2_useOf wsX2_useOf) := goodIn_app (goodIn_of _ (by decide +kernel)) ggX2_usedOf_X2_useOf
theorem dX2_usedOf_0 : decode cX2_usedOf 0 = .ok (.iconst 0, 1) := by decide +kernel
theorem dX2_usedOf_1 : decode cX2_usedOf 1 = .ok (.istore_n 3, 1) := by decide +kernel
theorem dX2_usedOf_2 : decode cX2_usedOf 2 = .ok (.iconst 0, 1) := by decide +kernel
theorem dX2_usedOf_3 : decode cX2_usedOf 3 = .ok (.istore 4, 2) := by decide +kernel
theorem dX2_usedOf_5 : decode cX2_usedOf 5 = .ok (.iload 4, 2) := by decide +kernel
theorem dX2_usedOf_7 : decode cX2_usedOf 7 = .ok (.aload_n 0, 1) := by decide +kernel
theorem dX2_usedOf_8 : decode cX2_usedOf 8 = .ok (.getfield 55, 3) := by decide +kernel
theorem dX2_usedOf_11 : decode cX2_usedOf 11 = .ok (.if_icmp .ge 49, 3) := by decide +kernel
theorem dX2_usedOf_14 : decode cX2_usedOf 14 = .ok (.aload_n 0, 1) := by decide +kernel
theorem dX2_usedOf_15 : decode cX2_usedOf 15 = .ok (.iload 4, 2) := by decide +kernel
theorem dX2_usedOf_17 : decode cX2_usedOf 17 = .ok (.invokevirtual 105, 3) := by decide +kernel
theorem dX2_usedOf_20 : decode cX2_usedOf 20 = .ok (.astore 5, 2) := by decide +kernel
theorem dX2_usedOf_22 : decode cX2_usedOf 22 = .ok (.aload 5, 2) := by decide +kernel
theorem dX2_usedOf_24 : decode cX2_usedOf 24 = .ok (.ifnull 30, 3) := by decide +kernel
theorem dX2_usedOf_27 : decode cX2_usedOf 27 = .ok (.aload 5, 2) := by decide +kernel
theorem dX2_usedOf_29 : decode cX2_usedOf 29 = .ok (.iload_n 1, 1) := by decide +kernel
theorem dX2_usedOf_30 : decode cX2_usedOf 30 = .ok (.iload_n 2, 1) := by decide +kernel
theorem dX2_usedOf_31 : decode cX2_usedOf 31 = .ok (.invokevirtual 109, 3) := by decide +kernel
theorem dX2_usedOf_34 : decode cX2_usedOf 34 = .ok (.ifCond .eq 20, 3) := by decide +kernel
theorem dX2_usedOf_37 : decode cX2_usedOf 37 = .ok (.iload_n 3, 1) := by decide +kernel
theorem dX2_usedOf_38 : decode cX2_usedOf 38 = .ok (.aload_n 0, 1) := by decide +kernel
theorem dX2_usedOf_39 : decode cX2_usedOf 39 = .ok (.aload 5, 2) := by decide +kernel
theorem dX2_usedOf_41 : decode cX2_usedOf 41 = .ok (.getfield 113, 3) := by decide +kernel
theorem dX2_usedOf_44 : decode cX2_usedOf 44 = .ok (.aload 5, 2) := by decide +kernel
theorem dX2_usedOf_46 : decode cX2_usedOf 46 = .ok (.getfield 117, 3) := by decide +kernel
theorem dX2_usedOf_49 : decode cX2_usedOf 49 = .ok (.invokevirtual 120, 3) := by decide +kernel
theorem dX2_usedOf_52 : decode cX2_usedOf 52 = .ok (.iadd, 1) := by decide +kernel
theorem dX2_usedOf_53 : decode cX2_usedOf 53 = .ok (.istore_n 3, 1) := by decide +kernel
theorem dX2_usedOf_54 : decode cX2_usedOf 54 = .ok (.iinc 4 1, 3) := by decide +kernel
theorem dX2_usedOf_57 : decode cX2_usedOf 57 = .ok (.goto (-52), 3) := by decide +kernel
theorem dX2_usedOf_60 : decode cX2_usedOf 60 = .ok (.iload_n 3, 1) := by decide +kernel
theorem dX2_usedOf_61 : decode cX2_usedOf 61 = .ok (.ireturn, 1) := by decide +kernel
set_option maxRecDepth 20000 in
theorem ggX2_freeOf_X2_creditsOf : GoodIn wsX2_freeOf wsX2_creditsOf := goodIn_r _ [5, 6, 7, 8, 9, 10, 11, 12, 13, 4, 14, 15, 16, 17, 18, 45, 46, 47, 48, 49, 50, 51, 52, 53, 54, 55, 56, 57] (by decide +kernel) (by decide +kernel)
set_option maxRecDepth 20000 in
theorem gX2_freeOf_X2_creditsOf : GoodIn wsX2_freeOf (wsV RX2 124 RX2 yX2_creditsOf wsX2_creditsOf) := goodIn_app (goodIn_of _ (by decide +kernel)) ggX2_freeOf_X2_creditsOf
set_option maxRecDepth 20000 in
theorem ggX2_freeOf_X2_usedOf : GoodIn wsX2_freeOf wsX2_usedOf := goodIn_r _ [22, 23, 24, 25, 26, 27, 28, 4, 29, 30, 31, 32, 33, 34, 35, 36, 37, 38, 39, 40, 41, 42, 43, 44, 17, 9, 18, 45, 46, 47, 48, 49, 50, 51, 52, 53, 54, 55, 56, 57, 58, 59, 60, 61, 62, 63, 64, 65, 66, 67, 68, 69, 70, 71] (by decide +kernel) (by decide +kernel)
set_option maxRecDepth 20000 in
theorem gX2_freeOf_X2_usedOf : GoodIn wsX2_freeOf (wsV RX2 127 RX2 yX2_usedOf wsX2_usedOf) := goodIn_app (goodIn_of _ (by decide +kernel)) ggX2_freeOf_X2_usedOf
theorem dX2_freeOf_0 : decode cX2_freeOf 0 = .ok (.aload_n 0, 1) := by decide +kernel
theorem dX2_freeOf_1 : decode cX2_freeOf 1 = .ok (.iload_n 1, 1) := by decide +kernel
theorem dX2_freeOf_2 : decode cX2_freeOf 2 = .ok (.iload_n 2, 1) := by decide +kernel
theorem dX2_freeOf_3 : decode cX2_freeOf 3 = .ok (.invokevirtual 124, 3) := by decide +kernel
theorem dX2_freeOf_6 : decode cX2_freeOf 6 = .ok (.aload_n 0, 1) := by decide +kernel
theorem dX2_freeOf_7 : decode cX2_freeOf 7 = .ok (.iload_n 1, 1) := by decide +kernel
theorem dX2_freeOf_8 : decode cX2_freeOf 8 = .ok (.iload_n 2, 1) := by decide +kernel
theorem dX2_freeOf_9 : decode cX2_freeOf 9 = .ok (.invokevirtual 127, 3) := by decide +kernel
theorem dX2_freeOf_12 : decode cX2_freeOf 12 = .ok (.isub, 1) := by decide +kernel
theorem dX2_freeOf_13 : decode cX2_freeOf 13 = .ok (.ireturn, 1) := by decide +kernel
set_option maxRecDepth 20000 in
theorem ggX2_usedByAll_X2_validAt : GoodIn wsX2_usedByAll wsX2_validAt := goodIn_r _ [8, 1, 9, 19, 20, 21, 22, 23, 24, 25, 26, 27, 28, 29, 30, 31] (by decide +kernel) (by decide +kernel)
set_option maxRecDepth 20000 in
theorem gX2_usedByAll_X2_validAt : GoodIn wsX2_usedByAll (wsV RX2 105 RX2 yX2_validAt wsX2_validAt) := goodIn_app (goodIn_of _ (by decide +kernel)) ggX2_usedByAll_X2_validAt
set_option maxRecDepth 20000 in
theorem ggX2_usedByAll_X2_useOf : GoodIn wsX2_usedByAll wsX2_useOf := goodIn_r _ [13, 14, 15, 16, 17, 18, 19, 20, 21, 22, 23, 24, 25, 26, 27, 28, 29, 30, 31, 39, 40, 41, 42, 43, 44, 45] (by decide +kernel) (by decide +kernel)
set_option maxRecDepth 20000 in
theorem gX2_usedByAll_X2_useOf : GoodIn wsX2_usedByAll (wsV RX2 120 RX2 yX2_useOf wsX2_useOf) := goodIn_app (goodIn_of _ (by decide +kernel)) ggX2_usedByAll_X2_useOf
theorem dX2_usedByAll_0 : decode cX2_usedByAll 0 = .ok (.iconst 0, 1) := by decide +kernel
theorem dX2_usedByAll_1 : decode cX2_usedByAll 1 = .ok (.istore_n 1, 1) := by decide +kernel
theorem dX2_usedByAll_2 : decode cX2_usedByAll 2 = .ok (.iconst 0, 1) := by decide +kernel
theorem dX2_usedByAll_3 : decode cX2_usedByAll 3 = .ok (.istore_n 2, 1) := by decide +kernel
theorem dX2_usedByAll_4 : decode cX2_usedByAll 4 = .ok (.iload_n 2, 1) := by decide +kernel
theorem dX2_usedByAll_5 : decode cX2_usedByAll 5 = .ok (.aload_n 0, 1) := by decide +kernel
theorem dX2_usedByAll_6 : decode cX2_usedByAll 6 = .ok (.getfield 55, 3) := by decide +kernel
theorem dX2_usedByAll_9 : decode cX2_usedByAll 9 = .ok (.if_icmp .ge 34, 3) := by decide +kernel
theorem dX2_usedByAll_12 : decode cX2_usedByAll 12 = .ok (.aload_n 0, 1) := by decide +kernel
theorem dX2_usedByAll_13 : decode cX2_usedByAll 13 = .ok (.iload_n 2, 1) := by decide +kernel
theorem dX2_usedByAll_14 : decode cX2_usedByAll 14 = .ok (.invokevirtual 105, 3) := by decide +kernel
theorem dX2_usedByAll_17 : decode cX2_usedByAll 17 = .ok (.astore_n 3, 1) := by decide +kernel
theorem dX2_usedByAll_18 : decode cX2_usedByAll 18 = .ok (.aload_n 3, 1) := by decide +kernel
theorem dX2_usedByAll_19 : decode cX2_usedByAll 19 = .ok (.ifnull 18, 3) := by decide +kernel
theorem dX2_usedByAll_22 : decode cX2_usedByAll 22 = .ok (.iload_n 1, 1) := by decide +kernel
theorem dX2_usedByAll_23 : decode cX2_usedByAll 23 = .ok (.aload_n 0, 1) := by decide +kernel
theorem dX2_usedByAll_24 : decode cX2_usedByAll 24 = .ok (.aload_n 3, 1) := by decide +kernel
theorem dX2_usedByAll_25 : decode cX2_usedByAll 25 = .ok (.getfield 113, 3) := by decide +kernel
theorem dX2_usedByAll_28 : decode cX2_usedByAll 28 = .ok (.aload_n 3, 1) := by decide +kernel
theorem dX2_usedByAll_29 : decode cX2_usedByAll 29 = .ok (.getfield 117, 3) := by decide +kernel
theorem dX2_usedByAll_32 : decode cX2_usedByAll 32 = .ok (.invokevirtual 120, 3) := by decide +kernel
theorem dX2_usedByAll_35 : decode cX2_usedByAll 35 = .ok (.iadd, 1) := by decide +kernel
theorem dX2_usedByAll_36 : decode cX2_usedByAll 36 = .ok (.istore_n 1, 1) := by decide +kernel
theorem dX2_usedByAll_37 : decode cX2_usedByAll 37 = .ok (.iinc 2 1, 3) := by decide +kernel
theorem dX2_usedByAll_40 : decode cX2_usedByAll 40 = .ok (.goto (-36), 3) := by decide +kernel
theorem dX2_usedByAll_43 : decode cX2_usedByAll 43 = .ok (.iload_n 1, 1) := by decide +kernel
theorem dX2_usedByAll_44 : decode cX2_usedByAll 44 = .ok (.ireturn, 1) := by decide +kernel
set_option maxRecDepth 20000 in
theorem ggX2_validOfCrane_X2_validAt : GoodIn wsX2_validOfCrane wsX2_validAt := goodIn_r _ [6, 1, 7, 15, 16, 17, 18, 19, 20, 21, 22, 23, 24, 25, 26, 27] (by decide +kernel) (by decide +kernel)
set_option maxRecDepth 20000 in
theorem gX2_validOfCrane_X2_validAt : GoodIn wsX2_validOfCrane (wsV RX2 105 RX2 yX2_validAt wsX2_validAt) := goodIn_app (goodIn_of _ (by decide +kernel)) ggX2_validOfCrane_X2_validAt
set_option maxRecDepth 20000 in
theorem ggX2_validOfCrane_X1_isFor : GoodIn wsX2_validOfCrane wsX1_isFor := goodIn_r _ [12, 13, 14, 28, 29, 30, 31, 32, 33, 34, 35, 36, 37, 38, 39, 40, 41] (by decide +kernel) (by decide +kernel)
set_option maxRecDepth 20000 in
theorem gX2_validOfCrane_X1_isFor : GoodIn wsX2_validOfCrane (wsV RX2 130 RX1 yX1_isFor wsX1_isFor) := goodIn_app (goodIn_of _ (by decide +kernel)) ggX2_validOfCrane_X1_isFor
theorem dX2_validOfCrane_0 : decode cX2_validOfCrane 0 = .ok (.iconst 0, 1) := by decide +kernel
theorem dX2_validOfCrane_1 : decode cX2_validOfCrane 1 = .ok (.istore_n 2, 1) := by decide +kernel
theorem dX2_validOfCrane_2 : decode cX2_validOfCrane 2 = .ok (.iconst 0, 1) := by decide +kernel
theorem dX2_validOfCrane_3 : decode cX2_validOfCrane 3 = .ok (.istore_n 3, 1) := by decide +kernel
theorem dX2_validOfCrane_4 : decode cX2_validOfCrane 4 = .ok (.iload_n 3, 1) := by decide +kernel
theorem dX2_validOfCrane_5 : decode cX2_validOfCrane 5 = .ok (.aload_n 0, 1) := by decide +kernel
theorem dX2_validOfCrane_6 : decode cX2_validOfCrane 6 = .ok (.getfield 55, 3) := by decide +kernel
theorem dX2_validOfCrane_9 : decode cX2_validOfCrane 9 = .ok (.if_icmp .ge 33, 3) := by decide +kernel
theorem dX2_validOfCrane_12 : decode cX2_validOfCrane 12 = .ok (.aload_n 0, 1) := by decide +kernel
theorem dX2_validOfCrane_13 : decode cX2_validOfCrane 13 = .ok (.iload_n 3, 1) := by decide +kernel
theorem dX2_validOfCrane_14 : decode cX2_validOfCrane 14 = .ok (.invokevirtual 105, 3) := by decide +kernel
theorem dX2_validOfCrane_17 : decode cX2_validOfCrane 17 = .ok (.astore 4, 2) := by decide +kernel
theorem dX2_validOfCrane_19 : decode cX2_validOfCrane 19 = .ok (.aload 4, 2) := by decide +kernel
theorem dX2_validOfCrane_21 : decode cX2_validOfCrane 21 = .ok (.ifnull 15, 3) := by decide +kernel
theorem dX2_validOfCrane_24 : decode cX2_validOfCrane 24 = .ok (.aload 4, 2) := by decide +kernel
theorem dX2_validOfCrane_26 : decode cX2_validOfCrane 26 = .ok (.aload_n 1, 1) := by decide +kernel
theorem dX2_validOfCrane_27 : decode cX2_validOfCrane 27 = .ok (.invokevirtual 130, 3) := by decide +kernel
theorem dX2_validOfCrane_30 : decode cX2_validOfCrane 30 = .ok (.ifCond .eq 6, 3) := by decide +kernel
theorem dX2_validOfCrane_33 : decode cX2_validOfCrane 33 = .ok (.iinc 2 1, 3) := by decide +kernel
theorem dX2_validOfCrane_36 : decode cX2_validOfCrane 36 = .ok (.iinc 3 1, 3) := by decide +kernel
theorem dX2_validOfCrane_39 : decode cX2_validOfCrane 39 = .ok (.goto (-35), 3) := by decide +kernel
theorem dX2_validOfCrane_42 : decode cX2_validOfCrane 42 = .ok (.iload_n 2, 1) := by decide +kernel
theorem dX2_validOfCrane_43 : decode cX2_validOfCrane 43 = .ok (.ireturn, 1) := by decide +kernel
set_option maxRecDepth 20000 in
theorem ggX2_validOfStreet_X2_validAt : GoodIn wsX2_validOfStreet wsX2_validAt := goodIn_r _ [6, 1, 7, 16, 17, 18, 19, 20, 21, 22, 23, 24, 25, 26, 27, 28] (by decide +kernel) (by decide +kernel)
set_option maxRecDepth 20000 in
theorem gX2_validOfStreet_X2_validAt : GoodIn wsX2_validOfStreet (wsV RX2 105 RX2 yX2_validAt wsX2_validAt) := goodIn_app (goodIn_of _ (by decide +kernel)) ggX2_validOfStreet_X2_validAt
set_option maxRecDepth 20000 in
theorem ggX2_validOfStreet_X1_isOf : GoodIn wsX2_validOfStreet wsX1_isOf := goodIn_r _ [12, 13, 14, 15, 29, 30, 31, 32, 33, 34, 35, 36, 37, 38, 39, 40, 41, 42] (by decide +kernel) (by decide +kernel)
set_option maxRecDepth 20000 in
theorem gX2_validOfStreet_X1_isOf : GoodIn wsX2_validOfStreet (wsV RX2 109 RX1 yX1_isOf wsX1_isOf) := goodIn_app (goodIn_of _ (by decide +kernel)) ggX2_validOfStreet_X1_isOf
theorem dX2_validOfStreet_0 : decode cX2_validOfStreet 0 = .ok (.iconst 0, 1) := by decide +kernel
theorem dX2_validOfStreet_1 : decode cX2_validOfStreet 1 = .ok (.istore_n 3, 1) := by decide +kernel
theorem dX2_validOfStreet_2 : decode cX2_validOfStreet 2 = .ok (.iconst 0, 1) := by decide +kernel
theorem dX2_validOfStreet_3 : decode cX2_validOfStreet 3 = .ok (.istore 4, 2) := by decide +kernel
theorem dX2_validOfStreet_5 : decode cX2_validOfStreet 5 = .ok (.iload 4, 2) := by decide +kernel
theorem dX2_validOfStreet_7 : decode cX2_validOfStreet 7 = .ok (.aload_n 0, 1) := by decide +kernel
theorem dX2_validOfStreet_8 : decode cX2_validOfStreet 8 = .ok (.getfield 55, 3) := by decide +kernel
theorem dX2_validOfStreet_11 : decode cX2_validOfStreet 11 = .ok (.if_icmp .ge 35, 3) := by decide +kernel
theorem dX2_validOfStreet_14 : decode cX2_validOfStreet 14 = .ok (.aload_n 0, 1) := by decide +kernel
theorem dX2_validOfStreet_15 : decode cX2_validOfStreet 15 = .ok (.iload 4, 2) := by decide +kernel
theorem dX2_validOfStreet_17 : decode cX2_validOfStreet 17 = .ok (.invokevirtual 105, 3) := by decide +kernel
theorem dX2_validOfStreet_20 : decode cX2_validOfStreet 20 = .ok (.astore 5, 2) := by decide +kernel
theorem dX2_validOfStreet_22 : decode cX2_validOfStreet 22 = .ok (.aload 5, 2) := by decide +kernel
theorem dX2_validOfStreet_24 : decode cX2_validOfStreet 24 = .ok (.ifnull 16, 3) := by decide +kernel
theorem dX2_validOfStreet_27 : decode cX2_validOfStreet 27 = .ok (.aload 5, 2) := by decide +kernel
theorem dX2_validOfStreet_29 : decode cX2_validOfStreet 29 = .ok (.iload_n 1, 1) := by decide +kernel
theorem dX2_validOfStreet_30 : decode cX2_validOfStreet 30 = .ok (.iload_n 2, 1) := by decide +kernel
theorem dX2_validOfStreet_31 : decode cX2_validOfStreet 31 = .ok (.invokevirtual 109, 3) := by decide +kernel
theorem dX2_validOfStreet_34 : decode cX2_validOfStreet 34 = .ok (.ifCond .eq 6, 3) := by decide +kernel
theorem dX2_validOfStreet_37 : decode cX2_validOfStreet 37 = .ok (.iinc 3 1, 3) := by decide +kernel
theorem dX2_validOfStreet_40 : decode cX2_validOfStreet 40 = .ok (.iinc 4 1, 3) := by decide +kernel
theorem dX2_validOfStreet_43 : decode cX2_validOfStreet 43 = .ok (.goto (-38), 3) := by decide +kernel
theorem dX2_validOfStreet_46 : decode cX2_validOfStreet 46 = .ok (.iload_n 3, 1) := by decide +kernel
theorem dX2_validOfStreet_47 : decode cX2_validOfStreet 47 = .ok (.ireturn, 1) := by decide +kernel
set_option maxRecDepth 20000 in
theorem ggX2_validAhead_X2_validAt : GoodIn wsX2_validAhead wsX2_validAt := goodIn_r _ [6, 1, 7, 16, 17, 18, 19, 20, 21, 22, 23, 24, 25, 26, 27, 28] (by decide +kernel) (by decide +kernel)
set_option maxRecDepth 20000 in
theorem gX2_validAhead_X2_validAt : GoodIn wsX2_validAhead (wsV RX2 105 RX2 yX2_validAt wsX2_validAt) := goodIn_app (goodIn_of _ (by decide +kernel)) ggX2_validAhead_X2_validAt
set_option maxRecDepth 20000 in
theorem ggX2_validAhead_X1_isAheadOf : GoodIn wsX2_validAhead wsX1_isAheadOf := goodIn_r _ [12, 13, 14, 15, 29, 30, 31, 32, 33, 34, 35] (by decide +kernel) (by decide +kernel)
set_option maxRecDepth 20000 in
theorem gX2_validAhead_X1_isAheadOf : GoodIn wsX2_validAhead (wsV RX2 134 RX1 yX1_isAheadOf wsX1_isAheadOf) := goodIn_app (goodIn_of _ (by decide +kernel)) ggX2_validAhead_X1_isAheadOf
theorem dX2_validAhead_0 : decode cX2_validAhead 0 = .ok (.iconst 0, 1) := by decide +kernel
theorem dX2_validAhead_1 : decode cX2_validAhead 1 = .ok (.istore_n 2, 1) := by decide +kernel
theorem dX2_validAhead_2 : decode cX2_validAhead 2 = .ok (.iconst 0, 1) := by decide +kernel
theorem dX2_validAhead_3 : decode cX2_validAhead 3 = .ok (.istore_n 3, 1) := by decide +kernel
theorem dX2_validAhead_4 : decode cX2_validAhead 4 = .ok (.iload_n 3, 1) := by decide +kernel
theorem dX2_validAhead_5 : decode cX2_validAhead 5 = .ok (.aload_n 0, 1) := by decide +kernel
theorem dX2_validAhead_6 : decode cX2_validAhead 6 = .ok (.getfield 55, 3) := by decide +kernel
theorem dX2_validAhead_9 : decode cX2_validAhead 9 = .ok (.if_icmp .ge 33, 3) := by decide +kernel
theorem dX2_validAhead_12 : decode cX2_validAhead 12 = .ok (.aload_n 0, 1) := by decide +kernel
theorem dX2_validAhead_13 : decode cX2_validAhead 13 = .ok (.iload_n 3, 1) := by decide +kernel
theorem dX2_validAhead_14 : decode cX2_validAhead 14 = .ok (.invokevirtual 105, 3) := by decide +kernel
theorem dX2_validAhead_17 : decode cX2_validAhead 17 = .ok (.astore 4, 2) := by decide +kernel
theorem dX2_validAhead_19 : decode cX2_validAhead 19 = .ok (.aload 4, 2) := by decide +kernel
theorem dX2_validAhead_21 : decode cX2_validAhead 21 = .ok (.ifnull 15, 3) := by decide +kernel
theorem dX2_validAhead_24 : decode cX2_validAhead 24 = .ok (.aload 4, 2) := by decide +kernel
theorem dX2_validAhead_26 : decode cX2_validAhead 26 = .ok (.aload_n 1, 1) := by decide +kernel
theorem dX2_validAhead_27 : decode cX2_validAhead 27 = .ok (.invokevirtual 134, 3) := by decide +kernel
theorem dX2_validAhead_30 : decode cX2_validAhead 30 = .ok (.ifCond .eq 6, 3) := by decide +kernel
theorem dX2_validAhead_33 : decode cX2_validAhead 33 = .ok (.iinc 2 1, 3) := by decide +kernel
theorem dX2_validAhead_36 : decode cX2_validAhead 36 = .ok (.iinc 3 1, 3) := by decide +kernel
theorem dX2_validAhead_39 : decode cX2_validAhead 39 = .ok (.goto (-35), 3) := by decide +kernel
theorem dX2_validAhead_42 : decode cX2_validAhead 42 = .ok (.iload_n 2, 1) := by decide +kernel
theorem dX2_validAhead_43 : decode cX2_validAhead 43 = .ok (.ireturn, 1) := by decide +kernel
set_option maxRecDepth 20000 in
theorem ggX2_permitsWith_X4_at : GoodIn wsX2_permitsWith wsX4_at := goodIn_r _ [5] (by decide +kernel) (by decide +kernel)
set_option maxRecDepth 20000 in
theorem gX2_permitsWith_X4_at_n84 : GoodIn wsX2_permitsWith (wsX4_at) := ggX2_permitsWith_X4_at
theorem dX2_permitsWith_0 : decode cX2_permitsWith 0 = .ok (.iconst 0, 1) := by decide +kernel
theorem dX2_permitsWith_1 : decode cX2_permitsWith 1 = .ok (.istore_n 2, 1) := by decide +kernel
theorem dX2_permitsWith_2 : decode cX2_permitsWith 2 = .ok (.iconst 0, 1) := by decide +kernel
theorem dX2_permitsWith_3 : decode cX2_permitsWith 3 = .ok (.istore_n 3, 1) := by decide +kernel
theorem dX2_permitsWith_4 : decode cX2_permitsWith 4 = .ok (.iload_n 3, 1) := by decide +kernel
theorem dX2_permitsWith_5 : decode cX2_permitsWith 5 = .ok (.aload_n 0, 1) := by decide +kernel
theorem dX2_permitsWith_6 : decode cX2_permitsWith 6 = .ok (.getfield 46, 3) := by decide +kernel
theorem dX2_permitsWith_9 : decode cX2_permitsWith 9 = .ok (.if_icmp .ge 24, 3) := by decide +kernel
theorem dX2_permitsWith_12 : decode cX2_permitsWith 12 = .ok (.aload_n 0, 1) := by decide +kernel
theorem dX2_permitsWith_13 : decode cX2_permitsWith 13 = .ok (.getfield 49, 3) := by decide +kernel
theorem dX2_permitsWith_16 : decode cX2_permitsWith 16 = .ok (.iload_n 3, 1) := by decide +kernel
theorem dX2_permitsWith_17 : decode cX2_permitsWith 17 = .ok (.invokestatic 84, 3) := by decide +kernel
theorem dX2_permitsWith_20 : decode cX2_permitsWith 20 = .ok (.iload_n 1, 1) := by decide +kernel
theorem dX2_permitsWith_21 : decode cX2_permitsWith 21 = .ok (.if_icmp .ne 6, 3) := by decide +kernel
theorem dX2_permitsWith_24 : decode cX2_permitsWith 24 = .ok (.iinc 2 1, 3) := by decide +kernel
theorem dX2_permitsWith_27 : decode cX2_permitsWith 27 = .ok (.iinc 3 1, 3) := by decide +kernel
theorem dX2_permitsWith_30 : decode cX2_permitsWith 30 = .ok (.goto (-26), 3) := by decide +kernel
theorem dX2_permitsWith_33 : decode cX2_permitsWith 33 = .ok (.iload_n 2, 1) := by decide +kernel
theorem dX2_permitsWith_34 : decode cX2_permitsWith 34 = .ok (.ireturn, 1) := by decide +kernel
set_option maxRecDepth 20000 in
theorem ggX2_shareAir_X1_isFor : GoodIn wsX2_shareAir wsX1_isFor := goodIn_r _ [13, 14, 15, 39, 40, 41, 42, 43, 44, 45, 32, 33, 34, 35, 36, 37, 38] (by decide +kernel) (by decide +kernel)
set_option maxRecDepth 20000 in
theorem gX2_shareAir_X1_isFor : GoodIn wsX2_shareAir (wsV RX2 130 RX1 yX1_isFor wsX1_isFor) := goodIn_app (goodIn_of _ (by decide +kernel)) ggX2_shareAir_X1_isFor
set_option maxRecDepth 20000 in
theorem ggX2_shareAir_X1_meets : GoodIn wsX2_shareAir wsX1_meets := goodIn_r _ [19, 20, 21, 22, 39, 40, 41, 42, 43, 44, 45] (by decide +kernel) (by decide +kernel)
set_option maxRecDepth 20000 in
theorem gX2_shareAir_X1_meets : GoodIn wsX2_shareAir (wsV RX2 138 RX1 yX1_meets wsX1_meets) := goodIn_app (goodIn_of _ (by decide +kernel)) ggX2_shareAir_X1_meets
set_option maxRecDepth 20000 in
theorem ggX2_shareAir_X4_at : GoodIn wsX2_shareAir wsX4_at := goodIn_r _ [25] (by decide +kernel) (by decide +kernel)
set_option maxRecDepth 20000 in
theorem gX2_shareAir_X4_at_n84 : GoodIn wsX2_shareAir (wsX4_at) := ggX2_shareAir_X4_at
set_option maxRecDepth 20000 in
theorem ggX2_shareAir_X0_airOf : GoodIn wsX2_shareAir wsX0_airOf := goodIn_r _ [30, 31, 32, 33, 34, 35, 36, 37, 38] (by decide +kernel) (by decide +kernel)
set_option maxRecDepth 20000 in
theorem gX2_shareAir_X0_airOf : GoodIn wsX2_shareAir (wsV RX2 147 RX0 yX0_airOf wsX0_airOf) := goodIn_app (goodIn_of _ (by decide +kernel)) ggX2_shareAir_X0_airOf
theorem dX2_shareAir_0 : decode cX2_shareAir 0 = .ok (.aload 5, 2) := by decide +kernel
theorem dX2_shareAir_2 : decode cX2_shareAir 2 = .ok (.aload_n 1, 1) := by decide +kernel
theorem dX2_shareAir_3 : decode cX2_shareAir 3 = .ok (.invokevirtual 130, 3) := by decide +kernel
theorem dX2_shareAir_6 : decode cX2_shareAir 6 = .ok (.ifCond .ne 13, 3) := by decide +kernel
theorem dX2_shareAir_9 : decode cX2_shareAir 9 = .ok (.aload 5, 2) := by decide +kernel
theorem dX2_shareAir_11 : decode cX2_shareAir 11 = .ok (.iload_n 2, 1) := by decide +kernel
theorem dX2_shareAir_12 : decode cX2_shareAir 12 = .ok (.iload_n 3, 1) := by decide +kernel
theorem dX2_shareAir_13 : decode cX2_shareAir 13 = .ok (.invokevirtual 138, 3) := by decide +kernel
theorem dX2_shareAir_16 : decode cX2_shareAir 16 = .ok (.ifCond .ne 5, 3) := by decide +kernel
theorem dX2_shareAir_19 : decode cX2_shareAir 19 = .ok (.iconst 0, 1) := by decide +kernel
theorem dX2_shareAir_20 : decode cX2_shareAir 20 = .ok (.ireturn, 1) := by decide +kernel
theorem dX2_shareAir_21 : decode cX2_shareAir 21 = .ok (.aload_n 1, 1) := by decide +kernel
theorem dX2_shareAir_22 : decode cX2_shareAir 22 = .ok (.getfield 88, 3) := by decide +kernel
theorem dX2_shareAir_25 : decode cX2_shareAir 25 = .ok (.aload 5, 2) := by decide +kernel
theorem dX2_shareAir_27 : decode cX2_shareAir 27 = .ok (.getfield 113, 3) := by decide +kernel
theorem dX2_shareAir_30 : decode cX2_shareAir 30 = .ok (.getfield 88, 3) := by decide +kernel
theorem dX2_shareAir_33 : decode cX2_shareAir 33 = .ok (.isub, 1) := by decide +kernel
theorem dX2_shareAir_34 : decode cX2_shareAir 34 = .ok (.invokestatic 141, 3) := by decide +kernel
theorem dX2_shareAir_37 : decode cX2_shareAir 37 = .ok (.istore 6, 2) := by decide +kernel
theorem dX2_shareAir_39 : decode cX2_shareAir 39 = .ok (.iload 6, 2) := by decide +kernel
theorem dX2_shareAir_41 : decode cX2_shareAir 41 = .ok (.aload_n 0, 1) := by decide +kernel
theorem dX2_shareAir_42 : decode cX2_shareAir 42 = .ok (.getfield 25, 3) := by decide +kernel
theorem dX2_shareAir_45 : decode cX2_shareAir 45 = .ok (.iconst 2, 1) := by decide +kernel
theorem dX2_shareAir_46 : decode cX2_shareAir 46 = .ok (.invokestatic 84, 3) := by decide +kernel
theorem dX2_shareAir_49 : decode cX2_shareAir 49 = .ok (.if_icmp .lt 5, 3) := by decide +kernel
theorem dX2_shareAir_52 : decode cX2_shareAir 52 = .ok (.iconst 0, 1) := by decide +kernel
theorem dX2_shareAir_53 : decode cX2_shareAir 53 = .ok (.ireturn, 1) := by decide +kernel
theorem dX2_shareAir_54 : decode cX2_shareAir 54 = .ok (.iconst 0, 1) := by decide +kernel
theorem dX2_shareAir_55 : decode cX2_shareAir 55 = .ok (.istore 7, 2) := by decide +kernel
theorem dX2_shareAir_57 : decode cX2_shareAir 57 = .ok (.iload 7, 2) := by decide +kernel
theorem dX2_shareAir_59 : decode cX2_shareAir 59 = .ok (.iconst 4, 1) := by decide +kernel
theorem dX2_shareAir_60 : decode cX2_shareAir 60 = .ok (.if_icmp .ge 40, 3) := by decide +kernel
theorem dX2_shareAir_63 : decode cX2_shareAir 63 = .ok (.aload_n 1, 1) := by decide +kernel
theorem dX2_shareAir_64 : decode cX2_shareAir 64 = .ok (.iload 4, 2) := by decide +kernel
theorem dX2_shareAir_66 : decode cX2_shareAir 66 = .ok (.iload 7, 2) := by decide +kernel
theorem dX2_shareAir_68 : decode cX2_shareAir 68 = .ok (.invokevirtual 147, 3) := by decide +kernel
theorem dX2_shareAir_71 : decode cX2_shareAir 71 = .ok (.aload 5, 2) := by decide +kernel
theorem dX2_shareAir_73 : decode cX2_shareAir 73 = .ok (.getfield 113, 3) := by decide +kernel
theorem dX2_shareAir_76 : decode cX2_shareAir 76 = .ok (.aload 5, 2) := by decide +kernel
theorem dX2_shareAir_78 : decode cX2_shareAir 78 = .ok (.getfield 151, 3) := by decide +kernel
theorem dX2_shareAir_81 : decode cX2_shareAir 81 = .ok (.iload 7, 2) := by decide +kernel
theorem dX2_shareAir_83 : decode cX2_shareAir 83 = .ok (.invokevirtual 147, 3) := by decide +kernel
theorem dX2_shareAir_86 : decode cX2_shareAir 86 = .ok (.land, 1) := by decide +kernel
theorem dX2_shareAir_87 : decode cX2_shareAir 87 = .ok (.lconst 0, 1) := by decide +kernel
theorem dX2_shareAir_88 : decode cX2_shareAir 88 = .ok (.lcmp, 1) := by decide +kernel
theorem dX2_shareAir_89 : decode cX2_shareAir 89 = .ok (.ifCond .eq 5, 3) := by decide +kernel
theorem dX2_shareAir_92 : decode cX2_shareAir 92 = .ok (.iconst 1, 1) := by decide +kernel
theorem dX2_shareAir_93 : decode cX2_shareAir 93 = .ok (.ireturn, 1) := by decide +kernel
theorem dX2_shareAir_94 : decode cX2_shareAir 94 = .ok (.iinc 7 1, 3) := by decide +kernel
theorem dX2_shareAir_97 : decode cX2_shareAir 97 = .ok (.goto (-40), 3) := by decide +kernel
theorem dX2_shareAir_100 : decode cX2_shareAir 100 = .ok (.iconst 0, 1) := by decide +kernel
theorem dX2_shareAir_101 : decode cX2_shareAir 101 = .ok (.ireturn, 1) := by decide +kernel
set_option maxRecDepth 20000 in
theorem ggX2_lowestSharing_X2_validAt : GoodIn wsX2_lowestSharing wsX2_validAt := goodIn_r _ [7, 1, 8, 44, 45, 46, 47, 48, 49, 50, 51, 52, 53, 54, 55, 56] (by decide +kernel) (by decide +kernel)
set_option maxRecDepth 20000 in
theorem gX2_lowestSharing_X2_validAt : GoodIn wsX2_lowestSharing (wsV RX2 105 RX2 yX2_validAt wsX2_validAt) := goodIn_app (goodIn_of _ (by decide +kernel)) ggX2_lowestSharing_X2_validAt
set_option maxRecDepth 20000 in
theorem ggX2_lowestSharing_X2_shareAir : GoodIn wsX2_lowestSharing wsX2_shareAir := goodIn_r _ [12, 13, 14, 15, 16, 17, 18, 19, 20, 21, 22, 23, 24, 25, 26, 27, 28, 29, 30, 31, 32, 33, 34, 35, 36, 37, 38, 39, 40, 41, 42, 43, 64, 65, 66, 67, 68, 69, 70, 57, 58, 59, 60, 61, 62, 63, 44, 45, 46, 47, 48, 49, 50, 51, 52, 53, 54, 55, 56] (by decide +kernel) (by decide +kernel)
set_option maxRecDepth 20000 in
theorem gX2_lowestSharing_X2_shareAir : GoodIn wsX2_lowestSharing (wsV RX2 154 RX2 yX2_shareAir wsX2_shareAir) := goodIn_app (goodIn_of _ (by decide +kernel)) ggX2_lowestSharing_X2_shareAir
theorem dX2_lowestSharing_0 : decode cX2_lowestSharing 0 = .ok (.iconst 0, 1) := by decide +kernel
theorem dX2_lowestSharing_1 : decode cX2_lowestSharing 1 = .ok (.istore 5, 2) := by decide +kernel
theorem dX2_lowestSharing_3 : decode cX2_lowestSharing 3 = .ok (.iload 5, 2) := by decide +kernel
theorem dX2_lowestSharing_5 : decode cX2_lowestSharing 5 = .ok (.aload_n 0, 1) := by decide +kernel
theorem dX2_lowestSharing_6 : decode cX2_lowestSharing 6 = .ok (.getfield 55, 3) := by decide +kernel
theorem dX2_lowestSharing_9 : decode cX2_lowestSharing 9 = .ok (.if_icmp .ge 42, 3) := by decide +kernel
theorem dX2_lowestSharing_12 : decode cX2_lowestSharing 12 = .ok (.aload_n 0, 1) := by decide +kernel
theorem dX2_lowestSharing_13 : decode cX2_lowestSharing 13 = .ok (.iload 5, 2) := by decide +kernel
theorem dX2_lowestSharing_15 : decode cX2_lowestSharing 15 = .ok (.invokevirtual 105, 3) := by decide +kernel
theorem dX2_lowestSharing_18 : decode cX2_lowestSharing 18 = .ok (.astore 6, 2) := by decide +kernel
theorem dX2_lowestSharing_20 : decode cX2_lowestSharing 20 = .ok (.aload 6, 2) := by decide +kernel
theorem dX2_lowestSharing_22 : decode cX2_lowestSharing 22 = .ok (.ifnull 23, 3) := by decide +kernel
theorem dX2_lowestSharing_25 : decode cX2_lowestSharing 25 = .ok (.aload_n 0, 1) := by decide +kernel
theorem dX2_lowestSharing_26 : decode cX2_lowestSharing 26 = .ok (.aload_n 1, 1) := by decide +kernel
theorem dX2_lowestSharing_27 : decode cX2_lowestSharing 27 = .ok (.iload_n 2, 1) := by decide +kernel
theorem dX2_lowestSharing_28 : decode cX2_lowestSharing 28 = .ok (.iload_n 3, 1) := by decide +kernel
theorem dX2_lowestSharing_29 : decode cX2_lowestSharing 29 = .ok (.iload 4, 2) := by decide +kernel
theorem dX2_lowestSharing_31 : decode cX2_lowestSharing 31 = .ok (.aload 6, 2) := by decide +kernel
theorem dX2_lowestSharing_33 : decode cX2_lowestSharing 33 = .ok (.invokevirtual 154, 3) := by decide +kernel
theorem dX2_lowestSharing_36 : decode cX2_lowestSharing 36 = .ok (.ifCond .eq 9, 3) := by decide +kernel
theorem dX2_lowestSharing_39 : decode cX2_lowestSharing 39 = .ok (.aload 6, 2) := by decide +kernel
theorem dX2_lowestSharing_41 : decode cX2_lowestSharing 41 = .ok (.getfield 158, 3) := by decide +kernel
theorem dX2_lowestSharing_44 : decode cX2_lowestSharing 44 = .ok (.ireturn, 1) := by decide +kernel
theorem dX2_lowestSharing_45 : decode cX2_lowestSharing 45 = .ok (.iinc 5 1, 3) := by decide +kernel
theorem dX2_lowestSharing_48 : decode cX2_lowestSharing 48 = .ok (.goto (-45), 3) := by decide +kernel
theorem dX2_lowestSharing_51 : decode cX2_lowestSharing 51 = .ok (.iconst (-1), 1) := by decide +kernel
theorem dX2_lowestSharing_52 : decode cX2_lowestSharing 52 = .ok (.ireturn, 1) := by decide +kernel
set_option maxRecDepth 20000 in
theorem ggX2_sharingPairs_X2_validAt : GoodIn wsX2_sharingPairs wsX2_validAt := goodIn_r _ [10, 1, 11, 45, 46, 47, 48, 49, 50, 51, 52, 53, 54, 55, 56, 57] (by decide +kernel) (by decide +kernel)
set_option maxRecDepth 20000 in
theorem gX2_sharingPairs_X2_validAt : GoodIn wsX2_sharingPairs (wsV RX2 105 RX2 yX2_validAt wsX2_validAt) := goodIn_app (goodIn_of _ (by decide +kernel)) ggX2_sharingPairs_X2_validAt
set_option maxRecDepth 20000 in
theorem ggX2_sharingPairs_X2_shareAir : GoodIn wsX2_sharingPairs wsX2_shareAir := goodIn_r _ [15, 16, 2, 17, 18, 19, 20, 21, 5, 22, 23, 24, 25, 26, 27, 28, 29, 30, 31, 32, 33, 34, 35, 36, 37, 38, 39, 40, 41, 42, 43, 44, 65, 66, 67, 68, 69, 70, 71, 58, 59, 60, 61, 62, 63, 64, 45, 46, 47, 48, 49, 50, 51, 52, 53, 54, 55, 56, 57] (by decide +kernel) (by decide +kernel)
set_option maxRecDepth 20000 in
theorem gX2_sharingPairs_X2_shareAir : GoodIn wsX2_sharingPairs (wsV RX2 154 RX2 yX2_shareAir wsX2_shareAir) := goodIn_app (goodIn_of _ (by decide +kernel)) ggX2_sharingPairs_X2_shareAir
theorem dX2_sharingPairs_0 : decode cX2_sharingPairs 0 = .ok (.iconst 0, 1) := by decide +kernel
theorem dX2_sharingPairs_1 : decode cX2_sharingPairs 1 = .ok (.istore_n 1, 1) := by decide +kernel
theorem dX2_sharingPairs_2 : decode cX2_sharingPairs 2 = .ok (.iconst 0, 1) := by decide +kernel
theorem dX2_sharingPairs_3 : decode cX2_sharingPairs 3 = .ok (.istore_n 2, 1) := by decide +kernel
theorem dX2_sharingPairs_4 : decode cX2_sharingPairs 4 = .ok (.iload_n 2, 1) := by decide +kernel
theorem dX2_sharingPairs_5 : decode cX2_sharingPairs 5 = .ok (.aload_n 0, 1) := by decide +kernel
theorem dX2_sharingPairs_6 : decode cX2_sharingPairs 6 = .ok (.getfield 55, 3) := by decide +kernel
theorem dX2_sharingPairs_9 : decode cX2_sharingPairs 9 = .ok (.if_icmp .ge 80, 3) := by decide +kernel
theorem dX2_sharingPairs_12 : decode cX2_sharingPairs 12 = .ok (.aload_n 0, 1) := by decide +kernel
theorem dX2_sharingPairs_13 : decode cX2_sharingPairs 13 = .ok (.iload_n 2, 1) := by decide +kernel
theorem dX2_sharingPairs_14 : decode cX2_sharingPairs 14 = .ok (.invokevirtual 105, 3) := by decide +kernel
theorem dX2_sharingPairs_17 : decode cX2_sharingPairs 17 = .ok (.astore_n 3, 1) := by decide +kernel
theorem dX2_sharingPairs_18 : decode cX2_sharingPairs 18 = .ok (.iload_n 2, 1) := by decide +kernel
theorem dX2_sharingPairs_19 : decode cX2_sharingPairs 19 = .ok (.iconst 1, 1) := by decide +kernel
theorem dX2_sharingPairs_20 : decode cX2_sharingPairs 20 = .ok (.iadd, 1) := by decide +kernel
theorem dX2_sharingPairs_21 : decode cX2_sharingPairs 21 = .ok (.istore 4, 2) := by decide +kernel
theorem dX2_sharingPairs_23 : decode cX2_sharingPairs 23 = .ok (.aload_n 3, 1) := by decide +kernel
theorem dX2_sharingPairs_24 : decode cX2_sharingPairs 24 = .ok (.ifnull 59, 3) := by decide +kernel
theorem dX2_sharingPairs_27 : decode cX2_sharingPairs 27 = .ok (.iload 4, 2) := by decide +kernel
theorem dX2_sharingPairs_29 : decode cX2_sharingPairs 29 = .ok (.aload_n 0, 1) := by decide +kernel
theorem dX2_sharingPairs_30 : decode cX2_sharingPairs 30 = .ok (.getfield 55, 3) := by decide +kernel
theorem dX2_sharingPairs_33 : decode cX2_sharingPairs 33 = .ok (.if_icmp .ge 50, 3) := by decide +kernel
theorem dX2_sharingPairs_36 : decode cX2_sharingPairs 36 = .ok (.aload_n 0, 1) := by decide +kernel
theorem dX2_sharingPairs_37 : decode cX2_sharingPairs 37 = .ok (.iload 4, 2) := by decide +kernel
theorem dX2_sharingPairs_39 : decode cX2_sharingPairs 39 = .ok (.invokevirtual 105, 3) := by decide +kernel
theorem dX2_sharingPairs_42 : decode cX2_sharingPairs 42 = .ok (.astore 5, 2) := by decide +kernel
theorem dX2_sharingPairs_44 : decode cX2_sharingPairs 44 = .ok (.aload 5, 2) := by decide +kernel
theorem dX2_sharingPairs_46 : decode cX2_sharingPairs 46 = .ok (.ifnull 31, 3) := by decide +kernel
theorem dX2_sharingPairs_49 : decode cX2_sharingPairs 49 = .ok (.aload_n 0, 1) := by decide +kernel
theorem dX2_sharingPairs_50 : decode cX2_sharingPairs 50 = .ok (.aload_n 3, 1) := by decide +kernel
theorem dX2_sharingPairs_51 : decode cX2_sharingPairs 51 = .ok (.getfield 113, 3) := by decide +kernel
theorem dX2_sharingPairs_54 : decode cX2_sharingPairs 54 = .ok (.aload_n 3, 1) := by decide +kernel
theorem dX2_sharingPairs_55 : decode cX2_sharingPairs 55 = .ok (.getfield 159, 3) := by decide +kernel
theorem dX2_sharingPairs_58 : decode cX2_sharingPairs 58 = .ok (.aload_n 3, 1) := by decide +kernel
theorem dX2_sharingPairs_59 : decode cX2_sharingPairs 59 = .ok (.getfield 117, 3) := by decide +kernel
theorem dX2_sharingPairs_62 : decode cX2_sharingPairs 62 = .ok (.aload_n 3, 1) := by decide +kernel
theorem dX2_sharingPairs_63 : decode cX2_sharingPairs 63 = .ok (.getfield 151, 3) := by decide +kernel
theorem dX2_sharingPairs_66 : decode cX2_sharingPairs 66 = .ok (.aload 5, 2) := by decide +kernel
theorem dX2_sharingPairs_68 : decode cX2_sharingPairs 68 = .ok (.invokevirtual 154, 3) := by decide +kernel
theorem dX2_sharingPairs_71 : decode cX2_sharingPairs 71 = .ok (.ifCond .eq 6, 3) := by decide +kernel
theorem dX2_sharingPairs_74 : decode cX2_sharingPairs 74 = .ok (.iinc 1 1, 3) := by decide +kernel
theorem dX2_sharingPairs_77 : decode cX2_sharingPairs 77 = .ok (.iinc 4 1, 3) := by decide +kernel
theorem dX2_sharingPairs_80 : decode cX2_sharingPairs 80 = .ok (.goto (-57), 3) := by decide +kernel
theorem dX2_sharingPairs_83 : decode cX2_sharingPairs 83 = .ok (.iinc 2 1, 3) := by decide +kernel
theorem dX2_sharingPairs_86 : decode cX2_sharingPairs 86 = .ok (.goto (-82), 3) := by decide +kernel
theorem dX2_sharingPairs_89 : decode cX2_sharingPairs 89 = .ok (.iload_n 1, 1) := by decide +kernel
theorem dX2_sharingPairs_90 : decode cX2_sharingPairs 90 = .ok (.ireturn, 1) := by decide +kernel
set_option maxRecDepth 20000 in
theorem ggX2_isBusy_X2_validAt : GoodIn wsX2_isBusy wsX2_validAt := goodIn_r _ [6, 1, 7, 22, 23, 24, 25, 26, 27, 28, 29, 30, 31, 32, 33, 34] (by decide +kernel) (by decide +kernel)
set_option maxRecDepth 20000 in
theorem gX2_isBusy_X2_validAt : GoodIn wsX2_isBusy (wsV RX2 105 RX2 yX2_validAt wsX2_validAt) := goodIn_app (goodIn_of _ (by decide +kernel)) ggX2_isBusy_X2_validAt
set_option maxRecDepth 20000 in
theorem ggX2_isBusy_X1_isFor : GoodIn wsX2_isBusy wsX1_isFor := goodIn_r _ [12, 13, 14, 35, 36, 37, 38, 39, 40, 41, 42, 43, 44, 45, 46, 47, 48] (by decide +kernel) (by decide +kernel)
set_option maxRecDepth 20000 in
theorem gX2_isBusy_X1_isFor : GoodIn wsX2_isBusy (wsV RX2 130 RX1 yX1_isFor wsX1_isFor) := goodIn_app (goodIn_of _ (by decide +kernel)) ggX2_isBusy_X1_isFor
set_option maxRecDepth 20000 in
theorem ggX2_isBusy_X1_meets : GoodIn wsX2_isBusy wsX1_meets := goodIn_r _ [18, 19, 20, 21, 35, 36, 37, 38, 39, 40, 41] (by decide +kernel) (by decide +kernel)
set_option maxRecDepth 20000 in
theorem gX2_isBusy_X1_meets : GoodIn wsX2_isBusy (wsV RX2 138 RX1 yX1_meets wsX1_meets) := goodIn_app (goodIn_of _ (by decide +kernel)) ggX2_isBusy_X1_meets
theorem dX2_isBusy_0 : decode cX2_isBusy 0 = .ok (.iconst 0, 1) := by decide +kernel
theorem dX2_isBusy_1 : decode cX2_isBusy 1 = .ok (.istore 4, 2) := by decide +kernel
theorem dX2_isBusy_3 : decode cX2_isBusy 3 = .ok (.iload 4, 2) := by decide +kernel
theorem dX2_isBusy_5 : decode cX2_isBusy 5 = .ok (.aload_n 0, 1) := by decide +kernel
theorem dX2_isBusy_6 : decode cX2_isBusy 6 = .ok (.getfield 55, 3) := by decide +kernel
theorem dX2_isBusy_9 : decode cX2_isBusy 9 = .ok (.if_icmp .ge 43, 3) := by decide +kernel
theorem dX2_isBusy_12 : decode cX2_isBusy 12 = .ok (.aload_n 0, 1) := by decide +kernel
theorem dX2_isBusy_13 : decode cX2_isBusy 13 = .ok (.iload 4, 2) := by decide +kernel
theorem dX2_isBusy_15 : decode cX2_isBusy 15 = .ok (.invokevirtual 105, 3) := by decide +kernel
theorem dX2_isBusy_18 : decode cX2_isBusy 18 = .ok (.astore 5, 2) := by decide +kernel
theorem dX2_isBusy_20 : decode cX2_isBusy 20 = .ok (.aload 5, 2) := by decide +kernel
theorem dX2_isBusy_22 : decode cX2_isBusy 22 = .ok (.ifnull 24, 3) := by decide +kernel
theorem dX2_isBusy_25 : decode cX2_isBusy 25 = .ok (.aload 5, 2) := by decide +kernel
theorem dX2_isBusy_27 : decode cX2_isBusy 27 = .ok (.aload_n 1, 1) := by decide +kernel
theorem dX2_isBusy_28 : decode cX2_isBusy 28 = .ok (.invokevirtual 130, 3) := by decide +kernel
theorem dX2_isBusy_31 : decode cX2_isBusy 31 = .ok (.ifCond .eq 15, 3) := by decide +kernel
theorem dX2_isBusy_34 : decode cX2_isBusy 34 = .ok (.aload 5, 2) := by decide +kernel
theorem dX2_isBusy_36 : decode cX2_isBusy 36 = .ok (.iload_n 2, 1) := by decide +kernel
theorem dX2_isBusy_37 : decode cX2_isBusy 37 = .ok (.iload_n 3, 1) := by decide +kernel
theorem dX2_isBusy_38 : decode cX2_isBusy 38 = .ok (.invokevirtual 138, 3) := by decide +kernel
theorem dX2_isBusy_41 : decode cX2_isBusy 41 = .ok (.ifCond .eq 5, 3) := by decide +kernel
theorem dX2_isBusy_44 : decode cX2_isBusy 44 = .ok (.iconst 1, 1) := by decide +kernel
theorem dX2_isBusy_45 : decode cX2_isBusy 45 = .ok (.ireturn, 1) := by decide +kernel
theorem dX2_isBusy_46 : decode cX2_isBusy 46 = .ok (.iinc 4 1, 3) := by decide +kernel
theorem dX2_isBusy_49 : decode cX2_isBusy 49 = .ok (.goto (-46), 3) := by decide +kernel
theorem dX2_isBusy_52 : decode cX2_isBusy 52 = .ok (.iconst 0, 1) := by decide +kernel
theorem dX2_isBusy_53 : decode cX2_isBusy 53 = .ok (.ireturn, 1) := by decide +kernel
set_option maxRecDepth 20000 in
theorem ggX2_refusalOf_X2_isBusy : GoodIn wsX2_refusalOf wsX2_isBusy := goodIn_r _ [6, 7, 8, 9, 10, 5, 11, 12, 13, 14, 15, 16, 17, 18, 19, 20, 21, 22, 23, 24, 25, 26, 98, 99, 100, 101, 102, 103, 104, 105, 106, 107, 108, 109, 110, 111, 112, 113, 114, 115, 116, 117, 91, 92, 93, 94, 95, 96, 97] (by decide +kernel) (by decide +kernel)
set_option maxRecDepth 20000 in
theorem gX2_refusalOf_X2_isBusy : GoodIn wsX2_refusalOf (wsV RX2 162 RX2 yX2_isBusy wsX2_isBusy) := goodIn_app (goodIn_of _ (by decide +kernel)) ggX2_refusalOf_X2_isBusy
set_option maxRecDepth 20000 in
theorem ggX2_refusalOf_X2_mustStop : GoodIn wsX2_refusalOf wsX2_mustStop := goodIn_r _ [30, 31, 32, 33, 34, 35, 36, 37, 5, 38, 39, 40, 98, 99, 100, 101, 102, 103, 104, 105, 106, 107, 108, 109, 110, 91, 92, 93, 94, 95, 96, 97] (by decide +kernel) (by decide +kernel)
set_option maxRecDepth 20000 in
theorem gX2_refusalOf_X2_mustStop : GoodIn wsX2_refusalOf (wsV RX2 166 RX2 yX2_mustStop wsX2_mustStop) := goodIn_app (goodIn_of _ (by decide +kernel)) ggX2_refusalOf_X2_mustStop
set_option maxRecDepth 20000 in
theorem ggX2_refusalOf_X2_lowestSharing : GoodIn wsX2_refusalOf wsX2_lowestSharing := goodIn_r _ [44, 7, 45, 8, 9, 10, 5, 11, 12, 46, 47, 48, 49, 40, 50, 51, 52, 53, 54, 39, 55, 13, 14, 15, 16, 17, 18, 19, 20, 21, 22, 23, 24, 25, 26, 32, 33, 34, 56, 57, 58, 59, 60, 61, 98, 99, 100, 101, 102, 103, 104, 105, 106, 107, 108, 109, 110, 111, 112, 113, 114, 115, 116, 117, 91, 92, 93, 94, 95, 96, 97] (by decide +kernel) (by decide +kernel)
set_option maxRecDepth 20000 in
theorem gX2_refusalOf_X2_lowestSharing : GoodIn wsX2_refusalOf (wsV RX2 170 RX2 yX2_lowestSharing wsX2_lowestSharing) := goodIn_app (goodIn_of _ (by decide +kernel)) ggX2_refusalOf_X2_lowestSharing
set_option maxRecDepth 20000 in
theorem ggX2_refusalOf_X2_usedOf : GoodIn wsX2_refusalOf wsX2_usedOf := goodIn_r _ [65, 7, 50, 66, 8, 9, 10, 5, 11, 12, 67, 68, 69, 16, 70, 18, 71, 26, 72, 73, 74, 75, 76, 77, 32, 33, 34, 98, 99, 100, 101, 102, 103, 104, 105, 106, 107, 108, 109, 110, 111, 112, 113, 114, 115, 116, 117, 91, 92, 93, 94, 95, 96, 97] (by decide +kernel) (by decide +kernel)
set_option maxRecDepth 20000 in
theorem gX2_refusalOf_X2_usedOf : GoodIn wsX2_refusalOf (wsV RX2 127 RX2 yX2_usedOf wsX2_usedOf) := goodIn_app (goodIn_of _ (by decide +kernel)) ggX2_refusalOf_X2_usedOf
set_option maxRecDepth 20000 in
theorem ggX2_refusalOf_X2_useOf : GoodIn wsX2_refusalOf wsX2_useOf := goodIn_r _ [75, 76, 77, 32, 33, 34, 98, 99, 100, 101, 102, 103, 104, 105, 106, 107, 108, 109, 110, 91, 92, 93, 94, 95, 96, 97] (by decide +kernel) (by decide +kernel)
set_option maxRecDepth 20000 in
theorem gX2_refusalOf_X2_useOf : GoodIn wsX2_refusalOf (wsV RX2 120 RX2 yX2_useOf wsX2_useOf) := goodIn_app (goodIn_of _ (by decide +kernel)) ggX2_refusalOf_X2_useOf
set_option maxRecDepth 20000 in
theorem ggX2_refusalOf_X2_creditsOf : GoodIn wsX2_refusalOf wsX2_creditsOf := goodIn_r _ [81, 82, 83, 84, 33, 85, 86, 87, 88, 5, 89, 90, 39, 32, 34, 98, 99, 100, 101, 102, 103, 104, 105, 106, 107, 108, 109, 110] (by decide +kernel) (by decide +kernel)
set_option maxRecDepth 20000 in
theorem gX2_refusalOf_X2_creditsOf : GoodIn wsX2_refusalOf (wsV RX2 124 RX2 yX2_creditsOf wsX2_creditsOf) := goodIn_app (goodIn_of _ (by decide +kernel)) ggX2_refusalOf_X2_creditsOf
theorem dX2_refusalOf_0 : decode cX2_refusalOf 0 = .ok (.aload_n 0, 1) := by decide +kernel
theorem dX2_refusalOf_1 : decode cX2_refusalOf 1 = .ok (.aload_n 1, 1) := by decide +kernel
theorem dX2_refusalOf_2 : decode cX2_refusalOf 2 = .ok (.iload_n 2, 1) := by decide +kernel
theorem dX2_refusalOf_3 : decode cX2_refusalOf 3 = .ok (.iload_n 3, 1) := by decide +kernel
theorem dX2_refusalOf_4 : decode cX2_refusalOf 4 = .ok (.invokevirtual 162, 3) := by decide +kernel
theorem dX2_refusalOf_7 : decode cX2_refusalOf 7 = .ok (.ifCond .eq 5, 3) := by decide +kernel
theorem dX2_refusalOf_10 : decode cX2_refusalOf 10 = .ok (.iconst 1, 1) := by decide +kernel
theorem dX2_refusalOf_11 : decode cX2_refusalOf 11 = .ok (.ireturn, 1) := by decide +kernel
theorem dX2_refusalOf_12 : decode cX2_refusalOf 12 = .ok (.aload_n 0, 1) := by decide +kernel
theorem dX2_refusalOf_13 : decode cX2_refusalOf 13 = .ok (.aload_n 1, 1) := by decide +kernel
theorem dX2_refusalOf_14 : decode cX2_refusalOf 14 = .ok (.iload_n 2, 1) := by decide +kernel
theorem dX2_refusalOf_15 : decode cX2_refusalOf 15 = .ok (.invokevirtual 166, 3) := by decide +kernel
theorem dX2_refusalOf_18 : decode cX2_refusalOf 18 = .ok (.ifCond .eq 5, 3) := by decide +kernel
theorem dX2_refusalOf_21 : decode cX2_refusalOf 21 = .ok (.iconst 2, 1) := by decide +kernel
theorem dX2_refusalOf_22 : decode cX2_refusalOf 22 = .ok (.ireturn, 1) := by decide +kernel
theorem dX2_refusalOf_23 : decode cX2_refusalOf 23 = .ok (.aload_n 0, 1) := by decide +kernel
theorem dX2_refusalOf_24 : decode cX2_refusalOf 24 = .ok (.aload_n 1, 1) := by decide +kernel
theorem dX2_refusalOf_25 : decode cX2_refusalOf 25 = .ok (.iload_n 2, 1) := by decide +kernel
theorem dX2_refusalOf_26 : decode cX2_refusalOf 26 = .ok (.iload_n 3, 1) := by decide +kernel
theorem dX2_refusalOf_27 : decode cX2_refusalOf 27 = .ok (.iload 4, 2) := by decide +kernel
theorem dX2_refusalOf_29 : decode cX2_refusalOf 29 = .ok (.invokevirtual 170, 3) := by decide +kernel
theorem dX2_refusalOf_32 : decode cX2_refusalOf 32 = .ok (.iconst (-1), 1) := by decide +kernel
theorem dX2_refusalOf_33 : decode cX2_refusalOf 33 = .ok (.if_icmp .eq 5, 3) := by decide +kernel
theorem dX2_refusalOf_36 : decode cX2_refusalOf 36 = .ok (.iconst 3, 1) := by decide +kernel
theorem dX2_refusalOf_37 : decode cX2_refusalOf 37 = .ok (.ireturn, 1) := by decide +kernel
theorem dX2_refusalOf_38 : decode cX2_refusalOf 38 = .ok (.aload_n 0, 1) := by decide +kernel
theorem dX2_refusalOf_39 : decode cX2_refusalOf 39 = .ok (.aload_n 1, 1) := by decide +kernel
theorem dX2_refusalOf_40 : decode cX2_refusalOf 40 = .ok (.getfield 174, 3) := by decide +kernel
theorem dX2_refusalOf_43 : decode cX2_refusalOf 43 = .ok (.iload_n 2, 1) := by decide +kernel
theorem dX2_refusalOf_44 : decode cX2_refusalOf 44 = .ok (.invokevirtual 127, 3) := by decide +kernel
theorem dX2_refusalOf_47 : decode cX2_refusalOf 47 = .ok (.aload_n 0, 1) := by decide +kernel
theorem dX2_refusalOf_48 : decode cX2_refusalOf 48 = .ok (.aload_n 1, 1) := by decide +kernel
theorem dX2_refusalOf_49 : decode cX2_refusalOf 49 = .ok (.iload_n 3, 1) := by decide +kernel
theorem dX2_refusalOf_50 : decode cX2_refusalOf 50 = .ok (.invokevirtual 120, 3) := by decide +kernel
theorem dX2_refusalOf_53 : decode cX2_refusalOf 53 = .ok (.iadd, 1) := by decide +kernel
theorem dX2_refusalOf_54 : decode cX2_refusalOf 54 = .ok (.istore 5, 2) := by decide +kernel
theorem dX2_refusalOf_56 : decode cX2_refusalOf 56 = .ok (.iload 5, 2) := by decide +kernel
theorem dX2_refusalOf_58 : decode cX2_refusalOf 58 = .ok (.aload_n 0, 1) := by decide +kernel
theorem dX2_refusalOf_59 : decode cX2_refusalOf 59 = .ok (.aload_n 1, 1) := by decide +kernel
theorem dX2_refusalOf_60 : decode cX2_refusalOf 60 = .ok (.getfield 174, 3) := by decide +kernel
theorem dX2_refusalOf_63 : decode cX2_refusalOf 63 = .ok (.iload_n 2, 1) := by decide +kernel
theorem dX2_refusalOf_64 : decode cX2_refusalOf 64 = .ok (.invokevirtual 124, 3) := by decide +kernel
theorem dX2_refusalOf_67 : decode cX2_refusalOf 67 = .ok (.if_icmp .le 7, 3) := by decide +kernel
theorem dX2_refusalOf_70 : decode cX2_refusalOf 70 = .ok (.iconst 4, 1) := by decide +kernel
theorem dX2_refusalOf_71 : decode cX2_refusalOf 71 = .ok (.goto 4, 3) := by decide +kernel
theorem dX2_refusalOf_74 : decode cX2_refusalOf 74 = .ok (.iconst 0, 1) := by decide +kernel
theorem dX2_refusalOf_75 : decode cX2_refusalOf 75 = .ok (.ireturn, 1) := by decide +kernel
theorem dX2_hasRoom_0 : decode cX2_hasRoom 0 = .ok (.aload_n 0, 1) := by decide +kernel
theorem dX2_hasRoom_1 : decode cX2_hasRoom 1 = .ok (.getfield 55, 3) := by decide +kernel
theorem dX2_hasRoom_4 : decode cX2_hasRoom 4 = .ok (.bipush 24, 2) := by decide +kernel
theorem dX2_hasRoom_6 : decode cX2_hasRoom 6 = .ok (.if_icmp .ge 17, 3) := by decide +kernel
theorem dX2_hasRoom_9 : decode cX2_hasRoom 9 = .ok (.aload_n 0, 1) := by decide +kernel
theorem dX2_hasRoom_10 : decode cX2_hasRoom 10 = .ok (.getfield 46, 3) := by decide +kernel
theorem dX2_hasRoom_13 : decode cX2_hasRoom 13 = .ok (.sipush 200, 3) := by decide +kernel
theorem dX2_hasRoom_16 : decode cX2_hasRoom 16 = .ok (.if_icmp .ge 7, 3) := by decide +kernel
theorem dX2_hasRoom_19 : decode cX2_hasRoom 19 = .ok (.iconst 1, 1) := by decide +kernel
theorem dX2_hasRoom_20 : decode cX2_hasRoom 20 = .ok (.goto 4, 3) := by decide +kernel
theorem dX2_hasRoom_23 : decode cX2_hasRoom 23 = .ok (.iconst 0, 1) := by decide +kernel
theorem dX2_hasRoom_24 : decode cX2_hasRoom 24 = .ok (.ireturn, 1) := by decide +kernel
set_option maxRecDepth 20000 in
theorem ggX2_grant_X4_put : GoodIn wsX2_grant wsX4_put := goodIn_r _ [8] (by decide +kernel) (by decide +kernel)
set_option maxRecDepth 20000 in
theorem gX2_grant_X4_put_n80 : GoodIn wsX2_grant (wsX4_put) := ggX2_grant_X4_put
theorem dX2_grant_0 : decode cX2_grant 0 = .ok (.aload_n 0, 1) := by decide +kernel
theorem dX2_grant_1 : decode cX2_grant 1 = .ok (.getfield 55, 3) := by decide +kernel
theorem dX2_grant_4 : decode cX2_grant 4 = .ok (.ifCond .lt 86, 3) := by decide +kernel
theorem dX2_grant_7 : decode cX2_grant 7 = .ok (.aload_n 0, 1) := by decide +kernel
theorem dX2_grant_8 : decode cX2_grant 8 = .ok (.getfield 55, 3) := by decide +kernel
theorem dX2_grant_11 : decode cX2_grant 11 = .ok (.aload_n 0, 1) := by decide +kernel
theorem dX2_grant_12 : decode cX2_grant 12 = .ok (.getfield 52, 3) := by decide +kernel
theorem dX2_grant_15 : decode cX2_grant 15 = .ok (.arraylength, 1) := by decide +kernel
theorem dX2_grant_16 : decode cX2_grant 16 = .ok (.if_icmp .ge 74, 3) := by decide +kernel
theorem dX2_grant_19 : decode cX2_grant 19 = .ok (.aload_n 0, 1) := by decide +kernel
theorem dX2_grant_20 : decode cX2_grant 20 = .ok (.getfield 46, 3) := by decide +kernel
theorem dX2_grant_23 : decode cX2_grant 23 = .ok (.ifCond .lt 67, 3) := by decide +kernel
theorem dX2_grant_26 : decode cX2_grant 26 = .ok (.aload_n 0, 1) := by decide +kernel
theorem dX2_grant_27 : decode cX2_grant 27 = .ok (.getfield 46, 3) := by decide +kernel
theorem dX2_grant_30 : decode cX2_grant 30 = .ok (.aload_n 0, 1) := by decide +kernel
theorem dX2_grant_31 : decode cX2_grant 31 = .ok (.getfield 42, 3) := by decide +kernel
theorem dX2_grant_34 : decode cX2_grant 34 = .ok (.arraylength, 1) := by decide +kernel
theorem dX2_grant_35 : decode cX2_grant 35 = .ok (.if_icmp .ge 55, 3) := by decide +kernel
theorem dX2_grant_38 : decode cX2_grant 38 = .ok (.aload_n 0, 1) := by decide +kernel
theorem dX2_grant_39 : decode cX2_grant 39 = .ok (.getfield 42, 3) := by decide +kernel
theorem dX2_grant_42 : decode cX2_grant 42 = .ok (.aload_n 0, 1) := by decide +kernel
theorem dX2_grant_43 : decode cX2_grant 43 = .ok (.getfield 46, 3) := by decide +kernel
theorem dX2_grant_46 : decode cX2_grant 46 = .ok (.aload_n 1, 1) := by decide +kernel
theorem dX2_grant_47 : decode cX2_grant 47 = .ok (.aastore, 1) := by decide +kernel
theorem dX2_grant_48 : decode cX2_grant 48 = .ok (.aload_n 0, 1) := by decide +kernel
theorem dX2_grant_49 : decode cX2_grant 49 = .ok (.getfield 49, 3) := by decide +kernel
theorem dX2_grant_52 : decode cX2_grant 52 = .ok (.aload_n 0, 1) := by decide +kernel
theorem dX2_grant_53 : decode cX2_grant 53 = .ok (.getfield 46, 3) := by decide +kernel
theorem dX2_grant_56 : decode cX2_grant 56 = .ok (.iconst 1, 1) := by decide +kernel
theorem dX2_grant_57 : decode cX2_grant 57 = .ok (.invokestatic 80, 3) := by decide +kernel
theorem dX2_grant_60 : decode cX2_grant 60 = .ok (.aload_n 0, 1) := by decide +kernel
theorem dX2_grant_61 : decode cX2_grant 61 = .ok (.dup, 1) := by decide +kernel
theorem dX2_grant_62 : decode cX2_grant 62 = .ok (.getfield 46, 3) := by decide +kernel
theorem dX2_grant_65 : decode cX2_grant 65 = .ok (.iconst 1, 1) := by decide +kernel
theorem dX2_grant_66 : decode cX2_grant 66 = .ok (.iadd, 1) := by decide +kernel
theorem dX2_grant_67 : decode cX2_grant 67 = .ok (.putfield 46, 3) := by decide +kernel
theorem dX2_grant_70 : decode cX2_grant 70 = .ok (.aload_n 0, 1) := by decide +kernel
theorem dX2_grant_71 : decode cX2_grant 71 = .ok (.getfield 52, 3) := by decide +kernel
theorem dX2_grant_74 : decode cX2_grant 74 = .ok (.aload_n 0, 1) := by decide +kernel
theorem dX2_grant_75 : decode cX2_grant 75 = .ok (.getfield 55, 3) := by decide +kernel
theorem dX2_grant_78 : decode cX2_grant 78 = .ok (.aload_n 1, 1) := by decide +kernel
theorem dX2_grant_79 : decode cX2_grant 79 = .ok (.aastore, 1) := by decide +kernel
theorem dX2_grant_80 : decode cX2_grant 80 = .ok (.aload_n 0, 1) := by decide +kernel
theorem dX2_grant_81 : decode cX2_grant 81 = .ok (.dup, 1) := by decide +kernel
theorem dX2_grant_82 : decode cX2_grant 82 = .ok (.getfield 55, 3) := by decide +kernel
theorem dX2_grant_85 : decode cX2_grant 85 = .ok (.iconst 1, 1) := by decide +kernel
theorem dX2_grant_86 : decode cX2_grant 86 = .ok (.iadd, 1) := by decide +kernel
theorem dX2_grant_87 : decode cX2_grant 87 = .ok (.putfield 55, 3) := by decide +kernel
theorem dX2_grant_90 : decode cX2_grant 90 = .ok (.return_, 1) := by decide +kernel
set_option maxRecDepth 20000 in
theorem ggX2_end_X4_put : GoodIn wsX2_end wsX4_put := goodIn_r _ [7] (by decide +kernel) (by decide +kernel)
set_option maxRecDepth 20000 in
theorem gX2_end_X4_put_n80 : GoodIn wsX2_end (wsX4_put) := ggX2_end_X4_put
theorem dX2_end_0 : decode cX2_end 0 = .ok (.aload_n 0, 1) := by decide +kernel
theorem dX2_end_1 : decode cX2_end 1 = .ok (.getfield 49, 3) := by decide +kernel
theorem dX2_end_4 : decode cX2_end 4 = .ok (.aload_n 1, 1) := by decide +kernel
theorem dX2_end_5 : decode cX2_end 5 = .ok (.getfield 158, 3) := by decide +kernel
theorem dX2_end_8 : decode cX2_end 8 = .ok (.iload_n 2, 1) := by decide +kernel
theorem dX2_end_9 : decode cX2_end 9 = .ok (.invokestatic 80, 3) := by decide +kernel
theorem dX2_end_12 : decode cX2_end 12 = .ok (.iconst 0, 1) := by decide +kernel
theorem dX2_end_13 : decode cX2_end 13 = .ok (.istore_n 3, 1) := by decide +kernel
theorem dX2_end_14 : decode cX2_end 14 = .ok (.iconst 0, 1) := by decide +kernel
theorem dX2_end_15 : decode cX2_end 15 = .ok (.istore 4, 2) := by decide +kernel
theorem dX2_end_17 : decode cX2_end 17 = .ok (.iload 4, 2) := by decide +kernel
theorem dX2_end_19 : decode cX2_end 19 = .ok (.aload_n 0, 1) := by decide +kernel
theorem dX2_end_20 : decode cX2_end 20 = .ok (.getfield 55, 3) := by decide +kernel
theorem dX2_end_23 : decode cX2_end 23 = .ok (.if_icmp .ge 56, 3) := by decide +kernel
theorem dX2_end_26 : decode cX2_end 26 = .ok (.iload 4, 2) := by decide +kernel
theorem dX2_end_28 : decode cX2_end 28 = .ok (.aload_n 0, 1) := by decide +kernel
theorem dX2_end_29 : decode cX2_end 29 = .ok (.getfield 52, 3) := by decide +kernel
theorem dX2_end_32 : decode cX2_end 32 = .ok (.arraylength, 1) := by decide +kernel
theorem dX2_end_33 : decode cX2_end 33 = .ok (.if_icmp .ge 46, 3) := by decide +kernel
theorem dX2_end_36 : decode cX2_end 36 = .ok (.aload_n 0, 1) := by decide +kernel
theorem dX2_end_37 : decode cX2_end 37 = .ok (.getfield 52, 3) := by decide +kernel
theorem dX2_end_40 : decode cX2_end 40 = .ok (.iload 4, 2) := by decide +kernel
theorem dX2_end_42 : decode cX2_end 42 = .ok (.aaload, 1) := by decide +kernel
theorem dX2_end_43 : decode cX2_end 43 = .ok (.astore 5, 2) := by decide +kernel
theorem dX2_end_45 : decode cX2_end 45 = .ok (.aload 5, 2) := by decide +kernel
theorem dX2_end_47 : decode cX2_end 47 = .ok (.ifnull 26, 3) := by decide +kernel
theorem dX2_end_50 : decode cX2_end 50 = .ok (.aload 5, 2) := by decide +kernel
theorem dX2_end_52 : decode cX2_end 52 = .ok (.getfield 158, 3) := by decide +kernel
theorem dX2_end_55 : decode cX2_end 55 = .ok (.aload_n 1, 1) := by decide +kernel
theorem dX2_end_56 : decode cX2_end 56 = .ok (.getfield 158, 3) := by decide +kernel
theorem dX2_end_59 : decode cX2_end 59 = .ok (.if_icmp .eq 14, 3) := by decide +kernel
theorem dX2_end_62 : decode cX2_end 62 = .ok (.aload_n 0, 1) := by decide +kernel
theorem dX2_end_63 : decode cX2_end 63 = .ok (.getfield 52, 3) := by decide +kernel
theorem dX2_end_66 : decode cX2_end 66 = .ok (.iload_n 3, 1) := by decide +kernel
theorem dX2_end_67 : decode cX2_end 67 = .ok (.aload 5, 2) := by decide +kernel
theorem dX2_end_69 : decode cX2_end 69 = .ok (.aastore, 1) := by decide +kernel
theorem dX2_end_70 : decode cX2_end 70 = .ok (.iinc 3 1, 3) := by decide +kernel
theorem dX2_end_73 : decode cX2_end 73 = .ok (.iinc 4 1, 3) := by decide +kernel
theorem dX2_end_76 : decode cX2_end 76 = .ok (.goto (-59), 3) := by decide +kernel
theorem dX2_end_79 : decode cX2_end 79 = .ok (.aload_n 0, 1) := by decide +kernel
theorem dX2_end_80 : decode cX2_end 80 = .ok (.iload_n 3, 1) := by decide +kernel
theorem dX2_end_81 : decode cX2_end 81 = .ok (.putfield 55, 3) := by decide +kernel
theorem dX2_end_84 : decode cX2_end 84 = .ok (.return_, 1) := by decide +kernel
set_option maxRecDepth 20000 in
theorem ggX2_withdrawFailing_X2_validAt : GoodIn wsX2_withdrawFailing wsX2_validAt := goodIn_r _ [9, 1, 10, 69, 70, 71, 72, 73, 74, 75, 76, 77, 78, 79, 80, 81] (by decide +kernel) (by decide +kernel)
set_option maxRecDepth 20000 in
theorem gX2_withdrawFailing_X2_validAt : GoodIn wsX2_withdrawFailing (wsV RX2 105 RX2 yX2_validAt wsX2_validAt) := goodIn_app (goodIn_of _ (by decide +kernel)) ggX2_withdrawFailing_X2_validAt
set_option maxRecDepth 20000 in
theorem ggX2_withdrawFailing_X2_mustStop : GoodIn wsX2_withdrawFailing wsX2_mustStop := goodIn_r _ [14, 15, 16, 17, 18, 19, 20, 21, 8, 22, 23, 24, 69, 70, 71, 72, 73, 74, 75, 76, 77, 78, 79, 80, 81, 89, 90, 91, 92, 93, 94, 95] (by decide +kernel) (by decide +kernel)
set_option maxRecDepth 20000 in
theorem gX2_withdrawFailing_X2_mustStop : GoodIn wsX2_withdrawFailing (wsV RX2 166 RX2 yX2_mustStop wsX2_mustStop) := goodIn_app (goodIn_of _ (by decide +kernel)) ggX2_withdrawFailing_X2_mustStop
set_option maxRecDepth 20000 in
theorem ggX2_withdrawFailing_X2_freeOf : GoodIn wsX2_withdrawFailing wsX2_freeOf := goodIn_r _ [28, 29, 30, 31, 8, 32, 33, 34, 35, 17, 36, 37, 38, 39, 40, 41, 23, 16, 18, 42, 43, 44, 45, 1, 2, 46, 5, 6, 7, 9, 10, 47, 48, 49, 50, 51, 52, 53, 54, 55, 56, 57, 58, 59, 60, 69, 70, 71, 72, 73, 74, 75, 76, 77, 78, 79, 80, 81, 82, 83, 84, 85, 86, 87, 88, 89, 90, 91, 92, 93, 94, 95] (by decide +kernel) (by decide +kernel)
set_option maxRecDepth 20000 in
theorem gX2_withdrawFailing_X2_freeOf : GoodIn wsX2_withdrawFailing (wsV RX2 177 RX2 yX2_freeOf wsX2_freeOf) := goodIn_app (goodIn_of _ (by decide +kernel)) ggX2_withdrawFailing_X2_freeOf
set_option maxRecDepth 20000 in
theorem ggX2_withdrawFailing_X2_end : GoodIn wsX2_withdrawFailing wsX2_end := goodIn_r _ [64, 65, 66, 1, 10, 67, 17, 68, 69, 70, 71, 72, 73, 74, 75, 76, 77, 78, 79, 80, 81, 82, 83, 84, 85, 86, 87, 88] (by decide +kernel) (by decide +kernel)
set_option maxRecDepth 20000 in
theorem gX2_withdrawFailing_X2_end : GoodIn wsX2_withdrawFailing (wsV RX2 180 RX2 yX2_end wsX2_end) := goodIn_app (goodIn_of _ (by decide +kernel)) ggX2_withdrawFailing_X2_end
theorem dX2_withdrawFailing_0 : decode cX2_withdrawFailing 0 = .ok (.iconst 0, 1) := by decide +kernel
theorem dX2_withdrawFailing_1 : decode cX2_withdrawFailing 1 = .ok (.istore_n 1, 1) := by decide +kernel
theorem dX2_withdrawFailing_2 : decode cX2_withdrawFailing 2 = .ok (.aload_n 0, 1) := by decide +kernel
theorem dX2_withdrawFailing_3 : decode cX2_withdrawFailing 3 = .ok (.getfield 55, 3) := by decide +kernel
theorem dX2_withdrawFailing_6 : decode cX2_withdrawFailing 6 = .ok (.iconst 1, 1) := by decide +kernel
theorem dX2_withdrawFailing_7 : decode cX2_withdrawFailing 7 = .ok (.isub, 1) := by decide +kernel
theorem dX2_withdrawFailing_8 : decode cX2_withdrawFailing 8 = .ok (.istore_n 2, 1) := by decide +kernel
theorem dX2_withdrawFailing_9 : decode cX2_withdrawFailing 9 = .ok (.iload_n 2, 1) := by decide +kernel
theorem dX2_withdrawFailing_10 : decode cX2_withdrawFailing 10 = .ok (.ifCond .lt 61, 3) := by decide +kernel
theorem dX2_withdrawFailing_13 : decode cX2_withdrawFailing 13 = .ok (.aload_n 0, 1) := by decide +kernel
theorem dX2_withdrawFailing_14 : decode cX2_withdrawFailing 14 = .ok (.iload_n 2, 1) := by decide +kernel
theorem dX2_withdrawFailing_15 : decode cX2_withdrawFailing 15 = .ok (.invokevirtual 105, 3) := by decide +kernel
theorem dX2_withdrawFailing_18 : decode cX2_withdrawFailing 18 = .ok (.astore_n 3, 1) := by decide +kernel
theorem dX2_withdrawFailing_19 : decode cX2_withdrawFailing 19 = .ok (.aload_n 3, 1) := by decide +kernel
theorem dX2_withdrawFailing_20 : decode cX2_withdrawFailing 20 = .ok (.ifnull 45, 3) := by decide +kernel
theorem dX2_withdrawFailing_23 : decode cX2_withdrawFailing 23 = .ok (.aload_n 0, 1) := by decide +kernel
theorem dX2_withdrawFailing_24 : decode cX2_withdrawFailing 24 = .ok (.aload_n 3, 1) := by decide +kernel
theorem dX2_withdrawFailing_25 : decode cX2_withdrawFailing 25 = .ok (.getfield 113, 3) := by decide +kernel
theorem dX2_withdrawFailing_28 : decode cX2_withdrawFailing 28 = .ok (.aload_n 3, 1) := by decide +kernel
theorem dX2_withdrawFailing_29 : decode cX2_withdrawFailing 29 = .ok (.getfield 159, 3) := by decide +kernel
theorem dX2_withdrawFailing_32 : decode cX2_withdrawFailing 32 = .ok (.invokevirtual 166, 3) := by decide +kernel
theorem dX2_withdrawFailing_35 : decode cX2_withdrawFailing 35 = .ok (.ifCond .ne 21, 3) := by decide +kernel
theorem dX2_withdrawFailing_38 : decode cX2_withdrawFailing 38 = .ok (.aload_n 0, 1) := by decide +kernel
theorem dX2_withdrawFailing_39 : decode cX2_withdrawFailing 39 = .ok (.aload_n 3, 1) := by decide +kernel
theorem dX2_withdrawFailing_40 : decode cX2_withdrawFailing 40 = .ok (.getfield 113, 3) := by decide +kernel
theorem dX2_withdrawFailing_43 : decode cX2_withdrawFailing 43 = .ok (.getfield 174, 3) := by decide +kernel
theorem dX2_withdrawFailing_46 : decode cX2_withdrawFailing 46 = .ok (.aload_n 3, 1) := by decide +kernel
theorem dX2_withdrawFailing_47 : decode cX2_withdrawFailing 47 = .ok (.getfield 159, 3) := by decide +kernel
theorem dX2_withdrawFailing_50 : decode cX2_withdrawFailing 50 = .ok (.invokevirtual 177, 3) := by decide +kernel
theorem dX2_withdrawFailing_53 : decode cX2_withdrawFailing 53 = .ok (.ifCond .ge 12, 3) := by decide +kernel
theorem dX2_withdrawFailing_56 : decode cX2_withdrawFailing 56 = .ok (.aload_n 0, 1) := by decide +kernel
theorem dX2_withdrawFailing_57 : decode cX2_withdrawFailing 57 = .ok (.aload_n 3, 1) := by decide +kernel
theorem dX2_withdrawFailing_58 : decode cX2_withdrawFailing 58 = .ok (.iconst 3, 1) := by decide +kernel
theorem dX2_withdrawFailing_59 : decode cX2_withdrawFailing 59 = .ok (.invokevirtual 180, 3) := by decide +kernel
theorem dX2_withdrawFailing_62 : decode cX2_withdrawFailing 62 = .ok (.iinc 1 1, 3) := by decide +kernel
theorem dX2_withdrawFailing_65 : decode cX2_withdrawFailing 65 = .ok (.iinc 2 (-1), 3) := by decide +kernel
theorem dX2_withdrawFailing_68 : decode cX2_withdrawFailing 68 = .ok (.goto (-59), 3) := by decide +kernel
theorem dX2_withdrawFailing_71 : decode cX2_withdrawFailing 71 = .ok (.iload_n 1, 1) := by decide +kernel
theorem dX2_withdrawFailing_72 : decode cX2_withdrawFailing 72 = .ok (.ireturn, 1) := by decide +kernel
theorem dX3_init_0 : decode cX3_init 0 = .ok (.aload_n 0, 1) := by decide +kernel
theorem dX3_init_1 : decode cX3_init 1 = .ok (.invokespecial 3, 3) := by decide +kernel
theorem dX3_init_4 : decode cX3_init 4 = .ok (.aload_n 0, 1) := by decide +kernel
theorem dX3_init_5 : decode cX3_init 5 = .ok (.bipush 80, 2) := by decide +kernel
theorem dX3_init_7 : decode cX3_init 7 = .ok (.newarray .char, 2) := by decide +kernel
theorem dX3_init_9 : decode cX3_init 9 = .ok (.putfield 9, 3) := by decide +kernel
theorem dX3_init_12 : decode cX3_init 12 = .ok (.aload_n 0, 1) := by decide +kernel
theorem dX3_init_13 : decode cX3_init 13 = .ok (.iconst 0, 1) := by decide +kernel
theorem dX3_init_14 : decode cX3_init 14 = .ok (.putfield 15, 3) := by decide +kernel
theorem dX3_init_17 : decode cX3_init 17 = .ok (.aload_n 0, 1) := by decide +kernel
theorem dX3_init_18 : decode cX3_init 18 = .ok (.iconst 0, 1) := by decide +kernel
theorem dX3_init_19 : decode cX3_init 19 = .ok (.putfield 19, 3) := by decide +kernel
theorem dX3_init_22 : decode cX3_init 22 = .ok (.aload_n 0, 1) := by decide +kernel
theorem dX3_init_23 : decode cX3_init 23 = .ok (.iconst 0, 1) := by decide +kernel
theorem dX3_init_24 : decode cX3_init 24 = .ok (.putfield 22, 3) := by decide +kernel
theorem dX3_init_27 : decode cX3_init 27 = .ok (.aload_n 0, 1) := by decide +kernel
theorem dX3_init_28 : decode cX3_init 28 = .ok (.iconst 1, 1) := by decide +kernel
theorem dX3_init_29 : decode cX3_init 29 = .ok (.putfield 25, 3) := by decide +kernel
theorem dX3_init_32 : decode cX3_init 32 = .ok (.aload_n 0, 1) := by decide +kernel
theorem dX3_init_33 : decode cX3_init 33 = .ok (.iconst 0, 1) := by decide +kernel
theorem dX3_init_34 : decode cX3_init 34 = .ok (.putfield 29, 3) := by decide +kernel
theorem dX3_init_37 : decode cX3_init 37 = .ok (.aload_n 0, 1) := by decide +kernel
theorem dX3_init_38 : decode cX3_init 38 = .ok (.iconst 0, 1) := by decide +kernel
theorem dX3_init_39 : decode cX3_init 39 = .ok (.putfield 32, 3) := by decide +kernel
theorem dX3_init_42 : decode cX3_init 42 = .ok (.aload_n 0, 1) := by decide +kernel
theorem dX3_init_43 : decode cX3_init 43 = .ok (.iconst 0, 1) := by decide +kernel
theorem dX3_init_44 : decode cX3_init 44 = .ok (.putfield 35, 3) := by decide +kernel
theorem dX3_init_47 : decode cX3_init 47 = .ok (.aload_n 0, 1) := by decide +kernel
theorem dX3_init_48 : decode cX3_init 48 = .ok (.iconst 0, 1) := by decide +kernel
theorem dX3_init_49 : decode cX3_init 49 = .ok (.putfield 38, 3) := by decide +kernel
theorem dX3_init_52 : decode cX3_init 52 = .ok (.return_, 1) := by decide +kernel
theorem dX3_append_0 : decode cX3_append 0 = .ok (.aload_n 0, 1) := by decide +kernel
theorem dX3_append_1 : decode cX3_append 1 = .ok (.getfield 15, 3) := by decide +kernel
theorem dX3_append_4 : decode cX3_append 4 = .ok (.ifCond .lt 35, 3) := by decide +kernel
theorem dX3_append_7 : decode cX3_append 7 = .ok (.aload_n 0, 1) := by decide +kernel
theorem dX3_append_8 : decode cX3_append 8 = .ok (.getfield 15, 3) := by decide +kernel
theorem dX3_append_11 : decode cX3_append 11 = .ok (.aload_n 0, 1) := by decide +kernel
theorem dX3_append_12 : decode cX3_append 12 = .ok (.getfield 9, 3) := by decide +kernel
theorem dX3_append_15 : decode cX3_append 15 = .ok (.arraylength, 1) := by decide +kernel
theorem dX3_append_16 : decode cX3_append 16 = .ok (.if_icmp .ge 23, 3) := by decide +kernel
theorem dX3_append_19 : decode cX3_append 19 = .ok (.aload_n 0, 1) := by decide +kernel
theorem dX3_append_20 : decode cX3_append 20 = .ok (.getfield 9, 3) := by decide +kernel
theorem dX3_append_23 : decode cX3_append 23 = .ok (.aload_n 0, 1) := by decide +kernel
theorem dX3_append_24 : decode cX3_append 24 = .ok (.getfield 15, 3) := by decide +kernel
theorem dX3_append_27 : decode cX3_append 27 = .ok (.iload_n 1, 1) := by decide +kernel
theorem dX3_append_28 : decode cX3_append 28 = .ok (.castore, 1) := by decide +kernel
theorem dX3_append_29 : decode cX3_append 29 = .ok (.aload_n 0, 1) := by decide +kernel
theorem dX3_append_30 : decode cX3_append 30 = .ok (.dup, 1) := by decide +kernel
theorem dX3_append_31 : decode cX3_append 31 = .ok (.getfield 15, 3) := by decide +kernel
theorem dX3_append_34 : decode cX3_append 34 = .ok (.iconst 1, 1) := by decide +kernel
theorem dX3_append_35 : decode cX3_append 35 = .ok (.iadd, 1) := by decide +kernel
theorem dX3_append_36 : decode cX3_append 36 = .ok (.putfield 15, 3) := by decide +kernel
theorem dX3_append_39 : decode cX3_append 39 = .ok (.return_, 1) := by decide +kernel
set_option maxRecDepth 20000 in
theorem ggX3_readApplication_X3_readNumber : GoodIn wsX3_readApplication wsX3_readNumber := goodIn_r _ [12, 1, 3, 13, 14, 15, 11, 16, 17, 18, 19, 20, 21, 26, 27, 28, 29, 30, 31, 32, 33, 34] (by decide +kernel) (by decide +kernel)
set_option maxRecDepth 20000 in
theorem gX3_readApplication_X3_readNumber : GoodIn wsX3_readApplication (wsV RX3 41 RX3 yX3_readNumber wsX3_readNumber) := goodIn_app (goodIn_of _ (by decide +kernel)) ggX3_readApplication_X3_readNumber
set_option maxRecDepth 20000 in
theorem ggX3_readApplication_X3_readSign : GoodIn wsX3_readApplication wsX3_readSign := goodIn_r _ [25, 1, 3, 13, 14, 15, 11, 16, 17, 18, 26, 27, 28, 29, 30, 31, 32, 33, 34] (by decide +kernel) (by decide +kernel)
set_option maxRecDepth 20000 in
theorem gX3_readApplication_X3_readSign : GoodIn wsX3_readApplication (wsV RX3 45 RX3 yX3_readSign wsX3_readSign) := goodIn_app (goodIn_of _ (by decide +kernel)) ggX3_readApplication_X3_readSign
theorem dX3_readApplication_0 : decode cX3_readApplication 0 = .ok (.aload_n 0, 1) := by decide +kernel
theorem dX3_readApplication_1 : decode cX3_readApplication 1 = .ok (.aload_n 0, 1) := by decide +kernel
theorem dX3_readApplication_2 : decode cX3_readApplication 2 = .ok (.getfield 22, 3) := by decide +kernel
theorem dX3_readApplication_5 : decode cX3_readApplication 5 = .ok (.putfield 19, 3) := by decide +kernel
theorem dX3_readApplication_8 : decode cX3_readApplication 8 = .ok (.aload_n 0, 1) := by decide +kernel
theorem dX3_readApplication_9 : decode cX3_readApplication 9 = .ok (.iconst 1, 1) := by decide +kernel
theorem dX3_readApplication_10 : decode cX3_readApplication 10 = .ok (.putfield 25, 3) := by decide +kernel
theorem dX3_readApplication_13 : decode cX3_readApplication 13 = .ok (.aload_n 0, 1) := by decide +kernel
theorem dX3_readApplication_14 : decode cX3_readApplication 14 = .ok (.aload_n 0, 1) := by decide +kernel
theorem dX3_readApplication_15 : decode cX3_readApplication 15 = .ok (.iconst 1, 1) := by decide +kernel
theorem dX3_readApplication_16 : decode cX3_readApplication 16 = .ok (.invokevirtual 41, 3) := by decide +kernel
theorem dX3_readApplication_19 : decode cX3_readApplication 19 = .ok (.putfield 29, 3) := by decide +kernel
theorem dX3_readApplication_22 : decode cX3_readApplication 22 = .ok (.aload_n 0, 1) := by decide +kernel
theorem dX3_readApplication_23 : decode cX3_readApplication 23 = .ok (.bipush 110, 2) := by decide +kernel
theorem dX3_readApplication_25 : decode cX3_readApplication 25 = .ok (.invokevirtual 45, 3) := by decide +kernel
theorem dX3_readApplication_28 : decode cX3_readApplication 28 = .ok (.aload_n 0, 1) := by decide +kernel
theorem dX3_readApplication_29 : decode cX3_readApplication 29 = .ok (.aload_n 0, 1) := by decide +kernel
theorem dX3_readApplication_30 : decode cX3_readApplication 30 = .ok (.iconst 2, 1) := by decide +kernel
theorem dX3_readApplication_31 : decode cX3_readApplication 31 = .ok (.invokevirtual 41, 3) := by decide +kernel
theorem dX3_readApplication_34 : decode cX3_readApplication 34 = .ok (.putfield 32, 3) := by decide +kernel
theorem dX3_readApplication_37 : decode cX3_readApplication 37 = .ok (.aload_n 0, 1) := by decide +kernel
theorem dX3_readApplication_38 : decode cX3_readApplication 38 = .ok (.bipush 104, 2) := by decide +kernel
theorem dX3_readApplication_40 : decode cX3_readApplication 40 = .ok (.invokevirtual 45, 3) := by decide +kernel
theorem dX3_readApplication_43 : decode cX3_readApplication 43 = .ok (.aload_n 0, 1) := by decide +kernel
theorem dX3_readApplication_44 : decode cX3_readApplication 44 = .ok (.iconst 1, 1) := by decide +kernel
theorem dX3_readApplication_45 : decode cX3_readApplication 45 = .ok (.invokevirtual 41, 3) := by decide +kernel
theorem dX3_readApplication_48 : decode cX3_readApplication 48 = .ok (.istore_n 1, 1) := by decide +kernel
theorem dX3_readApplication_49 : decode cX3_readApplication 49 = .ok (.aload_n 0, 1) := by decide +kernel
theorem dX3_readApplication_50 : decode cX3_readApplication 50 = .ok (.bipush 45, 2) := by decide +kernel
theorem dX3_readApplication_52 : decode cX3_readApplication 52 = .ok (.invokevirtual 45, 3) := by decide +kernel
theorem dX3_readApplication_55 : decode cX3_readApplication 55 = .ok (.aload_n 0, 1) := by decide +kernel
theorem dX3_readApplication_56 : decode cX3_readApplication 56 = .ok (.iconst 1, 1) := by decide +kernel
theorem dX3_readApplication_57 : decode cX3_readApplication 57 = .ok (.invokevirtual 41, 3) := by decide +kernel
theorem dX3_readApplication_60 : decode cX3_readApplication 60 = .ok (.istore_n 2, 1) := by decide +kernel
theorem dX3_readApplication_61 : decode cX3_readApplication 61 = .ok (.aload_n 0, 1) := by decide +kernel
theorem dX3_readApplication_62 : decode cX3_readApplication 62 = .ok (.bipush 10, 2) := by decide +kernel
theorem dX3_readApplication_64 : decode cX3_readApplication 64 = .ok (.iload_n 1, 1) := by decide +kernel
theorem dX3_readApplication_65 : decode cX3_readApplication 65 = .ok (.imul, 1) := by decide +kernel
theorem dX3_readApplication_66 : decode cX3_readApplication 66 = .ok (.iload_n 2, 1) := by decide +kernel
theorem dX3_readApplication_67 : decode cX3_readApplication 67 = .ok (.iadd, 1) := by decide +kernel
theorem dX3_readApplication_68 : decode cX3_readApplication 68 = .ok (.putfield 35, 3) := by decide +kernel
theorem dX3_readApplication_71 : decode cX3_readApplication 71 = .ok (.aload_n 0, 1) := by decide +kernel
theorem dX3_readApplication_72 : decode cX3_readApplication 72 = .ok (.bipush 115, 2) := by decide +kernel
theorem dX3_readApplication_74 : decode cX3_readApplication 74 = .ok (.invokevirtual 45, 3) := by decide +kernel
theorem dX3_readApplication_77 : decode cX3_readApplication 77 = .ok (.aload_n 0, 1) := by decide +kernel
theorem dX3_readApplication_78 : decode cX3_readApplication 78 = .ok (.aload_n 0, 1) := by decide +kernel
theorem dX3_readApplication_79 : decode cX3_readApplication 79 = .ok (.iconst 3, 1) := by decide +kernel
theorem dX3_readApplication_80 : decode cX3_readApplication 80 = .ok (.invokevirtual 41, 3) := by decide +kernel
theorem dX3_readApplication_83 : decode cX3_readApplication 83 = .ok (.putfield 38, 3) := by decide +kernel
theorem dX3_readApplication_86 : decode cX3_readApplication 86 = .ok (.aload_n 0, 1) := by decide +kernel
theorem dX3_readApplication_87 : decode cX3_readApplication 87 = .ok (.bipush 59, 2) := by decide +kernel
theorem dX3_readApplication_89 : decode cX3_readApplication 89 = .ok (.invokevirtual 45, 3) := by decide +kernel
theorem dX3_readApplication_92 : decode cX3_readApplication 92 = .ok (.aload_n 0, 1) := by decide +kernel
theorem dX3_readApplication_93 : decode cX3_readApplication 93 = .ok (.getfield 25, 3) := by decide +kernel
theorem dX3_readApplication_96 : decode cX3_readApplication 96 = .ok (.ireturn, 1) := by decide +kernel
set_option maxRecDepth 20000 in
theorem ggX3_readSign_X3_signAt : GoodIn wsX3_readSign wsX3_signAt := goodIn_r _ [7, 8, 9, 10, 11, 12, 13, 14, 15, 16, 17, 18] (by decide +kernel) (by decide +kernel)
set_option maxRecDepth 20000 in
theorem gX3_readSign_X3_signAt : GoodIn wsX3_readSign (wsV RX3 49 RX3 yX3_signAt wsX3_signAt) := goodIn_app (goodIn_of _ (by decide +kernel)) ggX3_readSign_X3_signAt
theorem dX3_readSign_0 : decode cX3_readSign 0 = .ok (.aload_n 0, 1) := by decide +kernel
theorem dX3_readSign_1 : decode cX3_readSign 1 = .ok (.aload_n 0, 1) := by decide +kernel
theorem dX3_readSign_2 : decode cX3_readSign 2 = .ok (.getfield 22, 3) := by decide +kernel
theorem dX3_readSign_5 : decode cX3_readSign 5 = .ok (.invokevirtual 49, 3) := by decide +kernel
theorem dX3_readSign_8 : decode cX3_readSign 8 = .ok (.iload_n 1, 1) := by decide +kernel
theorem dX3_readSign_9 : decode cX3_readSign 9 = .ok (.if_icmp .ne 16, 3) := by decide +kernel
theorem dX3_readSign_12 : decode cX3_readSign 12 = .ok (.aload_n 0, 1) := by decide +kernel
theorem dX3_readSign_13 : decode cX3_readSign 13 = .ok (.dup, 1) := by decide +kernel
theorem dX3_readSign_14 : decode cX3_readSign 14 = .ok (.getfield 22, 3) := by decide +kernel
theorem dX3_readSign_17 : decode cX3_readSign 17 = .ok (.iconst 1, 1) := by decide +kernel
theorem dX3_readSign_18 : decode cX3_readSign 18 = .ok (.iadd, 1) := by decide +kernel
theorem dX3_readSign_19 : decode cX3_readSign 19 = .ok (.putfield 22, 3) := by decide +kernel
theorem dX3_readSign_22 : decode cX3_readSign 22 = .ok (.goto 8, 3) := by decide +kernel
theorem dX3_readSign_25 : decode cX3_readSign 25 = .ok (.aload_n 0, 1) := by decide +kernel
theorem dX3_readSign_26 : decode cX3_readSign 26 = .ok (.iconst 0, 1) := by decide +kernel
theorem dX3_readSign_27 : decode cX3_readSign 27 = .ok (.putfield 25, 3) := by decide +kernel
theorem dX3_readSign_30 : decode cX3_readSign 30 = .ok (.return_, 1) := by decide +kernel
set_option maxRecDepth 20000 in
theorem ggX3_readNumber_X3_signAt : GoodIn wsX3_readNumber wsX3_signAt := goodIn_r _ [7, 8, 9, 13, 14, 15, 16, 17, 18, 19, 20, 21] (by decide +kernel) (by decide +kernel)
set_option maxRecDepth 20000 in
theorem gX3_readNumber_X3_signAt : GoodIn wsX3_readNumber (wsV RX3 49 RX3 yX3_signAt wsX3_signAt) := goodIn_app (goodIn_of _ (by decide +kernel)) ggX3_readNumber_X3_signAt
set_option maxRecDepth 20000 in
theorem ggX3_readNumber_X4_isIn : GoodIn wsX3_readNumber wsX4_isIn := goodIn_r _ [12] (by decide +kernel) (by decide +kernel)
set_option maxRecDepth 20000 in
theorem gX3_readNumber_X4_isIn_n52 : GoodIn wsX3_readNumber (wsX4_isIn) := ggX3_readNumber_X4_isIn
theorem dX3_readNumber_0 : decode cX3_readNumber 0 = .ok (.iconst 0, 1) := by decide +kernel
theorem dX3_readNumber_1 : decode cX3_readNumber 1 = .ok (.istore_n 2, 1) := by decide +kernel
theorem dX3_readNumber_2 : decode cX3_readNumber 2 = .ok (.iconst 0, 1) := by decide +kernel
theorem dX3_readNumber_3 : decode cX3_readNumber 3 = .ok (.istore_n 3, 1) := by decide +kernel
theorem dX3_readNumber_4 : decode cX3_readNumber 4 = .ok (.iload_n 3, 1) := by decide +kernel
theorem dX3_readNumber_5 : decode cX3_readNumber 5 = .ok (.iload_n 1, 1) := by decide +kernel
theorem dX3_readNumber_6 : decode cX3_readNumber 6 = .ok (.if_icmp .ge 54, 3) := by decide +kernel
theorem dX3_readNumber_9 : decode cX3_readNumber 9 = .ok (.aload_n 0, 1) := by decide +kernel
theorem dX3_readNumber_10 : decode cX3_readNumber 10 = .ok (.aload_n 0, 1) := by decide +kernel
theorem dX3_readNumber_11 : decode cX3_readNumber 11 = .ok (.getfield 22, 3) := by decide +kernel
theorem dX3_readNumber_14 : decode cX3_readNumber 14 = .ok (.invokevirtual 49, 3) := by decide +kernel
theorem dX3_readNumber_17 : decode cX3_readNumber 17 = .ok (.bipush 48, 2) := by decide +kernel
theorem dX3_readNumber_19 : decode cX3_readNumber 19 = .ok (.bipush 57, 2) := by decide +kernel
theorem dX3_readNumber_21 : decode cX3_readNumber 21 = .ok (.invokestatic 52, 3) := by decide +kernel
theorem dX3_readNumber_24 : decode cX3_readNumber 24 = .ok (.ifCond .eq 36, 3) := by decide +kernel
theorem dX3_readNumber_27 : decode cX3_readNumber 27 = .ok (.bipush 10, 2) := by decide +kernel
theorem dX3_readNumber_29 : decode cX3_readNumber 29 = .ok (.iload_n 2, 1) := by decide +kernel
theorem dX3_readNumber_30 : decode cX3_readNumber 30 = .ok (.imul, 1) := by decide +kernel
theorem dX3_readNumber_31 : decode cX3_readNumber 31 = .ok (.aload_n 0, 1) := by decide +kernel
theorem dX3_readNumber_32 : decode cX3_readNumber 32 = .ok (.aload_n 0, 1) := by decide +kernel
theorem dX3_readNumber_33 : decode cX3_readNumber 33 = .ok (.getfield 22, 3) := by decide +kernel
theorem dX3_readNumber_36 : decode cX3_readNumber 36 = .ok (.invokevirtual 49, 3) := by decide +kernel
theorem dX3_readNumber_39 : decode cX3_readNumber 39 = .ok (.iadd, 1) := by decide +kernel
theorem dX3_readNumber_40 : decode cX3_readNumber 40 = .ok (.bipush 48, 2) := by decide +kernel
theorem dX3_readNumber_42 : decode cX3_readNumber 42 = .ok (.isub, 1) := by decide +kernel
theorem dX3_readNumber_43 : decode cX3_readNumber 43 = .ok (.istore_n 2, 1) := by decide +kernel
theorem dX3_readNumber_44 : decode cX3_readNumber 44 = .ok (.iinc 3 1, 3) := by decide +kernel
theorem dX3_readNumber_47 : decode cX3_readNumber 47 = .ok (.aload_n 0, 1) := by decide +kernel
theorem dX3_readNumber_48 : decode cX3_readNumber 48 = .ok (.dup, 1) := by decide +kernel
theorem dX3_readNumber_49 : decode cX3_readNumber 49 = .ok (.getfield 22, 3) := by decide +kernel
theorem dX3_readNumber_52 : decode cX3_readNumber 52 = .ok (.iconst 1, 1) := by decide +kernel
theorem dX3_readNumber_53 : decode cX3_readNumber 53 = .ok (.iadd, 1) := by decide +kernel
theorem dX3_readNumber_54 : decode cX3_readNumber 54 = .ok (.putfield 22, 3) := by decide +kernel
theorem dX3_readNumber_57 : decode cX3_readNumber 57 = .ok (.goto (-53), 3) := by decide +kernel
theorem dX3_readNumber_60 : decode cX3_readNumber 60 = .ok (.aload_n 0, 1) := by decide +kernel
theorem dX3_readNumber_61 : decode cX3_readNumber 61 = .ok (.aload_n 0, 1) := by decide +kernel
theorem dX3_readNumber_62 : decode cX3_readNumber 62 = .ok (.getfield 25, 3) := by decide +kernel
theorem dX3_readNumber_65 : decode cX3_readNumber 65 = .ok (.ifCond .eq 11, 3) := by decide +kernel
theorem dX3_readNumber_68 : decode cX3_readNumber 68 = .ok (.iload_n 3, 1) := by decide +kernel
theorem dX3_readNumber_69 : decode cX3_readNumber 69 = .ok (.ifCond .le 7, 3) := by decide +kernel
theorem dX3_readNumber_72 : decode cX3_readNumber 72 = .ok (.iconst 1, 1) := by decide +kernel
theorem dX3_readNumber_73 : decode cX3_readNumber 73 = .ok (.goto 4, 3) := by decide +kernel
theorem dX3_readNumber_76 : decode cX3_readNumber 76 = .ok (.iconst 0, 1) := by decide +kernel
theorem dX3_readNumber_77 : decode cX3_readNumber 77 = .ok (.putfield 25, 3) := by decide +kernel
theorem dX3_readNumber_80 : decode cX3_readNumber 80 = .ok (.iload_n 2, 1) := by decide +kernel
theorem dX3_readNumber_81 : decode cX3_readNumber 81 = .ok (.ireturn, 1) := by decide +kernel
theorem dX3_signAt_0 : decode cX3_signAt 0 = .ok (.iload_n 1, 1) := by decide +kernel
theorem dX3_signAt_1 : decode cX3_signAt 1 = .ok (.ifCond .lt 29, 3) := by decide +kernel
theorem dX3_signAt_4 : decode cX3_signAt 4 = .ok (.iload_n 1, 1) := by decide +kernel
theorem dX3_signAt_5 : decode cX3_signAt 5 = .ok (.aload_n 0, 1) := by decide +kernel
theorem dX3_signAt_6 : decode cX3_signAt 6 = .ok (.getfield 15, 3) := by decide +kernel
theorem dX3_signAt_9 : decode cX3_signAt 9 = .ok (.if_icmp .ge 21, 3) := by decide +kernel
theorem dX3_signAt_12 : decode cX3_signAt 12 = .ok (.iload_n 1, 1) := by decide +kernel
theorem dX3_signAt_13 : decode cX3_signAt 13 = .ok (.aload_n 0, 1) := by decide +kernel
theorem dX3_signAt_14 : decode cX3_signAt 14 = .ok (.getfield 9, 3) := by decide +kernel
theorem dX3_signAt_17 : decode cX3_signAt 17 = .ok (.arraylength, 1) := by decide +kernel
theorem dX3_signAt_18 : decode cX3_signAt 18 = .ok (.if_icmp .ge 12, 3) := by decide +kernel
theorem dX3_signAt_21 : decode cX3_signAt 21 = .ok (.aload_n 0, 1) := by decide +kernel
theorem dX3_signAt_22 : decode cX3_signAt 22 = .ok (.getfield 9, 3) := by decide +kernel
theorem dX3_signAt_25 : decode cX3_signAt 25 = .ok (.iload_n 1, 1) := by decide +kernel
theorem dX3_signAt_26 : decode cX3_signAt 26 = .ok (.caload, 1) := by decide +kernel
theorem dX3_signAt_27 : decode cX3_signAt 27 = .ok (.goto 4, 3) := by decide +kernel
theorem dX3_signAt_30 : decode cX3_signAt 30 = .ok (.iconst 0, 1) := by decide +kernel
theorem dX3_signAt_31 : decode cX3_signAt 31 = .ok (.ireturn, 1) := by decide +kernel
set_option maxRecDepth 20000 in
theorem ggX4_init_X2_init : GoodIn wsX4_init wsX2_init := goodIn_r _ [17, 18, 2, 3, 19, 20, 21, 22, 23, 24, 25, 26, 27, 28, 29, 30, 31, 32, 33, 34, 35, 36, 37, 38, 52, 53, 54, 55, 56, 57, 58, 59, 60, 61, 62, 63, 64] (by decide +kernel) (by decide +kernel)
set_option maxRecDepth 20000 in
theorem gX4_init_X2_init : GoodIn wsX4_init (wsX2_init) := ggX4_init_X2_init
set_option maxRecDepth 20000 in
theorem ggX4_init_X3_init : GoodIn wsX4_init wsX3_init := goodIn_r _ [40, 41, 2, 3, 42, 43, 44, 45, 46, 47, 48, 49, 50, 51, 70, 71, 72, 73, 74, 75, 76, 77, 78] (by decide +kernel) (by decide +kernel)
set_option maxRecDepth 20000 in
theorem gX4_init_X3_init_n29 : GoodIn wsX4_init (wsX3_init) := ggX4_init_X3_init
theorem dX4_init_0 : decode cX4_init 0 = .ok (.aload_n 0, 1) := by decide +kernel
theorem dX4_init_1 : decode cX4_init 1 = .ok (.invokespecial 1, 3) := by decide +kernel
theorem dX4_init_4 : decode cX4_init 4 = .ok (.aload_n 0, 1) := by decide +kernel
theorem dX4_init_5 : decode cX4_init 5 = .ok (.new 7, 3) := by decide +kernel
theorem dX4_init_8 : decode cX4_init 8 = .ok (.dup, 1) := by decide +kernel
theorem dX4_init_9 : decode cX4_init 9 = .ok (.invokespecial 9, 3) := by decide +kernel
theorem dX4_init_12 : decode cX4_init 12 = .ok (.putfield 10, 3) := by decide +kernel
theorem dX4_init_15 : decode cX4_init 15 = .ok (.aload_n 0, 1) := by decide +kernel
theorem dX4_init_16 : decode cX4_init 16 = .ok (.new 7, 3) := by decide +kernel
theorem dX4_init_19 : decode cX4_init 19 = .ok (.dup, 1) := by decide +kernel
theorem dX4_init_20 : decode cX4_init 20 = .ok (.invokespecial 9, 3) := by decide +kernel
theorem dX4_init_23 : decode cX4_init 23 = .ok (.putfield 16, 3) := by decide +kernel
theorem dX4_init_26 : decode cX4_init 26 = .ok (.aload_n 0, 1) := by decide +kernel
theorem dX4_init_27 : decode cX4_init 27 = .ok (.iconst 4, 1) := by decide +kernel
theorem dX4_init_28 : decode cX4_init 28 = .ok (.anewarray 7, 3) := by decide +kernel
theorem dX4_init_31 : decode cX4_init 31 = .ok (.putfield 19, 3) := by decide +kernel
theorem dX4_init_34 : decode cX4_init 34 = .ok (.aload_n 0, 1) := by decide +kernel
theorem dX4_init_35 : decode cX4_init 35 = .ok (.iconst 0, 1) := by decide +kernel
theorem dX4_init_36 : decode cX4_init 36 = .ok (.putfield 23, 3) := by decide +kernel
theorem dX4_init_39 : decode cX4_init 39 = .ok (.aload_n 0, 1) := by decide +kernel
theorem dX4_init_40 : decode cX4_init 40 = .ok (.new 27, 3) := by decide +kernel
theorem dX4_init_43 : decode cX4_init 43 = .ok (.dup, 1) := by decide +kernel
theorem dX4_init_44 : decode cX4_init 44 = .ok (.invokespecial 29, 3) := by decide +kernel
theorem dX4_init_47 : decode cX4_init 47 = .ok (.putfield 30, 3) := by decide +kernel
theorem dX4_init_50 : decode cX4_init 50 = .ok (.iconst 0, 1) := by decide +kernel
theorem dX4_init_51 : decode cX4_init 51 = .ok (.istore_n 1, 1) := by decide +kernel
theorem dX4_init_52 : decode cX4_init 52 = .ok (.iload_n 1, 1) := by decide +kernel
theorem dX4_init_53 : decode cX4_init 53 = .ok (.aload_n 0, 1) := by decide +kernel
theorem dX4_init_54 : decode cX4_init 54 = .ok (.getfield 19, 3) := by decide +kernel
theorem dX4_init_57 : decode cX4_init 57 = .ok (.arraylength, 1) := by decide +kernel
theorem dX4_init_58 : decode cX4_init 58 = .ok (.if_icmp .ge 22, 3) := by decide +kernel
theorem dX4_init_61 : decode cX4_init 61 = .ok (.aload_n 0, 1) := by decide +kernel
theorem dX4_init_62 : decode cX4_init 62 = .ok (.getfield 19, 3) := by decide +kernel
theorem dX4_init_65 : decode cX4_init 65 = .ok (.iload_n 1, 1) := by decide +kernel
theorem dX4_init_66 : decode cX4_init 66 = .ok (.new 7, 3) := by decide +kernel
theorem dX4_init_69 : decode cX4_init 69 = .ok (.dup, 1) := by decide +kernel
theorem dX4_init_70 : decode cX4_init 70 = .ok (.invokespecial 9, 3) := by decide +kernel
theorem dX4_init_73 : decode cX4_init 73 = .ok (.aastore, 1) := by decide +kernel
theorem dX4_init_74 : decode cX4_init 74 = .ok (.iinc 1 1, 3) := by decide +kernel
theorem dX4_init_77 : decode cX4_init 77 = .ok (.goto (-25), 3) := by decide +kernel
theorem dX4_init_80 : decode cX4_init 80 = .ok (.return_, 1) := by decide +kernel
set_option maxRecDepth 20000 in
theorem ggX4_crane_X4_isCell : GoodIn wsX4_crane wsX4_isCell := goodIn_r _ [10, 11, 12, 9, 13] (by decide +kernel) (by decide +kernel)
set_option maxRecDepth 20000 in
theorem gX4_crane_X4_isCell : GoodIn wsX4_crane (va_wsS RX4 34 yX4_isCell wsX4_isCell) := goodIn_app (goodIn_of _ (by decide +kernel)) ggX4_crane_X4_isCell
set_option maxRecDepth 20000 in
theorem ggX4_crane_X4_isIn : GoodIn wsX4_crane wsX4_isIn := goodIn_r _ [13] (by decide +kernel) (by decide +kernel)
set_option maxRecDepth 20000 in
theorem gX4_crane_X4_isIn : GoodIn wsX4_crane (va_wsS RX4 38 yX4_isIn wsX4_isIn) := goodIn_app (goodIn_of _ (by decide +kernel)) ggX4_crane_X4_isIn
set_option maxRecDepth 20000 in
theorem ggX4_crane_X4_isStreet : GoodIn wsX4_crane wsX4_isStreet := goodIn_r _ [16, 11, 12, 9, 13] (by decide +kernel) (by decide +kernel)
set_option maxRecDepth 20000 in
theorem gX4_crane_X4_isStreet : GoodIn wsX4_crane (va_wsS RX4 42 yX4_isStreet wsX4_isStreet) := goodIn_app (goodIn_of _ (by decide +kernel)) ggX4_crane_X4_isStreet
set_option maxRecDepth 20000 in
theorem ggX4_crane_X2_hasCraneIn : GoodIn wsX4_crane wsX2_hasCraneIn := goodIn_r _ [21, 22, 23, 24, 25, 26, 27, 20, 28, 29, 92, 93, 94, 95, 96, 97, 98, 99, 100, 101, 102, 103, 104, 105, 106, 107, 108, 109, 110, 111] (by decide +kernel) (by decide +kernel)
set_option maxRecDepth 20000 in
theorem gX4_crane_X2_hasCraneIn : GoodIn wsX4_crane (wsV RX4 46 RX2 yX2_hasCraneIn wsX2_hasCraneIn) := goodIn_app (goodIn_of _ (by decide +kernel)) ggX4_crane_X2_hasCraneIn
set_option maxRecDepth 20000 in
theorem ggX4_crane_X4_remember : GoodIn wsX4_crane wsX4_remember := goodIn_r _ [33, 34, 35, 36, 37, 38, 39, 1, 40, 41, 42, 20, 43, 29, 44, 22, 45, 46, 47, 48, 49, 50, 51, 52, 53, 54, 55, 87, 88, 89, 90, 91, 92, 93, 94, 95, 96, 97, 98, 99, 100, 101, 102, 103, 104] (by decide +kernel) (by decide +kernel)
set_option maxRecDepth 20000 in
theorem gX4_crane_X4_remember : GoodIn wsX4_crane (wsV RX4 52 RX4 yX4_remember wsX4_remember) := goodIn_app (goodIn_of _ (by decide +kernel)) ggX4_crane_X4_remember
set_option maxRecDepth 20000 in
theorem ggX4_crane_X0_init : GoodIn wsX4_crane wsX0_init := goodIn_r _ [58, 59, 60, 61, 62, 63, 64, 65, 66, 67, 68, 69, 70, 71, 72, 5, 73, 74, 75, 76, 77, 78, 79, 80, 105, 106, 107, 108, 109, 110, 111] (by decide +kernel) (by decide +kernel)
set_option maxRecDepth 20000 in
theorem gX4_crane_X0_init : GoodIn wsX4_crane (wsX0_init) := ggX4_crane_X0_init
set_option maxRecDepth 20000 in
theorem ggX4_crane_X2_addCrane : GoodIn wsX4_crane wsX2_addCrane := goodIn_r _ [84, 22, 29, 45, 85, 9, 86, 92, 93, 94, 95, 96, 97, 98, 99, 100, 101, 102, 103, 104] (by decide +kernel) (by decide +kernel)
set_option maxRecDepth 20000 in
theorem gX4_crane_X2_addCrane : GoodIn wsX4_crane (wsV RX4 60 RX2 yX2_addCrane wsX2_addCrane) := goodIn_app (goodIn_of _ (by decide +kernel)) ggX4_crane_X2_addCrane
theorem dX4_crane_0 : decode cX4_crane 0 = .ok (.iload_n 1, 1) := by decide +kernel
theorem dX4_crane_1 : decode cX4_crane 1 = .ok (.iload_n 2, 1) := by decide +kernel
theorem dX4_crane_2 : decode cX4_crane 2 = .ok (.invokestatic 34, 3) := by decide +kernel
theorem dX4_crane_5 : decode cX4_crane 5 = .ok (.ifCond .eq 44, 3) := by decide +kernel
theorem dX4_crane_8 : decode cX4_crane 8 = .ok (.iload_n 3, 1) := by decide +kernel
theorem dX4_crane_9 : decode cX4_crane 9 = .ok (.iconst 1, 1) := by decide +kernel
theorem dX4_crane_10 : decode cX4_crane 10 = .ok (.bipush 8, 2) := by decide +kernel
theorem dX4_crane_12 : decode cX4_crane 12 = .ok (.invokestatic 38, 3) := by decide +kernel
theorem dX4_crane_15 : decode cX4_crane 15 = .ok (.ifCond .eq 34, 3) := by decide +kernel
theorem dX4_crane_18 : decode cX4_crane 18 = .ok (.iload 4, 2) := by decide +kernel
theorem dX4_crane_20 : decode cX4_crane 20 = .ok (.bipush 10, 2) := by decide +kernel
theorem dX4_crane_22 : decode cX4_crane 22 = .ok (.bipush 99, 2) := by decide +kernel
theorem dX4_crane_24 : decode cX4_crane 24 = .ok (.invokestatic 38, 3) := by decide +kernel
theorem dX4_crane_27 : decode cX4_crane 27 = .ok (.ifCond .eq 22, 3) := by decide +kernel
theorem dX4_crane_30 : decode cX4_crane 30 = .ok (.iload 5, 2) := by decide +kernel
theorem dX4_crane_32 : decode cX4_crane 32 = .ok (.invokestatic 42, 3) := by decide +kernel
theorem dX4_crane_35 : decode cX4_crane 35 = .ok (.ifCond .eq 14, 3) := by decide +kernel
theorem dX4_crane_38 : decode cX4_crane 38 = .ok (.iload 6, 2) := by decide +kernel
theorem dX4_crane_40 : decode cX4_crane 40 = .ok (.iconst 1, 1) := by decide +kernel
theorem dX4_crane_41 : decode cX4_crane 41 = .ok (.bipush 9, 2) := by decide +kernel
theorem dX4_crane_43 : decode cX4_crane 43 = .ok (.invokestatic 38, 3) := by decide +kernel
theorem dX4_crane_46 : decode cX4_crane 46 = .ok (.ifCond .ne 7, 3) := by decide +kernel
theorem dX4_crane_49 : decode cX4_crane 49 = .ok (.sipush (-1001), 3) := by decide +kernel
theorem dX4_crane_52 : decode cX4_crane 52 = .ok (.ireturn, 1) := by decide +kernel
theorem dX4_crane_53 : decode cX4_crane 53 = .ok (.aload_n 0, 1) := by decide +kernel
theorem dX4_crane_54 : decode cX4_crane 54 = .ok (.getfield 10, 3) := by decide +kernel
theorem dX4_crane_57 : decode cX4_crane 57 = .ok (.iload_n 1, 1) := by decide +kernel
theorem dX4_crane_58 : decode cX4_crane 58 = .ok (.iload_n 2, 1) := by decide +kernel
theorem dX4_crane_59 : decode cX4_crane 59 = .ok (.invokevirtual 46, 3) := by decide +kernel
theorem dX4_crane_62 : decode cX4_crane 62 = .ok (.ifCond .eq 7, 3) := by decide +kernel
theorem dX4_crane_65 : decode cX4_crane 65 = .ok (.sipush (-1002), 3) := by decide +kernel
theorem dX4_crane_68 : decode cX4_crane 68 = .ok (.ireturn, 1) := by decide +kernel
theorem dX4_crane_69 : decode cX4_crane 69 = .ok (.aload_n 0, 1) := by decide +kernel
theorem dX4_crane_70 : decode cX4_crane 70 = .ok (.getfield 10, 3) := by decide +kernel
theorem dX4_crane_73 : decode cX4_crane 73 = .ok (.getfield 49, 3) := by decide +kernel
theorem dX4_crane_76 : decode cX4_crane 76 = .ok (.bipush 8, 2) := by decide +kernel
theorem dX4_crane_78 : decode cX4_crane 78 = .ok (.if_icmp .lt 7, 3) := by decide +kernel
theorem dX4_crane_81 : decode cX4_crane 81 = .ok (.sipush (-1003), 3) := by decide +kernel
theorem dX4_crane_84 : decode cX4_crane 84 = .ok (.ireturn, 1) := by decide +kernel
theorem dX4_crane_85 : decode cX4_crane 85 = .ok (.aload_n 0, 1) := by decide +kernel
theorem dX4_crane_86 : decode cX4_crane 86 = .ok (.invokevirtual 52, 3) := by decide +kernel
theorem dX4_crane_89 : decode cX4_crane 89 = .ok (.new 55, 3) := by decide +kernel
theorem dX4_crane_92 : decode cX4_crane 92 = .ok (.dup, 1) := by decide +kernel
theorem dX4_crane_93 : decode cX4_crane 93 = .ok (.aload_n 0, 1) := by decide +kernel
theorem dX4_crane_94 : decode cX4_crane 94 = .ok (.getfield 10, 3) := by decide +kernel
theorem dX4_crane_97 : decode cX4_crane 97 = .ok (.getfield 49, 3) := by decide +kernel
theorem dX4_crane_100 : decode cX4_crane 100 = .ok (.iload_n 1, 1) := by decide +kernel
theorem dX4_crane_101 : decode cX4_crane 101 = .ok (.iload_n 2, 1) := by decide +kernel
theorem dX4_crane_102 : decode cX4_crane 102 = .ok (.iload_n 3, 1) := by decide +kernel
theorem dX4_crane_103 : decode cX4_crane 103 = .ok (.iload 4, 2) := by decide +kernel
theorem dX4_crane_105 : decode cX4_crane 105 = .ok (.iload 5, 2) := by decide +kernel
theorem dX4_crane_107 : decode cX4_crane 107 = .ok (.invokespecial 57, 3) := by decide +kernel
theorem dX4_crane_110 : decode cX4_crane 110 = .ok (.astore 7, 2) := by decide +kernel
theorem dX4_crane_112 : decode cX4_crane 112 = .ok (.aload_n 0, 1) := by decide +kernel
theorem dX4_crane_113 : decode cX4_crane 113 = .ok (.getfield 10, 3) := by decide +kernel
theorem dX4_crane_116 : decode cX4_crane 116 = .ok (.aload 7, 2) := by decide +kernel
theorem dX4_crane_118 : decode cX4_crane 118 = .ok (.iload 6, 2) := by decide +kernel
theorem dX4_crane_120 : decode cX4_crane 120 = .ok (.invokevirtual 60, 3) := by decide +kernel
theorem dX4_crane_123 : decode cX4_crane 123 = .ok (.aload 7, 2) := by decide +kernel
theorem dX4_crane_125 : decode cX4_crane 125 = .ok (.getfield 64, 3) := by decide +kernel
theorem dX4_crane_128 : decode cX4_crane 128 = .ok (.ireturn, 1) := by decide +kernel
set_option maxRecDepth 20000 in
theorem ggX4_noise_X2_craneAt : GoodIn wsX4_noise wsX2_craneAt := goodIn_r _ [8, 9, 10, 108, 109, 110, 111, 112, 113, 114, 115, 116, 117, 118, 119, 120] (by decide +kernel) (by decide +kernel)
set_option maxRecDepth 20000 in
theorem gX4_noise_X2_craneAt : GoodIn wsX4_noise (wsV RX4 67 RX2 yX2_craneAt wsX2_craneAt) := goodIn_app (goodIn_of _ (by decide +kernel)) ggX4_noise_X2_craneAt
set_option maxRecDepth 20000 in
theorem ggX4_noise_X4_isIn : GoodIn wsX4_noise wsX4_isIn := goodIn_r _ [14] (by decide +kernel) (by decide +kernel)
set_option maxRecDepth 20000 in
theorem gX4_noise_X4_isIn : GoodIn wsX4_noise (va_wsS RX4 38 yX4_isIn wsX4_isIn) := goodIn_app (goodIn_of _ (by decide +kernel)) ggX4_noise_X4_isIn
set_option maxRecDepth 20000 in
theorem ggX4_noise_X4_remember : GoodIn wsX4_noise wsX4_remember := goodIn_r _ [18, 19, 20, 21, 22, 23, 24, 1, 25, 26, 27, 7, 28, 10, 29, 9, 30, 31, 32, 33, 34, 35, 36, 37, 38, 39, 40, 103, 104, 105, 106, 107, 108, 109, 110, 111, 112, 113, 114, 115, 116, 117, 118, 119, 120] (by decide +kernel) (by decide +kernel)
set_option maxRecDepth 20000 in
theorem gX4_noise_X4_remember : GoodIn wsX4_noise (wsV RX4 52 RX4 yX4_remember wsX4_remember) := goodIn_app (goodIn_of _ (by decide +kernel)) ggX4_noise_X4_remember
set_option maxRecDepth 20000 in
theorem ggX4_noise_X4_put : GoodIn wsX4_noise wsX4_put := goodIn_r _ [43] (by decide +kernel) (by decide +kernel)
set_option maxRecDepth 20000 in
theorem gX4_noise_X4_put : GoodIn wsX4_noise (va_wsS RX4 75 yX4_put wsX4_put) := goodIn_app (goodIn_of _ (by decide +kernel)) ggX4_noise_X4_put
set_option maxRecDepth 20000 in
theorem ggX4_noise_X2_withdrawFailing : GoodIn wsX4_noise wsX2_withdrawFailing := goodIn_r _ [47, 40, 48, 49, 50, 51, 52, 53, 7, 54, 39, 55, 56, 57, 58, 32, 59, 13, 60, 61, 62, 63, 64, 31, 65, 66, 67, 68, 69, 70, 71, 72, 73, 34, 35, 74, 75, 76, 77, 78, 79, 33, 80, 81, 82, 83, 84, 85, 86, 87, 88, 89, 90, 91, 92, 93, 94, 95, 96, 30, 97, 98, 99, 100, 101, 38, 102, 42, 43, 108, 109, 110, 111, 112, 113, 114, 115, 116, 117, 118, 119, 120, 128, 129, 130, 131, 132, 133, 134, 121, 122, 123, 124, 125, 126, 127] (by decide +kernel) (by decide +kernel)
set_option maxRecDepth 20000 in
theorem gX4_noise_X2_withdrawFailing : GoodIn wsX4_noise (wsV RX4 79 RX2 yX2_withdrawFailing wsX2_withdrawFailing) := goodIn_app (goodIn_of _ (by decide +kernel)) ggX4_noise_X2_withdrawFailing
theorem dX4_noise_0 : decode cX4_noise 0 = .ok (.aload_n 0, 1) := by decide +kernel
theorem dX4_noise_1 : decode cX4_noise 1 = .ok (.getfield 10, 3) := by decide +kernel
theorem dX4_noise_4 : decode cX4_noise 4 = .ok (.iload_n 1, 1) := by decide +kernel
theorem dX4_noise_5 : decode cX4_noise 5 = .ok (.invokevirtual 67, 3) := by decide +kernel
theorem dX4_noise_8 : decode cX4_noise 8 = .ok (.astore_n 3, 1) := by decide +kernel
theorem dX4_noise_9 : decode cX4_noise 9 = .ok (.aload_n 3, 1) := by decide +kernel
theorem dX4_noise_10 : decode cX4_noise 10 = .ok (.ifnull 13, 3) := by decide +kernel
theorem dX4_noise_13 : decode cX4_noise 13 = .ok (.iload_n 2, 1) := by decide +kernel
theorem dX4_noise_14 : decode cX4_noise 14 = .ok (.iconst 1, 1) := by decide +kernel
theorem dX4_noise_15 : decode cX4_noise 15 = .ok (.bipush 9, 2) := by decide +kernel
theorem dX4_noise_17 : decode cX4_noise 17 = .ok (.invokestatic 38, 3) := by decide +kernel
theorem dX4_noise_20 : decode cX4_noise 20 = .ok (.ifCond .ne 7, 3) := by decide +kernel
theorem dX4_noise_23 : decode cX4_noise 23 = .ok (.sipush (-1001), 3) := by decide +kernel
theorem dX4_noise_26 : decode cX4_noise 26 = .ok (.ireturn, 1) := by decide +kernel
theorem dX4_noise_27 : decode cX4_noise 27 = .ok (.aload_n 0, 1) := by decide +kernel
theorem dX4_noise_28 : decode cX4_noise 28 = .ok (.invokevirtual 52, 3) := by decide +kernel
theorem dX4_noise_31 : decode cX4_noise 31 = .ok (.aload_n 0, 1) := by decide +kernel
theorem dX4_noise_32 : decode cX4_noise 32 = .ok (.getfield 10, 3) := by decide +kernel
theorem dX4_noise_35 : decode cX4_noise 35 = .ok (.getfield 71, 3) := by decide +kernel
theorem dX4_noise_38 : decode cX4_noise 38 = .ok (.aload_n 3, 1) := by decide +kernel
theorem dX4_noise_39 : decode cX4_noise 39 = .ok (.getfield 64, 3) := by decide +kernel
theorem dX4_noise_42 : decode cX4_noise 42 = .ok (.iload_n 2, 1) := by decide +kernel
theorem dX4_noise_43 : decode cX4_noise 43 = .ok (.invokestatic 75, 3) := by decide +kernel
theorem dX4_noise_46 : decode cX4_noise 46 = .ok (.aload_n 0, 1) := by decide +kernel
theorem dX4_noise_47 : decode cX4_noise 47 = .ok (.getfield 10, 3) := by decide +kernel
theorem dX4_noise_50 : decode cX4_noise 50 = .ok (.invokevirtual 79, 3) := by decide +kernel
theorem dX4_noise_53 : decode cX4_noise 53 = .ok (.ireturn, 1) := by decide +kernel
set_option maxRecDepth 20000 in
theorem ggX4_craneOf_X2_craneAt : GoodIn wsX4_craneOf wsX2_craneAt := goodIn_r _ [13, 14, 15, 55, 56, 57, 58, 59, 60, 61, 62, 63, 64, 65, 66, 67] (by decide +kernel) (by decide +kernel)
set_option maxRecDepth 20000 in
theorem gX4_craneOf_X2_craneAt : GoodIn wsX4_craneOf (wsV RX4 67 RX2 yX2_craneAt wsX2_craneAt) := goodIn_app (goodIn_of _ (by decide +kernel)) ggX4_craneOf_X2_craneAt
set_option maxRecDepth 20000 in
theorem ggX4_craneOf_X4_at : GoodIn wsX4_craneOf wsX4_at := goodIn_r _ [19] (by decide +kernel) (by decide +kernel)
set_option maxRecDepth 20000 in
theorem gX4_craneOf_X4_at : GoodIn wsX4_craneOf (va_wsS RX4 98 yX4_at wsX4_at) := goodIn_app (goodIn_of _ (by decide +kernel)) ggX4_craneOf_X4_at
set_option maxRecDepth 20000 in
theorem ggX4_craneOf_X2_validOfCrane : GoodIn wsX4_craneOf wsX2_validOfCrane := goodIn_r _ [23, 24, 25, 26, 27, 12, 28, 29, 30, 31, 32, 33, 34, 35, 36, 55, 56, 57, 58, 59, 60, 61, 62, 63, 64, 65, 66, 67, 68, 69, 70, 71, 72, 73, 74, 48, 49, 50, 51, 52, 53, 54] (by decide +kernel) (by decide +kernel)
set_option maxRecDepth 20000 in
theorem gX4_craneOf_X2_validOfCrane : GoodIn wsX4_craneOf (wsV RX4 102 RX2 yX2_validOfCrane wsX2_validOfCrane) := goodIn_app (goodIn_of _ (by decide +kernel)) ggX4_craneOf_X2_validOfCrane
set_option maxRecDepth 20000 in
theorem ggX4_craneOf_X2_stopWindOf : GoodIn wsX4_craneOf wsX2_stopWindOf := goodIn_r _ [40, 41, 42, 17, 18, 19, 55, 56, 57, 58, 59, 60, 61, 62, 63, 64, 65, 66, 67, 48, 49, 50, 51, 52, 53, 54] (by decide +kernel) (by decide +kernel)
set_option maxRecDepth 20000 in
theorem gX4_craneOf_X2_stopWindOf : GoodIn wsX4_craneOf (wsV RX4 106 RX2 yX2_stopWindOf wsX2_stopWindOf) := goodIn_app (goodIn_of _ (by decide +kernel)) ggX4_craneOf_X2_stopWindOf
theorem dX4_craneOf_0 : decode cX4_craneOf 0 = .ok (.aload_n 0, 1) := by decide +kernel
theorem dX4_craneOf_1 : decode cX4_craneOf 1 = .ok (.getfield 10, 3) := by decide +kernel
theorem dX4_craneOf_4 : decode cX4_craneOf 4 = .ok (.iload_n 1, 1) := by decide +kernel
theorem dX4_craneOf_5 : decode cX4_craneOf 5 = .ok (.invokevirtual 67, 3) := by decide +kernel
theorem dX4_craneOf_8 : decode cX4_craneOf 8 = .ok (.astore_n 3, 1) := by decide +kernel
theorem dX4_craneOf_9 : decode cX4_craneOf 9 = .ok (.aload_n 3, 1) := by decide +kernel
theorem dX4_craneOf_10 : decode cX4_craneOf 10 = .ok (.ifnonnull 7, 3) := by decide +kernel
theorem dX4_craneOf_13 : decode cX4_craneOf 13 = .ok (.sipush (-1001), 3) := by decide +kernel
theorem dX4_craneOf_16 : decode cX4_craneOf 16 = .ok (.ireturn, 1) := by decide +kernel
theorem dX4_craneOf_17 : decode cX4_craneOf 17 = .ok (.iload_n 2, 1) := by decide +kernel
theorem dX4_craneOf_18 : decode cX4_craneOf 18 = .ok (.tableswitch 104 0 7 #[46, 51, 56, 61, 66, 71, 86, 95], 46) := by decide +kernel
theorem dX4_craneOf_64 : decode cX4_craneOf 64 = .ok (.aload_n 3, 1) := by decide +kernel
theorem dX4_craneOf_65 : decode cX4_craneOf 65 = .ok (.getfield 83, 3) := by decide +kernel
theorem dX4_craneOf_68 : decode cX4_craneOf 68 = .ok (.ireturn, 1) := by decide +kernel
theorem dX4_craneOf_69 : decode cX4_craneOf 69 = .ok (.aload_n 3, 1) := by decide +kernel
theorem dX4_craneOf_70 : decode cX4_craneOf 70 = .ok (.getfield 86, 3) := by decide +kernel
theorem dX4_craneOf_73 : decode cX4_craneOf 73 = .ok (.ireturn, 1) := by decide +kernel
theorem dX4_craneOf_74 : decode cX4_craneOf 74 = .ok (.aload_n 3, 1) := by decide +kernel
theorem dX4_craneOf_75 : decode cX4_craneOf 75 = .ok (.getfield 89, 3) := by decide +kernel
theorem dX4_craneOf_78 : decode cX4_craneOf 78 = .ok (.ireturn, 1) := by decide +kernel
theorem dX4_craneOf_79 : decode cX4_craneOf 79 = .ok (.aload_n 3, 1) := by decide +kernel
theorem dX4_craneOf_80 : decode cX4_craneOf 80 = .ok (.getfield 92, 3) := by decide +kernel
theorem dX4_craneOf_83 : decode cX4_craneOf 83 = .ok (.ireturn, 1) := by decide +kernel
theorem dX4_craneOf_84 : decode cX4_craneOf 84 = .ok (.aload_n 3, 1) := by decide +kernel
theorem dX4_craneOf_85 : decode cX4_craneOf 85 = .ok (.getfield 95, 3) := by decide +kernel
theorem dX4_craneOf_88 : decode cX4_craneOf 88 = .ok (.ireturn, 1) := by decide +kernel
theorem dX4_craneOf_89 : decode cX4_craneOf 89 = .ok (.aload_n 0, 1) := by decide +kernel
theorem dX4_craneOf_90 : decode cX4_craneOf 90 = .ok (.getfield 10, 3) := by decide +kernel
theorem dX4_craneOf_93 : decode cX4_craneOf 93 = .ok (.getfield 71, 3) := by decide +kernel
theorem dX4_craneOf_96 : decode cX4_craneOf 96 = .ok (.aload_n 3, 1) := by decide +kernel
theorem dX4_craneOf_97 : decode cX4_craneOf 97 = .ok (.getfield 64, 3) := by decide +kernel
theorem dX4_craneOf_100 : decode cX4_craneOf 100 = .ok (.invokestatic 98, 3) := by decide +kernel
theorem dX4_craneOf_103 : decode cX4_craneOf 103 = .ok (.ireturn, 1) := by decide +kernel
theorem dX4_craneOf_104 : decode cX4_craneOf 104 = .ok (.aload_n 0, 1) := by decide +kernel
theorem dX4_craneOf_105 : decode cX4_craneOf 105 = .ok (.getfield 10, 3) := by decide +kernel
theorem dX4_craneOf_108 : decode cX4_craneOf 108 = .ok (.aload_n 3, 1) := by decide +kernel
theorem dX4_craneOf_109 : decode cX4_craneOf 109 = .ok (.invokevirtual 102, 3) := by decide +kernel
theorem dX4_craneOf_112 : decode cX4_craneOf 112 = .ok (.ireturn, 1) := by decide +kernel
theorem dX4_craneOf_113 : decode cX4_craneOf 113 = .ok (.aload_n 0, 1) := by decide +kernel
theorem dX4_craneOf_114 : decode cX4_craneOf 114 = .ok (.getfield 10, 3) := by decide +kernel
theorem dX4_craneOf_117 : decode cX4_craneOf 117 = .ok (.aload_n 3, 1) := by decide +kernel
theorem dX4_craneOf_118 : decode cX4_craneOf 118 = .ok (.invokevirtual 106, 3) := by decide +kernel
theorem dX4_craneOf_121 : decode cX4_craneOf 121 = .ok (.ireturn, 1) := by decide +kernel
theorem dX4_craneOf_122 : decode cX4_craneOf 122 = .ok (.sipush (-1001), 3) := by decide +kernel
theorem dX4_craneOf_125 : decode cX4_craneOf 125 = .ok (.ireturn, 1) := by decide +kernel
set_option maxRecDepth 20000 in
theorem ggX4_set_X4_isIn : GoodIn wsX4_set wsX4_isIn := goodIn_r _ [8] (by decide +kernel) (by decide +kernel)
set_option maxRecDepth 20000 in
theorem gX4_set_X4_isIn : GoodIn wsX4_set (va_wsS RX4 38 yX4_isIn wsX4_isIn) := goodIn_app (goodIn_of _ (by decide +kernel)) ggX4_set_X4_isIn
set_option maxRecDepth 20000 in
theorem ggX4_set_X4_at : GoodIn wsX4_set wsX4_at := goodIn_r _ [11] (by decide +kernel) (by decide +kernel)
set_option maxRecDepth 20000 in
theorem gX4_set_X4_at : GoodIn wsX4_set (va_wsS RX4 98 yX4_at wsX4_at) := goodIn_app (goodIn_of _ (by decide +kernel)) ggX4_set_X4_at
set_option maxRecDepth 20000 in
theorem ggX4_set_X4_remember : GoodIn wsX4_set wsX4_remember := goodIn_r _ [15, 16, 17, 18, 19, 20, 21, 3, 22, 23, 24, 25, 26, 27, 28, 29, 30, 31, 32, 33, 34, 35, 36, 37, 38, 39, 40, 101, 102, 103, 104, 105, 106, 107, 108, 109, 110, 111, 112, 113, 114, 115, 116, 117, 118] (by decide +kernel) (by decide +kernel)
set_option maxRecDepth 20000 in
theorem gX4_set_X4_remember : GoodIn wsX4_set (wsV RX4 52 RX4 yX4_remember wsX4_remember) := goodIn_app (goodIn_of _ (by decide +kernel)) ggX4_set_X4_remember
set_option maxRecDepth 20000 in
theorem ggX4_set_X4_put : GoodIn wsX4_set wsX4_put := goodIn_r _ [43] (by decide +kernel) (by decide +kernel)
set_option maxRecDepth 20000 in
theorem gX4_set_X4_put : GoodIn wsX4_set (va_wsS RX4 75 yX4_put wsX4_put) := goodIn_app (goodIn_of _ (by decide +kernel)) ggX4_set_X4_put
set_option maxRecDepth 20000 in
theorem ggX4_set_X2_withdrawFailing : GoodIn wsX4_set wsX2_withdrawFailing := goodIn_r _ [47, 40, 48, 49, 50, 51, 52, 53, 25, 54, 39, 55, 56, 57, 58, 32, 10, 7, 11, 59, 60, 61, 62, 31, 63, 64, 65, 66, 67, 68, 69, 70, 71, 34, 35, 72, 73, 74, 75, 76, 77, 33, 78, 79, 80, 81, 82, 83, 84, 85, 86, 87, 88, 89, 90, 91, 92, 93, 94, 30, 95, 96, 97, 98, 99, 38, 100, 42, 43, 106, 107, 108, 109, 110, 111, 112, 113, 114, 115, 116, 117, 118, 119, 120, 121, 122, 123, 124, 125, 126, 127, 128, 129, 130, 131, 132] (by decide +kernel) (by decide +kernel)
set_option maxRecDepth 20000 in
theorem gX4_set_X2_withdrawFailing : GoodIn wsX4_set (wsV RX4 79 RX2 yX2_withdrawFailing wsX2_withdrawFailing) := goodIn_app (goodIn_of _ (by decide +kernel)) ggX4_set_X2_withdrawFailing
theorem dX4_set_0 : decode cX4_set 0 = .ok (.iload_n 1, 1) := by decide +kernel
theorem dX4_set_1 : decode cX4_set 1 = .ok (.iconst 0, 1) := by decide +kernel
theorem dX4_set_2 : decode cX4_set 2 = .ok (.iconst 2, 1) := by decide +kernel
theorem dX4_set_3 : decode cX4_set 3 = .ok (.invokestatic 38, 3) := by decide +kernel
theorem dX4_set_6 : decode cX4_set 6 = .ok (.ifCond .eq 24, 3) := by decide +kernel
theorem dX4_set_9 : decode cX4_set 9 = .ok (.iload_n 2, 1) := by decide +kernel
theorem dX4_set_10 : decode cX4_set 10 = .ok (.getstatic 109, 3) := by decide +kernel
theorem dX4_set_13 : decode cX4_set 13 = .ok (.iload_n 1, 1) := by decide +kernel
theorem dX4_set_14 : decode cX4_set 14 = .ok (.invokestatic 98, 3) := by decide +kernel
theorem dX4_set_17 : decode cX4_set 17 = .ok (.getstatic 112, 3) := by decide +kernel
theorem dX4_set_20 : decode cX4_set 20 = .ok (.iload_n 1, 1) := by decide +kernel
theorem dX4_set_21 : decode cX4_set 21 = .ok (.invokestatic 98, 3) := by decide +kernel
theorem dX4_set_24 : decode cX4_set 24 = .ok (.invokestatic 38, 3) := by decide +kernel
theorem dX4_set_27 : decode cX4_set 27 = .ok (.ifCond .ne 7, 3) := by decide +kernel
theorem dX4_set_30 : decode cX4_set 30 = .ok (.sipush (-1001), 3) := by decide +kernel
theorem dX4_set_33 : decode cX4_set 33 = .ok (.ireturn, 1) := by decide +kernel
theorem dX4_set_34 : decode cX4_set 34 = .ok (.aload_n 0, 1) := by decide +kernel
theorem dX4_set_35 : decode cX4_set 35 = .ok (.invokevirtual 52, 3) := by decide +kernel
theorem dX4_set_38 : decode cX4_set 38 = .ok (.aload_n 0, 1) := by decide +kernel
theorem dX4_set_39 : decode cX4_set 39 = .ok (.getfield 10, 3) := by decide +kernel
theorem dX4_set_42 : decode cX4_set 42 = .ok (.getfield 115, 3) := by decide +kernel
theorem dX4_set_45 : decode cX4_set 45 = .ok (.iload_n 1, 1) := by decide +kernel
theorem dX4_set_46 : decode cX4_set 46 = .ok (.iload_n 2, 1) := by decide +kernel
theorem dX4_set_47 : decode cX4_set 47 = .ok (.invokestatic 75, 3) := by decide +kernel
theorem dX4_set_50 : decode cX4_set 50 = .ok (.aload_n 0, 1) := by decide +kernel
theorem dX4_set_51 : decode cX4_set 51 = .ok (.getfield 10, 3) := by decide +kernel
theorem dX4_set_54 : decode cX4_set 54 = .ok (.invokevirtual 79, 3) := by decide +kernel
theorem dX4_set_57 : decode cX4_set 57 = .ok (.ireturn, 1) := by decide +kernel
set_option maxRecDepth 20000 in
theorem ggX4_wind_X4_isNight : GoodIn wsX4_wind wsX4_isNight := goodIn_r _ [6, 7, 8, 5, 9] (by decide +kernel) (by decide +kernel)
set_option maxRecDepth 20000 in
theorem gX4_wind_X4_isNight : GoodIn wsX4_wind (va_wsS RX4 118 yX4_isNight wsX4_isNight) := goodIn_app (goodIn_of _ (by decide +kernel)) ggX4_wind_X4_isNight
set_option maxRecDepth 20000 in
theorem ggX4_wind_X4_isIn : GoodIn wsX4_wind wsX4_isIn := goodIn_r _ [9] (by decide +kernel) (by decide +kernel)
set_option maxRecDepth 20000 in
theorem gX4_wind_X4_isIn : GoodIn wsX4_wind (va_wsS RX4 38 yX4_isIn wsX4_isIn) := goodIn_app (goodIn_of _ (by decide +kernel)) ggX4_wind_X4_isIn
set_option maxRecDepth 20000 in
theorem ggX4_wind_X4_remember : GoodIn wsX4_wind wsX4_remember := goodIn_r _ [13, 14, 15, 16, 17, 18, 19, 1, 20, 21, 22, 23, 24, 25, 26, 27, 28, 29, 30, 31, 32, 33, 34, 35, 36, 37, 38, 101, 102, 103, 104, 105, 106, 107, 108, 109, 110, 111, 112, 113, 114, 115, 116, 117, 118] (by decide +kernel) (by decide +kernel)
set_option maxRecDepth 20000 in
theorem gX4_wind_X4_remember : GoodIn wsX4_wind (wsV RX4 52 RX4 yX4_remember wsX4_remember) := goodIn_app (goodIn_of _ (by decide +kernel)) ggX4_wind_X4_remember
set_option maxRecDepth 20000 in
theorem ggX4_wind_X4_put : GoodIn wsX4_wind wsX4_put := goodIn_r _ [41] (by decide +kernel) (by decide +kernel)
set_option maxRecDepth 20000 in
theorem gX4_wind_X4_put : GoodIn wsX4_wind (va_wsS RX4 75 yX4_put wsX4_put) := goodIn_app (goodIn_of _ (by decide +kernel)) ggX4_wind_X4_put
set_option maxRecDepth 20000 in
theorem ggX4_wind_X2_withdrawFailing : GoodIn wsX4_wind wsX2_withdrawFailing := goodIn_r _ [45, 38, 46, 47, 48, 49, 50, 51, 23, 52, 37, 53, 54, 55, 56, 30, 57, 5, 58, 59, 60, 61, 62, 29, 63, 64, 65, 66, 67, 68, 69, 70, 71, 32, 33, 72, 73, 74, 75, 76, 77, 31, 78, 79, 80, 81, 82, 83, 84, 85, 86, 87, 88, 89, 90, 91, 92, 93, 94, 28, 95, 96, 97, 98, 99, 36, 100, 40, 41, 106, 107, 108, 109, 110, 111, 112, 113, 114, 115, 116, 117, 118, 119, 120, 121, 122, 123, 124, 125, 126, 127, 128, 129, 130, 131, 132] (by decide +kernel) (by decide +kernel)
set_option maxRecDepth 20000 in
theorem gX4_wind_X2_withdrawFailing : GoodIn wsX4_wind (wsV RX4 79 RX2 yX2_withdrawFailing wsX2_withdrawFailing) := goodIn_app (goodIn_of _ (by decide +kernel)) ggX4_wind_X2_withdrawFailing
theorem dX4_wind_0 : decode cX4_wind 0 = .ok (.iload_n 1, 1) := by decide +kernel
theorem dX4_wind_1 : decode cX4_wind 1 = .ok (.invokestatic 118, 3) := by decide +kernel
theorem dX4_wind_4 : decode cX4_wind 4 = .ok (.ifCond .eq 13, 3) := by decide +kernel
theorem dX4_wind_7 : decode cX4_wind 7 = .ok (.iload_n 2, 1) := by decide +kernel
theorem dX4_wind_8 : decode cX4_wind 8 = .ok (.iconst 0, 1) := by decide +kernel
theorem dX4_wind_9 : decode cX4_wind 9 = .ok (.bipush 99, 2) := by decide +kernel
theorem dX4_wind_11 : decode cX4_wind 11 = .ok (.invokestatic 38, 3) := by decide +kernel
theorem dX4_wind_14 : decode cX4_wind 14 = .ok (.ifCond .ne 7, 3) := by decide +kernel
theorem dX4_wind_17 : decode cX4_wind 17 = .ok (.sipush (-1001), 3) := by decide +kernel
theorem dX4_wind_20 : decode cX4_wind 20 = .ok (.ireturn, 1) := by decide +kernel
theorem dX4_wind_21 : decode cX4_wind 21 = .ok (.aload_n 0, 1) := by decide +kernel
theorem dX4_wind_22 : decode cX4_wind 22 = .ok (.invokevirtual 52, 3) := by decide +kernel
theorem dX4_wind_25 : decode cX4_wind 25 = .ok (.aload_n 0, 1) := by decide +kernel
theorem dX4_wind_26 : decode cX4_wind 26 = .ok (.getfield 10, 3) := by decide +kernel
theorem dX4_wind_29 : decode cX4_wind 29 = .ok (.getfield 121, 3) := by decide +kernel
theorem dX4_wind_32 : decode cX4_wind 32 = .ok (.iload_n 1, 1) := by decide +kernel
theorem dX4_wind_33 : decode cX4_wind 33 = .ok (.iload_n 2, 1) := by decide +kernel
theorem dX4_wind_34 : decode cX4_wind 34 = .ok (.invokestatic 75, 3) := by decide +kernel
theorem dX4_wind_37 : decode cX4_wind 37 = .ok (.aload_n 0, 1) := by decide +kernel
theorem dX4_wind_38 : decode cX4_wind 38 = .ok (.getfield 10, 3) := by decide +kernel
theorem dX4_wind_41 : decode cX4_wind 41 = .ok (.invokevirtual 79, 3) := by decide +kernel
theorem dX4_wind_44 : decode cX4_wind 44 = .ok (.ireturn, 1) := by decide +kernel
set_option maxRecDepth 20000 in
theorem ggX4_allow_X4_isStreet : GoodIn wsX4_allow wsX4_isStreet := goodIn_r _ [6, 7, 8, 5, 9] (by decide +kernel) (by decide +kernel)
set_option maxRecDepth 20000 in
theorem gX4_allow_X4_isStreet : GoodIn wsX4_allow (va_wsS RX4 42 yX4_isStreet wsX4_isStreet) := goodIn_app (goodIn_of _ (by decide +kernel)) ggX4_allow_X4_isStreet
set_option maxRecDepth 20000 in
theorem ggX4_allow_X4_isNight : GoodIn wsX4_allow wsX4_isNight := goodIn_r _ [12, 7, 8, 5, 9] (by decide +kernel) (by decide +kernel)
set_option maxRecDepth 20000 in
theorem gX4_allow_X4_isNight : GoodIn wsX4_allow (va_wsS RX4 118 yX4_isNight wsX4_isNight) := goodIn_app (goodIn_of _ (by decide +kernel)) ggX4_allow_X4_isNight
set_option maxRecDepth 20000 in
theorem ggX4_allow_X4_isIn : GoodIn wsX4_allow wsX4_isIn := goodIn_r _ [9] (by decide +kernel) (by decide +kernel)
set_option maxRecDepth 20000 in
theorem gX4_allow_X4_isIn : GoodIn wsX4_allow (va_wsS RX4 38 yX4_isIn wsX4_isIn) := goodIn_app (goodIn_of _ (by decide +kernel)) ggX4_allow_X4_isIn
set_option maxRecDepth 20000 in
theorem ggX4_allow_X4_remember : GoodIn wsX4_allow wsX4_remember := goodIn_r _ [16, 17, 18, 19, 20, 21, 22, 1, 23, 24, 25, 26, 27, 28, 29, 30, 31, 32, 33, 34, 35, 36, 37, 38, 39, 40, 41, 105, 106, 107, 108, 109, 110, 111, 112, 113, 114, 115, 116, 117, 118, 119, 120, 121, 122] (by decide +kernel) (by decide +kernel)
set_option maxRecDepth 20000 in
theorem gX4_allow_X4_remember : GoodIn wsX4_allow (wsV RX4 52 RX4 yX4_remember wsX4_remember) := goodIn_app (goodIn_of _ (by decide +kernel)) ggX4_allow_X4_remember
set_option maxRecDepth 20000 in
theorem ggX4_allow_X4_streetNight : GoodIn wsX4_allow wsX4_streetNight := goodIn_r _ [44] (by decide +kernel) (by decide +kernel)
set_option maxRecDepth 20000 in
theorem gX4_allow_X4_streetNight : GoodIn wsX4_allow (va_wsS RX4 127 yX4_streetNight wsX4_streetNight) := goodIn_app (goodIn_of _ (by decide +kernel)) ggX4_allow_X4_streetNight
set_option maxRecDepth 20000 in
theorem ggX4_allow_X4_put : GoodIn wsX4_allow wsX4_put := goodIn_r _ [47] (by decide +kernel) (by decide +kernel)
set_option maxRecDepth 20000 in
theorem gX4_allow_X4_put : GoodIn wsX4_allow (va_wsS RX4 75 yX4_put wsX4_put) := goodIn_app (goodIn_of _ (by decide +kernel)) ggX4_allow_X4_put
set_option maxRecDepth 20000 in
theorem ggX4_allow_X2_withdrawFailing : GoodIn wsX4_allow wsX2_withdrawFailing := goodIn_r _ [51, 41, 52, 53, 54, 55, 56, 57, 26, 58, 40, 59, 60, 61, 62, 33, 63, 5, 64, 65, 66, 67, 68, 32, 69, 70, 71, 72, 73, 74, 75, 76, 77, 35, 36, 43, 44, 78, 79, 80, 81, 34, 82, 83, 84, 85, 86, 87, 88, 89, 90, 91, 92, 93, 94, 95, 96, 97, 98, 31, 99, 100, 101, 102, 103, 39, 104, 46, 47, 110, 111, 112, 113, 114, 115, 116, 117, 118, 119, 120, 121, 122, 123, 124, 125, 126, 127, 128, 129, 130, 131, 132, 133, 134, 135, 136] (by decide +kernel) (by decide +kernel)
set_option maxRecDepth 20000 in
theorem gX4_allow_X2_withdrawFailing : GoodIn wsX4_allow (wsV RX4 79 RX2 yX2_withdrawFailing wsX2_withdrawFailing) := goodIn_app (goodIn_of _ (by decide +kernel)) ggX4_allow_X2_withdrawFailing
theorem dX4_allow_0 : decode cX4_allow 0 = .ok (.iload_n 1, 1) := by decide +kernel
theorem dX4_allow_1 : decode cX4_allow 1 = .ok (.invokestatic 42, 3) := by decide +kernel
theorem dX4_allow_4 : decode cX4_allow 4 = .ok (.ifCond .eq 21, 3) := by decide +kernel
theorem dX4_allow_7 : decode cX4_allow 7 = .ok (.iload_n 2, 1) := by decide +kernel
theorem dX4_allow_8 : decode cX4_allow 8 = .ok (.invokestatic 118, 3) := by decide +kernel
theorem dX4_allow_11 : decode cX4_allow 11 = .ok (.ifCond .eq 14, 3) := by decide +kernel
theorem dX4_allow_14 : decode cX4_allow 14 = .ok (.iload_n 3, 1) := by decide +kernel
theorem dX4_allow_15 : decode cX4_allow 15 = .ok (.iconst 0, 1) := by decide +kernel
theorem dX4_allow_16 : decode cX4_allow 16 = .ok (.sipush 200, 3) := by decide +kernel
theorem dX4_allow_19 : decode cX4_allow 19 = .ok (.invokestatic 38, 3) := by decide +kernel
theorem dX4_allow_22 : decode cX4_allow 22 = .ok (.ifCond .ne 7, 3) := by decide +kernel
theorem dX4_allow_25 : decode cX4_allow 25 = .ok (.sipush (-1001), 3) := by decide +kernel
theorem dX4_allow_28 : decode cX4_allow 28 = .ok (.ireturn, 1) := by decide +kernel
theorem dX4_allow_29 : decode cX4_allow 29 = .ok (.aload_n 0, 1) := by decide +kernel
theorem dX4_allow_30 : decode cX4_allow 30 = .ok (.invokevirtual 52, 3) := by decide +kernel
theorem dX4_allow_33 : decode cX4_allow 33 = .ok (.aload_n 0, 1) := by decide +kernel
theorem dX4_allow_34 : decode cX4_allow 34 = .ok (.getfield 10, 3) := by decide +kernel
theorem dX4_allow_37 : decode cX4_allow 37 = .ok (.getfield 124, 3) := by decide +kernel
theorem dX4_allow_40 : decode cX4_allow 40 = .ok (.iload_n 1, 1) := by decide +kernel
theorem dX4_allow_41 : decode cX4_allow 41 = .ok (.iload_n 2, 1) := by decide +kernel
theorem dX4_allow_42 : decode cX4_allow 42 = .ok (.invokestatic 127, 3) := by decide +kernel
theorem dX4_allow_45 : decode cX4_allow 45 = .ok (.iload_n 3, 1) := by decide +kernel
theorem dX4_allow_46 : decode cX4_allow 46 = .ok (.invokestatic 75, 3) := by decide +kernel
theorem dX4_allow_49 : decode cX4_allow 49 = .ok (.aload_n 0, 1) := by decide +kernel
theorem dX4_allow_50 : decode cX4_allow 50 = .ok (.getfield 10, 3) := by decide +kernel
theorem dX4_allow_53 : decode cX4_allow 53 = .ok (.invokevirtual 79, 3) := by decide +kernel
theorem dX4_allow_56 : decode cX4_allow 56 = .ok (.ireturn, 1) := by decide +kernel
set_option maxRecDepth 20000 in
theorem ggX4_transfer_X4_isStreet : GoodIn wsX4_transfer wsX4_isStreet := goodIn_r _ [7, 8, 9, 6, 10] (by decide +kernel) (by decide +kernel)
set_option maxRecDepth 20000 in
theorem gX4_transfer_X4_isStreet : GoodIn wsX4_transfer (va_wsS RX4 42 yX4_isStreet wsX4_isStreet) := goodIn_app (goodIn_of _ (by decide +kernel)) ggX4_transfer_X4_isStreet
set_option maxRecDepth 20000 in
theorem ggX4_transfer_X4_isNight : GoodIn wsX4_transfer wsX4_isNight := goodIn_r _ [13, 8, 9, 6, 10] (by decide +kernel) (by decide +kernel)
set_option maxRecDepth 20000 in
theorem gX4_transfer_X4_isNight : GoodIn wsX4_transfer (va_wsS RX4 118 yX4_isNight wsX4_isNight) := goodIn_app (goodIn_of _ (by decide +kernel)) ggX4_transfer_X4_isNight
set_option maxRecDepth 20000 in
theorem ggX4_transfer_X4_isIn : GoodIn wsX4_transfer wsX4_isIn := goodIn_r _ [10] (by decide +kernel) (by decide +kernel)
set_option maxRecDepth 20000 in
theorem gX4_transfer_X4_isIn : GoodIn wsX4_transfer (va_wsS RX4 38 yX4_isIn wsX4_isIn) := goodIn_app (goodIn_of _ (by decide +kernel)) ggX4_transfer_X4_isIn
set_option maxRecDepth 20000 in
theorem ggX4_transfer_X2_freeOf : GoodIn wsX4_transfer wsX2_freeOf := goodIn_r _ [18, 19, 20, 21, 17, 22, 23, 24, 25, 6, 26, 27, 28, 29, 30, 31, 32, 33, 34, 35, 36, 37, 38, 39, 40, 41, 42, 43, 44, 45, 46, 47, 48, 49, 50, 51, 52, 53, 54, 55, 56, 57, 58, 59, 60, 92, 93, 94, 95, 96, 97, 98, 99, 100, 101, 102, 103, 104, 105, 106, 107, 108, 109, 110, 111, 112, 113, 114, 115, 116, 117, 118] (by decide +kernel) (by decide +kernel)
set_option maxRecDepth 20000 in
theorem gX4_transfer_X2_freeOf : GoodIn wsX4_transfer (wsV RX4 131 RX2 yX2_freeOf wsX2_freeOf) := goodIn_app (goodIn_of _ (by decide +kernel)) ggX4_transfer_X2_freeOf
set_option maxRecDepth 20000 in
theorem ggX4_transfer_X4_remember : GoodIn wsX4_transfer wsX4_remember := goodIn_r _ [64, 65, 66, 67, 68, 69, 70, 1, 71, 72, 73, 17, 74, 75, 76, 77, 59, 32, 78, 31, 23, 24, 79, 80, 81, 46, 39, 87, 88, 89, 90, 91, 92, 93, 94, 95, 96, 97, 98, 99, 100, 101, 102, 103, 104] (by decide +kernel) (by decide +kernel)
set_option maxRecDepth 20000 in
theorem gX4_transfer_X4_remember : GoodIn wsX4_transfer (wsV RX4 52 RX4 yX4_remember wsX4_remember) := goodIn_app (goodIn_of _ (by decide +kernel)) ggX4_transfer_X4_remember
set_option maxRecDepth 20000 in
theorem ggX4_transfer_X4_streetNight : GoodIn wsX4_transfer wsX4_streetNight := goodIn_r _ [26] (by decide +kernel) (by decide +kernel)
set_option maxRecDepth 20000 in
theorem gX4_transfer_X4_streetNight : GoodIn wsX4_transfer (va_wsS RX4 127 yX4_streetNight wsX4_streetNight) := goodIn_app (goodIn_of _ (by decide +kernel)) ggX4_transfer_X4_streetNight
set_option maxRecDepth 20000 in
theorem ggX4_transfer_X4_at : GoodIn wsX4_transfer wsX4_at := goodIn_r _ [34] (by decide +kernel) (by decide +kernel)
set_option maxRecDepth 20000 in
theorem gX4_transfer_X4_at : GoodIn wsX4_transfer (va_wsS RX4 98 yX4_at wsX4_at) := goodIn_app (goodIn_of _ (by decide +kernel)) ggX4_transfer_X4_at
set_option maxRecDepth 20000 in
theorem ggX4_transfer_X4_put : GoodIn wsX4_transfer wsX4_put := goodIn_r _ [86] (by decide +kernel) (by decide +kernel)
set_option maxRecDepth 20000 in
theorem gX4_transfer_X4_put : GoodIn wsX4_transfer (va_wsS RX4 75 yX4_put wsX4_put) := goodIn_app (goodIn_of _ (by decide +kernel)) ggX4_transfer_X4_put
theorem dX4_transfer_0 : decode cX4_transfer 0 = .ok (.iload_n 1, 1) := by decide +kernel
theorem dX4_transfer_1 : decode cX4_transfer 1 = .ok (.invokestatic 42, 3) := by decide +kernel
theorem dX4_transfer_4 : decode cX4_transfer 4 = .ok (.ifCond .eq 34, 3) := by decide +kernel
theorem dX4_transfer_7 : decode cX4_transfer 7 = .ok (.iload_n 2, 1) := by decide +kernel
theorem dX4_transfer_8 : decode cX4_transfer 8 = .ok (.invokestatic 42, 3) := by decide +kernel
theorem dX4_transfer_11 : decode cX4_transfer 11 = .ok (.ifCond .eq 27, 3) := by decide +kernel
theorem dX4_transfer_14 : decode cX4_transfer 14 = .ok (.iload_n 1, 1) := by decide +kernel
theorem dX4_transfer_15 : decode cX4_transfer 15 = .ok (.iload_n 2, 1) := by decide +kernel
theorem dX4_transfer_16 : decode cX4_transfer 16 = .ok (.if_icmp .eq 22, 3) := by decide +kernel
theorem dX4_transfer_19 : decode cX4_transfer 19 = .ok (.iload_n 3, 1) := by decide +kernel
theorem dX4_transfer_20 : decode cX4_transfer 20 = .ok (.invokestatic 118, 3) := by decide +kernel
theorem dX4_transfer_23 : decode cX4_transfer 23 = .ok (.ifCond .eq 15, 3) := by decide +kernel
theorem dX4_transfer_26 : decode cX4_transfer 26 = .ok (.iload 4, 2) := by decide +kernel
theorem dX4_transfer_28 : decode cX4_transfer 28 = .ok (.iconst 1, 1) := by decide +kernel
theorem dX4_transfer_29 : decode cX4_transfer 29 = .ok (.sipush 200, 3) := by decide +kernel
theorem dX4_transfer_32 : decode cX4_transfer 32 = .ok (.invokestatic 38, 3) := by decide +kernel
theorem dX4_transfer_35 : decode cX4_transfer 35 = .ok (.ifCond .ne 7, 3) := by decide +kernel
theorem dX4_transfer_38 : decode cX4_transfer 38 = .ok (.sipush (-1001), 3) := by decide +kernel
theorem dX4_transfer_41 : decode cX4_transfer 41 = .ok (.ireturn, 1) := by decide +kernel
theorem dX4_transfer_42 : decode cX4_transfer 42 = .ok (.aload_n 0, 1) := by decide +kernel
theorem dX4_transfer_43 : decode cX4_transfer 43 = .ok (.getfield 10, 3) := by decide +kernel
theorem dX4_transfer_46 : decode cX4_transfer 46 = .ok (.iload_n 1, 1) := by decide +kernel
theorem dX4_transfer_47 : decode cX4_transfer 47 = .ok (.iload_n 3, 1) := by decide +kernel
theorem dX4_transfer_48 : decode cX4_transfer 48 = .ok (.invokevirtual 131, 3) := by decide +kernel
theorem dX4_transfer_51 : decode cX4_transfer 51 = .ok (.iload 4, 2) := by decide +kernel
theorem dX4_transfer_53 : decode cX4_transfer 53 = .ok (.isub, 1) := by decide +kernel
theorem dX4_transfer_54 : decode cX4_transfer 54 = .ok (.istore 5, 2) := by decide +kernel
theorem dX4_transfer_56 : decode cX4_transfer 56 = .ok (.iload 5, 2) := by decide +kernel
theorem dX4_transfer_58 : decode cX4_transfer 58 = .ok (.ifCond .ge 7, 3) := by decide +kernel
theorem dX4_transfer_61 : decode cX4_transfer 61 = .ok (.sipush (-1002), 3) := by decide +kernel
theorem dX4_transfer_64 : decode cX4_transfer 64 = .ok (.ireturn, 1) := by decide +kernel
theorem dX4_transfer_65 : decode cX4_transfer 65 = .ok (.aload_n 0, 1) := by decide +kernel
theorem dX4_transfer_66 : decode cX4_transfer 66 = .ok (.invokevirtual 52, 3) := by decide +kernel
theorem dX4_transfer_69 : decode cX4_transfer 69 = .ok (.iload_n 1, 1) := by decide +kernel
theorem dX4_transfer_70 : decode cX4_transfer 70 = .ok (.iload_n 3, 1) := by decide +kernel
theorem dX4_transfer_71 : decode cX4_transfer 71 = .ok (.invokestatic 127, 3) := by decide +kernel
theorem dX4_transfer_74 : decode cX4_transfer 74 = .ok (.istore 6, 2) := by decide +kernel
theorem dX4_transfer_76 : decode cX4_transfer 76 = .ok (.iload_n 2, 1) := by decide +kernel
theorem dX4_transfer_77 : decode cX4_transfer 77 = .ok (.iload_n 3, 1) := by decide +kernel
theorem dX4_transfer_78 : decode cX4_transfer 78 = .ok (.invokestatic 127, 3) := by decide +kernel
theorem dX4_transfer_81 : decode cX4_transfer 81 = .ok (.istore 7, 2) := by decide +kernel
theorem dX4_transfer_83 : decode cX4_transfer 83 = .ok (.aload_n 0, 1) := by decide +kernel
theorem dX4_transfer_84 : decode cX4_transfer 84 = .ok (.getfield 10, 3) := by decide +kernel
theorem dX4_transfer_87 : decode cX4_transfer 87 = .ok (.getfield 134, 3) := by decide +kernel
theorem dX4_transfer_90 : decode cX4_transfer 90 = .ok (.iload 6, 2) := by decide +kernel
theorem dX4_transfer_92 : decode cX4_transfer 92 = .ok (.aload_n 0, 1) := by decide +kernel
theorem dX4_transfer_93 : decode cX4_transfer 93 = .ok (.getfield 10, 3) := by decide +kernel
theorem dX4_transfer_96 : decode cX4_transfer 96 = .ok (.getfield 134, 3) := by decide +kernel
theorem dX4_transfer_99 : decode cX4_transfer 99 = .ok (.iload 6, 2) := by decide +kernel
theorem dX4_transfer_101 : decode cX4_transfer 101 = .ok (.invokestatic 98, 3) := by decide +kernel
theorem dX4_transfer_104 : decode cX4_transfer 104 = .ok (.iload 4, 2) := by decide +kernel
theorem dX4_transfer_106 : decode cX4_transfer 106 = .ok (.iadd, 1) := by decide +kernel
theorem dX4_transfer_107 : decode cX4_transfer 107 = .ok (.invokestatic 75, 3) := by decide +kernel
theorem dX4_transfer_110 : decode cX4_transfer 110 = .ok (.aload_n 0, 1) := by decide +kernel
theorem dX4_transfer_111 : decode cX4_transfer 111 = .ok (.getfield 10, 3) := by decide +kernel
theorem dX4_transfer_114 : decode cX4_transfer 114 = .ok (.getfield 137, 3) := by decide +kernel
theorem dX4_transfer_117 : decode cX4_transfer 117 = .ok (.iload 7, 2) := by decide +kernel
theorem dX4_transfer_119 : decode cX4_transfer 119 = .ok (.aload_n 0, 1) := by decide +kernel
theorem dX4_transfer_120 : decode cX4_transfer 120 = .ok (.getfield 10, 3) := by decide +kernel
theorem dX4_transfer_123 : decode cX4_transfer 123 = .ok (.getfield 137, 3) := by decide +kernel
theorem dX4_transfer_126 : decode cX4_transfer 126 = .ok (.iload 7, 2) := by decide +kernel
theorem dX4_transfer_128 : decode cX4_transfer 128 = .ok (.invokestatic 98, 3) := by decide +kernel
theorem dX4_transfer_131 : decode cX4_transfer 131 = .ok (.iload 4, 2) := by decide +kernel
theorem dX4_transfer_133 : decode cX4_transfer 133 = .ok (.iadd, 1) := by decide +kernel
theorem dX4_transfer_134 : decode cX4_transfer 134 = .ok (.invokestatic 75, 3) := by decide +kernel
theorem dX4_transfer_137 : decode cX4_transfer 137 = .ok (.iload 5, 2) := by decide +kernel
theorem dX4_transfer_139 : decode cX4_transfer 139 = .ok (.ireturn, 1) := by decide +kernel
set_option maxRecDepth 20000 in
theorem ggX4_street_X4_isStreet : GoodIn wsX4_street wsX4_isStreet := goodIn_r _ [8, 9, 10, 7, 11] (by decide +kernel) (by decide +kernel)
set_option maxRecDepth 20000 in
theorem gX4_street_X4_isStreet : GoodIn wsX4_street (va_wsS RX4 42 yX4_isStreet wsX4_isStreet) := goodIn_app (goodIn_of _ (by decide +kernel)) ggX4_street_X4_isStreet
set_option maxRecDepth 20000 in
theorem ggX4_street_X4_isNight : GoodIn wsX4_street wsX4_isNight := goodIn_r _ [14, 9, 10, 7, 11] (by decide +kernel) (by decide +kernel)
set_option maxRecDepth 20000 in
theorem gX4_street_X4_isNight : GoodIn wsX4_street (va_wsS RX4 118 yX4_isNight wsX4_isNight) := goodIn_app (goodIn_of _ (by decide +kernel)) ggX4_street_X4_isNight
set_option maxRecDepth 20000 in
theorem ggX4_street_X2_allowanceOf : GoodIn wsX4_street wsX2_allowanceOf := goodIn_r _ [19, 20, 21, 22, 7, 23, 24, 25, 70, 71, 72, 73, 74, 75, 76, 77, 78, 79, 80, 81, 82] (by decide +kernel) (by decide +kernel)
set_option maxRecDepth 20000 in
theorem gX4_street_X2_allowanceOf : GoodIn wsX4_street (wsV RX4 140 RX2 yX2_allowanceOf wsX2_allowanceOf) := goodIn_app (goodIn_of _ (by decide +kernel)) ggX4_street_X2_allowanceOf
set_option maxRecDepth 20000 in
theorem ggX4_street_X4_streetNight : GoodIn wsX4_street wsX4_streetNight := goodIn_r _ [23] (by decide +kernel) (by decide +kernel)
set_option maxRecDepth 20000 in
theorem gX4_street_X4_streetNight : GoodIn wsX4_street (va_wsS RX4 127 yX4_streetNight wsX4_streetNight) := goodIn_app (goodIn_of _ (by decide +kernel)) ggX4_street_X4_streetNight
set_option maxRecDepth 20000 in
theorem ggX4_street_X4_at : GoodIn wsX4_street wsX4_at := goodIn_r _ [25] (by decide +kernel) (by decide +kernel)
set_option maxRecDepth 20000 in
theorem gX4_street_X4_at : GoodIn wsX4_street (va_wsS RX4 98 yX4_at wsX4_at) := goodIn_app (goodIn_of _ (by decide +kernel)) ggX4_street_X4_at
set_option maxRecDepth 20000 in
theorem ggX4_street_X2_creditsOf : GoodIn wsX4_street wsX2_creditsOf := goodIn_r _ [31, 32, 33, 22, 7, 23, 34, 16, 17, 18, 19, 20, 21, 24, 25, 70, 71, 72, 73, 74, 75, 76, 77, 78, 79, 80, 81, 82] (by decide +kernel) (by decide +kernel)
set_option maxRecDepth 20000 in
theorem gX4_street_X2_creditsOf : GoodIn wsX4_street (wsV RX4 143 RX2 yX2_creditsOf wsX2_creditsOf) := goodIn_app (goodIn_of _ (by decide +kernel)) ggX4_street_X2_creditsOf
set_option maxRecDepth 20000 in
theorem ggX4_street_X2_usedOf : GoodIn wsX4_street wsX2_usedOf := goodIn_r _ [38, 39, 40, 41, 42, 43, 44, 18, 45, 46, 47, 48, 49, 50, 51, 52, 53, 54, 55, 56, 57, 58, 59, 60, 24, 7, 25, 70, 71, 72, 73, 74, 75, 76, 77, 78, 79, 80, 81, 82, 83, 84, 85, 86, 87, 88, 89, 90, 91, 92, 93, 94, 95, 96] (by decide +kernel) (by decide +kernel)
set_option maxRecDepth 20000 in
theorem gX4_street_X2_usedOf : GoodIn wsX4_street (wsV RX4 146 RX2 yX2_usedOf wsX2_usedOf) := goodIn_app (goodIn_of _ (by decide +kernel)) ggX4_street_X2_usedOf
set_option maxRecDepth 20000 in
theorem ggX4_street_X2_validOfStreet : GoodIn wsX4_street wsX2_validOfStreet := goodIn_r _ [64, 39, 42, 43, 44, 18, 45, 46, 47, 48, 49, 50, 51, 52, 53, 54, 70, 71, 72, 73, 74, 75, 76, 77, 78, 79, 80, 81, 82, 83, 84, 85, 86, 87, 88, 89, 90, 91, 92, 93, 94, 95, 96] (by decide +kernel) (by decide +kernel)
set_option maxRecDepth 20000 in
theorem gX4_street_X2_validOfStreet : GoodIn wsX4_street (wsV RX4 149 RX2 yX2_validOfStreet wsX2_validOfStreet) := goodIn_app (goodIn_of _ (by decide +kernel)) ggX4_street_X2_validOfStreet
theorem dX4_street_0 : decode cX4_street 0 = .ok (.iload_n 1, 1) := by decide +kernel
theorem dX4_street_1 : decode cX4_street 1 = .ok (.invokestatic 42, 3) := by decide +kernel
theorem dX4_street_4 : decode cX4_street 4 = .ok (.ifCond .eq 10, 3) := by decide +kernel
theorem dX4_street_7 : decode cX4_street 7 = .ok (.iload_n 2, 1) := by decide +kernel
theorem dX4_street_8 : decode cX4_street 8 = .ok (.invokestatic 118, 3) := by decide +kernel
theorem dX4_street_11 : decode cX4_street 11 = .ok (.ifCond .ne 7, 3) := by decide +kernel
theorem dX4_street_14 : decode cX4_street 14 = .ok (.sipush (-1001), 3) := by decide +kernel
theorem dX4_street_17 : decode cX4_street 17 = .ok (.ireturn, 1) := by decide +kernel
theorem dX4_street_18 : decode cX4_street 18 = .ok (.iload_n 3, 1) := by decide +kernel
theorem dX4_street_19 : decode cX4_street 19 = .ok (.tableswitch 125 0 6 #[41, 51, 67, 83, 93, 103, 113], 41) := by decide +kernel
theorem dX4_street_60 : decode cX4_street 60 = .ok (.aload_n 0, 1) := by decide +kernel
theorem dX4_street_61 : decode cX4_street 61 = .ok (.getfield 10, 3) := by decide +kernel
theorem dX4_street_64 : decode cX4_street 64 = .ok (.iload_n 1, 1) := by decide +kernel
theorem dX4_street_65 : decode cX4_street 65 = .ok (.iload_n 2, 1) := by decide +kernel
theorem dX4_street_66 : decode cX4_street 66 = .ok (.invokevirtual 140, 3) := by decide +kernel
theorem dX4_street_69 : decode cX4_street 69 = .ok (.ireturn, 1) := by decide +kernel
theorem dX4_street_70 : decode cX4_street 70 = .ok (.aload_n 0, 1) := by decide +kernel
theorem dX4_street_71 : decode cX4_street 71 = .ok (.getfield 10, 3) := by decide +kernel
theorem dX4_street_74 : decode cX4_street 74 = .ok (.getfield 137, 3) := by decide +kernel
theorem dX4_street_77 : decode cX4_street 77 = .ok (.iload_n 1, 1) := by decide +kernel
theorem dX4_street_78 : decode cX4_street 78 = .ok (.iload_n 2, 1) := by decide +kernel
theorem dX4_street_79 : decode cX4_street 79 = .ok (.invokestatic 127, 3) := by decide +kernel
theorem dX4_street_82 : decode cX4_street 82 = .ok (.invokestatic 98, 3) := by decide +kernel
theorem dX4_street_85 : decode cX4_street 85 = .ok (.ireturn, 1) := by decide +kernel
theorem dX4_street_86 : decode cX4_street 86 = .ok (.aload_n 0, 1) := by decide +kernel
theorem dX4_street_87 : decode cX4_street 87 = .ok (.getfield 10, 3) := by decide +kernel
theorem dX4_street_90 : decode cX4_street 90 = .ok (.getfield 134, 3) := by decide +kernel
theorem dX4_street_93 : decode cX4_street 93 = .ok (.iload_n 1, 1) := by decide +kernel
theorem dX4_street_94 : decode cX4_street 94 = .ok (.iload_n 2, 1) := by decide +kernel
theorem dX4_street_95 : decode cX4_street 95 = .ok (.invokestatic 127, 3) := by decide +kernel
theorem dX4_street_98 : decode cX4_street 98 = .ok (.invokestatic 98, 3) := by decide +kernel
theorem dX4_street_101 : decode cX4_street 101 = .ok (.ireturn, 1) := by decide +kernel
theorem dX4_street_102 : decode cX4_street 102 = .ok (.aload_n 0, 1) := by decide +kernel
theorem dX4_street_103 : decode cX4_street 103 = .ok (.getfield 10, 3) := by decide +kernel
theorem dX4_street_106 : decode cX4_street 106 = .ok (.iload_n 1, 1) := by decide +kernel
theorem dX4_street_107 : decode cX4_street 107 = .ok (.iload_n 2, 1) := by decide +kernel
theorem dX4_street_108 : decode cX4_street 108 = .ok (.invokevirtual 143, 3) := by decide +kernel
theorem dX4_street_111 : decode cX4_street 111 = .ok (.ireturn, 1) := by decide +kernel
theorem dX4_street_112 : decode cX4_street 112 = .ok (.aload_n 0, 1) := by decide +kernel
theorem dX4_street_113 : decode cX4_street 113 = .ok (.getfield 10, 3) := by decide +kernel
theorem dX4_street_116 : decode cX4_street 116 = .ok (.iload_n 1, 1) := by decide +kernel
theorem dX4_street_117 : decode cX4_street 117 = .ok (.iload_n 2, 1) := by decide +kernel
theorem dX4_street_118 : decode cX4_street 118 = .ok (.invokevirtual 146, 3) := by decide +kernel
theorem dX4_street_121 : decode cX4_street 121 = .ok (.ireturn, 1) := by decide +kernel
theorem dX4_street_122 : decode cX4_street 122 = .ok (.aload_n 0, 1) := by decide +kernel
theorem dX4_street_123 : decode cX4_street 123 = .ok (.getfield 10, 3) := by decide +kernel
theorem dX4_street_126 : decode cX4_street 126 = .ok (.iload_n 1, 1) := by decide +kernel
theorem dX4_street_127 : decode cX4_street 127 = .ok (.iload_n 2, 1) := by decide +kernel
theorem dX4_street_128 : decode cX4_street 128 = .ok (.invokevirtual 149, 3) := by decide +kernel
theorem dX4_street_131 : decode cX4_street 131 = .ok (.ireturn, 1) := by decide +kernel
theorem dX4_street_132 : decode cX4_street 132 = .ok (.aload_n 0, 1) := by decide +kernel
theorem dX4_street_133 : decode cX4_street 133 = .ok (.getfield 10, 3) := by decide +kernel
theorem dX4_street_136 : decode cX4_street 136 = .ok (.getfield 121, 3) := by decide +kernel
theorem dX4_street_139 : decode cX4_street 139 = .ok (.iload_n 2, 1) := by decide +kernel
theorem dX4_street_140 : decode cX4_street 140 = .ok (.invokestatic 98, 3) := by decide +kernel
theorem dX4_street_143 : decode cX4_street 143 = .ok (.ireturn, 1) := by decide +kernel
theorem dX4_street_144 : decode cX4_street 144 = .ok (.sipush (-1001), 3) := by decide +kernel
theorem dX4_street_147 : decode cX4_street 147 = .ok (.ireturn, 1) := by decide +kernel
set_option maxRecDepth 20000 in
theorem ggX4_count_X2_permitsWith : GoodIn wsX4_count wsX2_permitsWith := goodIn_r _ [13, 14, 15, 16, 17, 18, 79, 80, 81, 82, 83, 84, 85, 86, 87, 88, 89, 90, 91] (by decide +kernel) (by decide +kernel)
set_option maxRecDepth 20000 in
theorem gX4_count_X2_permitsWith : GoodIn wsX4_count (wsV RX4 158 RX2 yX2_permitsWith wsX2_permitsWith) := goodIn_app (goodIn_of _ (by decide +kernel)) ggX4_count_X2_permitsWith
set_option maxRecDepth 20000 in
theorem ggX4_count_X2_usedByAll : GoodIn wsX4_count wsX2_usedByAll := goodIn_r _ [22, 23, 24, 25, 26, 27, 28, 12, 29, 30, 31, 32, 33, 34, 35, 36, 16, 17, 18, 79, 80, 81, 82, 83, 84, 85, 86, 87, 88, 89, 90, 91, 101, 102, 103, 104, 105, 106, 107, 108, 109, 110, 111, 112, 113, 114] (by decide +kernel) (by decide +kernel)
set_option maxRecDepth 20000 in
theorem gX4_count_X2_usedByAll : GoodIn wsX4_count (wsV RX4 162 RX2 yX2_usedByAll wsX2_usedByAll) := goodIn_app (goodIn_of _ (by decide +kernel)) ggX4_count_X2_usedByAll
set_option maxRecDepth 20000 in
theorem ggX4_count_X2_sharingPairs : GoodIn wsX4_count wsX2_sharingPairs := goodIn_r _ [40, 23, 24, 41, 25, 42, 26, 27, 28, 12, 29, 30, 43, 44, 45, 46, 47, 48, 49, 50, 51, 52, 53, 54, 55, 56, 57, 58, 59, 60, 61, 62, 63, 64, 65, 66, 16, 17, 18, 67, 68, 69, 70, 71, 72, 79, 80, 81, 82, 83, 84, 85, 86, 87, 88, 89, 90, 91, 101, 102, 103, 104, 105, 106, 107, 108, 109, 110, 111, 112, 113, 114] (by decide +kernel) (by decide +kernel)
set_option maxRecDepth 20000 in
theorem gX4_count_X2_sharingPairs : GoodIn wsX4_count (wsV RX4 165 RX2 yX2_sharingPairs wsX2_sharingPairs) := goodIn_app (goodIn_of _ (by decide +kernel)) ggX4_count_X2_sharingPairs
set_option maxRecDepth 20000 in
theorem ggX4_count_X4_at : GoodIn wsX4_count wsX4_at := goodIn_r _ [18] (by decide +kernel) (by decide +kernel)
set_option maxRecDepth 20000 in
theorem gX4_count_X4_at : GoodIn wsX4_count (va_wsS RX4 98 yX4_at wsX4_at) := goodIn_app (goodIn_of _ (by decide +kernel)) ggX4_count_X4_at
theorem dX4_count_0 : decode cX4_count 0 = .ok (.iload_n 1, 1) := by decide +kernel
theorem dX4_count_1 : decode cX4_count 1 = .ok (.tableswitch 174 0 12 #[67, 75, 83, 91, 100, 109, 117, 125, 130, 174, 138, 150, 162], 67) := by decide +kernel
theorem dX4_count_68 : decode cX4_count 68 = .ok (.aload_n 0, 1) := by decide +kernel
theorem dX4_count_69 : decode cX4_count 69 = .ok (.getfield 10, 3) := by decide +kernel
theorem dX4_count_72 : decode cX4_count 72 = .ok (.getfield 49, 3) := by decide +kernel
theorem dX4_count_75 : decode cX4_count 75 = .ok (.ireturn, 1) := by decide +kernel
theorem dX4_count_76 : decode cX4_count 76 = .ok (.aload_n 0, 1) := by decide +kernel
theorem dX4_count_77 : decode cX4_count 77 = .ok (.getfield 10, 3) := by decide +kernel
theorem dX4_count_80 : decode cX4_count 80 = .ok (.getfield 152, 3) := by decide +kernel
theorem dX4_count_83 : decode cX4_count 83 = .ok (.ireturn, 1) := by decide +kernel
theorem dX4_count_84 : decode cX4_count 84 = .ok (.aload_n 0, 1) := by decide +kernel
theorem dX4_count_85 : decode cX4_count 85 = .ok (.getfield 10, 3) := by decide +kernel
theorem dX4_count_88 : decode cX4_count 88 = .ok (.getfield 155, 3) := by decide +kernel
theorem dX4_count_91 : decode cX4_count 91 = .ok (.ireturn, 1) := by decide +kernel
theorem dX4_count_92 : decode cX4_count 92 = .ok (.aload_n 0, 1) := by decide +kernel
theorem dX4_count_93 : decode cX4_count 93 = .ok (.getfield 10, 3) := by decide +kernel
theorem dX4_count_96 : decode cX4_count 96 = .ok (.iconst 2, 1) := by decide +kernel
theorem dX4_count_97 : decode cX4_count 97 = .ok (.invokevirtual 158, 3) := by decide +kernel
theorem dX4_count_100 : decode cX4_count 100 = .ok (.ireturn, 1) := by decide +kernel
theorem dX4_count_101 : decode cX4_count 101 = .ok (.aload_n 0, 1) := by decide +kernel
theorem dX4_count_102 : decode cX4_count 102 = .ok (.getfield 10, 3) := by decide +kernel
theorem dX4_count_105 : decode cX4_count 105 = .ok (.iconst 3, 1) := by decide +kernel
theorem dX4_count_106 : decode cX4_count 106 = .ok (.invokevirtual 158, 3) := by decide +kernel
theorem dX4_count_109 : decode cX4_count 109 = .ok (.ireturn, 1) := by decide +kernel
theorem dX4_count_110 : decode cX4_count 110 = .ok (.aload_n 0, 1) := by decide +kernel
theorem dX4_count_111 : decode cX4_count 111 = .ok (.getfield 10, 3) := by decide +kernel
theorem dX4_count_114 : decode cX4_count 114 = .ok (.invokevirtual 162, 3) := by decide +kernel
theorem dX4_count_117 : decode cX4_count 117 = .ok (.ireturn, 1) := by decide +kernel
theorem dX4_count_118 : decode cX4_count 118 = .ok (.aload_n 0, 1) := by decide +kernel
theorem dX4_count_119 : decode cX4_count 119 = .ok (.getfield 10, 3) := by decide +kernel
theorem dX4_count_122 : decode cX4_count 122 = .ok (.invokevirtual 165, 3) := by decide +kernel
theorem dX4_count_125 : decode cX4_count 125 = .ok (.ireturn, 1) := by decide +kernel
theorem dX4_count_126 : decode cX4_count 126 = .ok (.aload_n 0, 1) := by decide +kernel
theorem dX4_count_127 : decode cX4_count 127 = .ok (.getfield 23, 3) := by decide +kernel
theorem dX4_count_130 : decode cX4_count 130 = .ok (.ireturn, 1) := by decide +kernel
theorem dX4_count_131 : decode cX4_count 131 = .ok (.aload_n 0, 1) := by decide +kernel
theorem dX4_count_132 : decode cX4_count 132 = .ok (.getfield 30, 3) := by decide +kernel
theorem dX4_count_135 : decode cX4_count 135 = .ok (.getfield 168, 3) := by decide +kernel
theorem dX4_count_138 : decode cX4_count 138 = .ok (.ireturn, 1) := by decide +kernel
theorem dX4_count_139 : decode cX4_count 139 = .ok (.aload_n 0, 1) := by decide +kernel
theorem dX4_count_140 : decode cX4_count 140 = .ok (.getfield 10, 3) := by decide +kernel
theorem dX4_count_143 : decode cX4_count 143 = .ok (.getfield 115, 3) := by decide +kernel
theorem dX4_count_146 : decode cX4_count 146 = .ok (.iconst 0, 1) := by decide +kernel
theorem dX4_count_147 : decode cX4_count 147 = .ok (.invokestatic 98, 3) := by decide +kernel
theorem dX4_count_150 : decode cX4_count 150 = .ok (.ireturn, 1) := by decide +kernel
theorem dX4_count_151 : decode cX4_count 151 = .ok (.aload_n 0, 1) := by decide +kernel
theorem dX4_count_152 : decode cX4_count 152 = .ok (.getfield 10, 3) := by decide +kernel
theorem dX4_count_155 : decode cX4_count 155 = .ok (.getfield 115, 3) := by decide +kernel
theorem dX4_count_158 : decode cX4_count 158 = .ok (.iconst 1, 1) := by decide +kernel
theorem dX4_count_159 : decode cX4_count 159 = .ok (.invokestatic 98, 3) := by decide +kernel
theorem dX4_count_162 : decode cX4_count 162 = .ok (.ireturn, 1) := by decide +kernel
theorem dX4_count_163 : decode cX4_count 163 = .ok (.aload_n 0, 1) := by decide +kernel
theorem dX4_count_164 : decode cX4_count 164 = .ok (.getfield 10, 3) := by decide +kernel
theorem dX4_count_167 : decode cX4_count 167 = .ok (.getfield 115, 3) := by decide +kernel
theorem dX4_count_170 : decode cX4_count 170 = .ok (.iconst 2, 1) := by decide +kernel
theorem dX4_count_171 : decode cX4_count 171 = .ok (.invokestatic 98, 3) := by decide +kernel
theorem dX4_count_174 : decode cX4_count 174 = .ok (.ireturn, 1) := by decide +kernel
theorem dX4_count_175 : decode cX4_count 175 = .ok (.sipush (-1001), 3) := by decide +kernel
theorem dX4_count_178 : decode cX4_count 178 = .ok (.ireturn, 1) := by decide +kernel
set_option maxRecDepth 20000 in
theorem ggX4_undo_X2_copyFrom : GoodIn wsX4_undo wsX2_copyFrom := goodIn_r _ [8, 9, 10, 11, 12, 13, 14, 15, 16, 17, 18, 19, 20, 21, 22, 23, 24, 25, 31, 32, 33, 34, 35, 36, 37, 38, 39, 40, 41, 42, 43] (by decide +kernel) (by decide +kernel)
set_option maxRecDepth 20000 in
theorem gX4_undo_X2_copyFrom : GoodIn wsX4_undo (wsV RX4 171 RX2 yX2_copyFrom wsX2_copyFrom) := goodIn_app (goodIn_of _ (by decide +kernel)) ggX4_undo_X2_copyFrom
theorem dX4_undo_0 : decode cX4_undo 0 = .ok (.aload_n 0, 1) := by decide +kernel
theorem dX4_undo_1 : decode cX4_undo 1 = .ok (.getfield 23, 3) := by decide +kernel
theorem dX4_undo_4 : decode cX4_undo 4 = .ok (.iconst 1, 1) := by decide +kernel
theorem dX4_undo_5 : decode cX4_undo 5 = .ok (.if_icmp .lt 15, 3) := by decide +kernel
theorem dX4_undo_8 : decode cX4_undo 8 = .ok (.aload_n 0, 1) := by decide +kernel
theorem dX4_undo_9 : decode cX4_undo 9 = .ok (.getfield 23, 3) := by decide +kernel
theorem dX4_undo_12 : decode cX4_undo 12 = .ok (.aload_n 0, 1) := by decide +kernel
theorem dX4_undo_13 : decode cX4_undo 13 = .ok (.getfield 19, 3) := by decide +kernel
theorem dX4_undo_16 : decode cX4_undo 16 = .ok (.arraylength, 1) := by decide +kernel
theorem dX4_undo_17 : decode cX4_undo 17 = .ok (.if_icmp .le 7, 3) := by decide +kernel
theorem dX4_undo_20 : decode cX4_undo 20 = .ok (.sipush (-1002), 3) := by decide +kernel
theorem dX4_undo_23 : decode cX4_undo 23 = .ok (.ireturn, 1) := by decide +kernel
theorem dX4_undo_24 : decode cX4_undo 24 = .ok (.aload_n 0, 1) := by decide +kernel
theorem dX4_undo_25 : decode cX4_undo 25 = .ok (.dup, 1) := by decide +kernel
theorem dX4_undo_26 : decode cX4_undo 26 = .ok (.getfield 23, 3) := by decide +kernel
theorem dX4_undo_29 : decode cX4_undo 29 = .ok (.iconst 1, 1) := by decide +kernel
theorem dX4_undo_30 : decode cX4_undo 30 = .ok (.isub, 1) := by decide +kernel
theorem dX4_undo_31 : decode cX4_undo 31 = .ok (.putfield 23, 3) := by decide +kernel
theorem dX4_undo_34 : decode cX4_undo 34 = .ok (.aload_n 0, 1) := by decide +kernel
theorem dX4_undo_35 : decode cX4_undo 35 = .ok (.getfield 10, 3) := by decide +kernel
theorem dX4_undo_38 : decode cX4_undo 38 = .ok (.aload_n 0, 1) := by decide +kernel
theorem dX4_undo_39 : decode cX4_undo 39 = .ok (.getfield 19, 3) := by decide +kernel
theorem dX4_undo_42 : decode cX4_undo 42 = .ok (.aload_n 0, 1) := by decide +kernel
theorem dX4_undo_43 : decode cX4_undo 43 = .ok (.getfield 23, 3) := by decide +kernel
theorem dX4_undo_46 : decode cX4_undo 46 = .ok (.aaload, 1) := by decide +kernel
theorem dX4_undo_47 : decode cX4_undo 47 = .ok (.invokevirtual 171, 3) := by decide +kernel
theorem dX4_undo_50 : decode cX4_undo 50 = .ok (.aload_n 0, 1) := by decide +kernel
theorem dX4_undo_51 : decode cX4_undo 51 = .ok (.getfield 23, 3) := by decide +kernel
theorem dX4_undo_54 : decode cX4_undo 54 = .ok (.ireturn, 1) := by decide +kernel
set_option maxRecDepth 20000 in
theorem ggX4_covers_X2_craneAt : GoodIn wsX4_covers wsX2_craneAt := goodIn_r _ [6, 7, 8, 30, 31, 32, 33, 34, 35, 36, 37, 38, 39, 40, 41, 42] (by decide +kernel) (by decide +kernel)
set_option maxRecDepth 20000 in
theorem gX4_covers_X2_craneAt : GoodIn wsX4_covers (wsV RX4 67 RX2 yX2_craneAt wsX2_craneAt) := goodIn_app (goodIn_of _ (by decide +kernel)) ggX4_covers_X2_craneAt
set_option maxRecDepth 20000 in
theorem ggX4_covers_X4_isSwing : GoodIn wsX4_covers wsX4_isSwing := goodIn_r _ [12, 13, 14, 11, 15] (by decide +kernel) (by decide +kernel)
set_option maxRecDepth 20000 in
theorem gX4_covers_X4_isSwing : GoodIn wsX4_covers (va_wsS RX4 175 yX4_isSwing wsX4_isSwing) := goodIn_app (goodIn_of _ (by decide +kernel)) ggX4_covers_X4_isSwing
set_option maxRecDepth 20000 in
theorem ggX4_covers_X4_isCell : GoodIn wsX4_covers wsX4_isCell := goodIn_r _ [18, 13, 14, 11, 15] (by decide +kernel) (by decide +kernel)
set_option maxRecDepth 20000 in
theorem gX4_covers_X4_isCell : GoodIn wsX4_covers (va_wsS RX4 34 yX4_isCell wsX4_isCell) := goodIn_app (goodIn_of _ (by decide +kernel)) ggX4_covers_X4_isCell
set_option maxRecDepth 20000 in
theorem ggX4_covers_X0_airOf : GoodIn wsX4_covers wsX0_airOf := goodIn_r _ [23, 24, 43, 44, 45, 46, 47, 48, 49] (by decide +kernel) (by decide +kernel)
set_option maxRecDepth 20000 in
theorem gX4_covers_X0_airOf : GoodIn wsX4_covers (wsV RX4 178 RX0 yX0_airOf wsX0_airOf) := goodIn_app (goodIn_of _ (by decide +kernel)) ggX4_covers_X0_airOf
theorem dX4_covers_0 : decode cX4_covers 0 = .ok (.aload_n 0, 1) := by decide +kernel
theorem dX4_covers_1 : decode cX4_covers 1 = .ok (.getfield 10, 3) := by decide +kernel
theorem dX4_covers_4 : decode cX4_covers 4 = .ok (.iload_n 1, 1) := by decide +kernel
theorem dX4_covers_5 : decode cX4_covers 5 = .ok (.invokevirtual 67, 3) := by decide +kernel
theorem dX4_covers_8 : decode cX4_covers 8 = .ok (.astore 5, 2) := by decide +kernel
theorem dX4_covers_10 : decode cX4_covers 10 = .ok (.aload 5, 2) := by decide +kernel
theorem dX4_covers_12 : decode cX4_covers 12 = .ok (.ifnull 19, 3) := by decide +kernel
theorem dX4_covers_15 : decode cX4_covers 15 = .ok (.iload_n 2, 1) := by decide +kernel
theorem dX4_covers_16 : decode cX4_covers 16 = .ok (.invokestatic 175, 3) := by decide +kernel
theorem dX4_covers_19 : decode cX4_covers 19 = .ok (.ifCond .eq 12, 3) := by decide +kernel
theorem dX4_covers_22 : decode cX4_covers 22 = .ok (.iload_n 3, 1) := by decide +kernel
theorem dX4_covers_23 : decode cX4_covers 23 = .ok (.iload 4, 2) := by decide +kernel
theorem dX4_covers_25 : decode cX4_covers 25 = .ok (.invokestatic 34, 3) := by decide +kernel
theorem dX4_covers_28 : decode cX4_covers 28 = .ok (.ifCond .ne 7, 3) := by decide +kernel
theorem dX4_covers_31 : decode cX4_covers 31 = .ok (.sipush (-1001), 3) := by decide +kernel
theorem dX4_covers_34 : decode cX4_covers 34 = .ok (.ireturn, 1) := by decide +kernel
theorem dX4_covers_35 : decode cX4_covers 35 = .ok (.bipush 16, 2) := by decide +kernel
theorem dX4_covers_37 : decode cX4_covers 37 = .ok (.iload 4, 2) := by decide +kernel
theorem dX4_covers_39 : decode cX4_covers 39 = .ok (.imul, 1) := by decide +kernel
theorem dX4_covers_40 : decode cX4_covers 40 = .ok (.iload_n 3, 1) := by decide +kernel
theorem dX4_covers_41 : decode cX4_covers 41 = .ok (.iadd, 1) := by decide +kernel
theorem dX4_covers_42 : decode cX4_covers 42 = .ok (.istore 6, 2) := by decide +kernel
theorem dX4_covers_44 : decode cX4_covers 44 = .ok (.aload 5, 2) := by decide +kernel
theorem dX4_covers_46 : decode cX4_covers 46 = .ok (.iload_n 2, 1) := by decide +kernel
theorem dX4_covers_47 : decode cX4_covers 47 = .ok (.iload 6, 2) := by decide +kernel
theorem dX4_covers_49 : decode cX4_covers 49 = .ok (.bipush 64, 2) := by decide +kernel
theorem dX4_covers_51 : decode cX4_covers 51 = .ok (.idiv, 1) := by decide +kernel
theorem dX4_covers_52 : decode cX4_covers 52 = .ok (.invokevirtual 178, 3) := by decide +kernel
theorem dX4_covers_55 : decode cX4_covers 55 = .ok (.lstore 7, 2) := by decide +kernel
theorem dX4_covers_57 : decode cX4_covers 57 = .ok (.lload 7, 2) := by decide +kernel
theorem dX4_covers_59 : decode cX4_covers 59 = .ok (.iload 6, 2) := by decide +kernel
theorem dX4_covers_61 : decode cX4_covers 61 = .ok (.bipush 64, 2) := by decide +kernel
theorem dX4_covers_63 : decode cX4_covers 63 = .ok (.irem, 1) := by decide +kernel
theorem dX4_covers_64 : decode cX4_covers 64 = .ok (.lushr, 1) := by decide +kernel
theorem dX4_covers_65 : decode cX4_covers 65 = .ok (.lconst 1, 1) := by decide +kernel
theorem dX4_covers_66 : decode cX4_covers 66 = .ok (.land, 1) := by decide +kernel
theorem dX4_covers_67 : decode cX4_covers 67 = .ok (.lconst 0, 1) := by decide +kernel
theorem dX4_covers_68 : decode cX4_covers 68 = .ok (.lcmp, 1) := by decide +kernel
theorem dX4_covers_69 : decode cX4_covers 69 = .ok (.ifCond .ne 7, 3) := by decide +kernel
theorem dX4_covers_72 : decode cX4_covers 72 = .ok (.iconst 0, 1) := by decide +kernel
theorem dX4_covers_73 : decode cX4_covers 73 = .ok (.goto 4, 3) := by decide +kernel
theorem dX4_covers_76 : decode cX4_covers 76 = .ok (.iconst 1, 1) := by decide +kernel
theorem dX4_covers_77 : decode cX4_covers 77 = .ok (.ireturn, 1) := by decide +kernel
set_option maxRecDepth 20000 in
theorem ggX4_area_X2_craneAt : GoodIn wsX4_area wsX2_craneAt := goodIn_r _ [6, 7, 8, 34, 35, 36, 37, 38, 39, 40, 41, 42, 43, 44, 45, 46] (by decide +kernel) (by decide +kernel)
set_option maxRecDepth 20000 in
theorem gX4_area_X2_craneAt : GoodIn wsX4_area (wsV RX4 67 RX2 yX2_craneAt wsX2_craneAt) := goodIn_app (goodIn_of _ (by decide +kernel)) ggX4_area_X2_craneAt
set_option maxRecDepth 20000 in
theorem ggX4_area_X4_isSwing : GoodIn wsX4_area wsX4_isSwing := goodIn_r _ [12, 13, 14, 11, 15] (by decide +kernel) (by decide +kernel)
set_option maxRecDepth 20000 in
theorem gX4_area_X4_isSwing : GoodIn wsX4_area (va_wsS RX4 175 yX4_isSwing wsX4_isSwing) := goodIn_app (goodIn_of _ (by decide +kernel)) ggX4_area_X4_isSwing
set_option maxRecDepth 20000 in
theorem ggX4_area_X0_airOf : GoodIn wsX4_area wsX0_airOf := goodIn_r _ [20, 21, 47, 48, 49, 50, 51, 52, 53] (by decide +kernel) (by decide +kernel)
set_option maxRecDepth 20000 in
theorem gX4_area_X0_airOf : GoodIn wsX4_area (wsV RX4 178 RX0 yX0_airOf wsX0_airOf) := goodIn_app (goodIn_of _ (by decide +kernel)) ggX4_area_X0_airOf
set_option maxRecDepth 20000 in
theorem ggX4_area_J13_bitCount_95d88 : GoodIn wsX4_area wsJ13_bitCount_95d88 := goodIn_r _ [25, 26, 27, 28] (by decide +kernel) (by decide +kernel)
set_option maxRecDepth 20000 in
theorem gX4_area_J13_bitCount_95d88 : GoodIn wsX4_area (va_wsS RX4 182 yJ13_bitCount_95d88 wsJ13_bitCount_95d88) := goodIn_app (goodIn_of _ (by decide +kernel)) ggX4_area_J13_bitCount_95d88
theorem dX4_area_0 : decode cX4_area 0 = .ok (.aload_n 0, 1) := by decide +kernel
theorem dX4_area_1 : decode cX4_area 1 = .ok (.getfield 10, 3) := by decide +kernel
theorem dX4_area_4 : decode cX4_area 4 = .ok (.iload_n 1, 1) := by decide +kernel
theorem dX4_area_5 : decode cX4_area 5 = .ok (.invokevirtual 67, 3) := by decide +kernel
theorem dX4_area_8 : decode cX4_area 8 = .ok (.astore_n 3, 1) := by decide +kernel
theorem dX4_area_9 : decode cX4_area 9 = .ok (.aload_n 3, 1) := by decide +kernel
theorem dX4_area_10 : decode cX4_area 10 = .ok (.ifnull 10, 3) := by decide +kernel
theorem dX4_area_13 : decode cX4_area 13 = .ok (.iload_n 2, 1) := by decide +kernel
theorem dX4_area_14 : decode cX4_area 14 = .ok (.invokestatic 175, 3) := by decide +kernel
theorem dX4_area_17 : decode cX4_area 17 = .ok (.ifCond .ne 7, 3) := by decide +kernel
theorem dX4_area_20 : decode cX4_area 20 = .ok (.sipush (-1001), 3) := by decide +kernel
theorem dX4_area_23 : decode cX4_area 23 = .ok (.ireturn, 1) := by decide +kernel
theorem dX4_area_24 : decode cX4_area 24 = .ok (.iconst 0, 1) := by decide +kernel
theorem dX4_area_25 : decode cX4_area 25 = .ok (.istore 4, 2) := by decide +kernel
theorem dX4_area_27 : decode cX4_area 27 = .ok (.iconst 0, 1) := by decide +kernel
theorem dX4_area_28 : decode cX4_area 28 = .ok (.istore 5, 2) := by decide +kernel
theorem dX4_area_30 : decode cX4_area 30 = .ok (.iload 5, 2) := by decide +kernel
theorem dX4_area_32 : decode cX4_area 32 = .ok (.iconst 4, 1) := by decide +kernel
theorem dX4_area_33 : decode cX4_area 33 = .ok (.if_icmp .ge 24, 3) := by decide +kernel
theorem dX4_area_36 : decode cX4_area 36 = .ok (.iload 4, 2) := by decide +kernel
theorem dX4_area_38 : decode cX4_area 38 = .ok (.aload_n 3, 1) := by decide +kernel
theorem dX4_area_39 : decode cX4_area 39 = .ok (.iload_n 2, 1) := by decide +kernel
theorem dX4_area_40 : decode cX4_area 40 = .ok (.iload 5, 2) := by decide +kernel
theorem dX4_area_42 : decode cX4_area 42 = .ok (.invokevirtual 178, 3) := by decide +kernel
theorem dX4_area_45 : decode cX4_area 45 = .ok (.invokestatic 182, 3) := by decide +kernel
theorem dX4_area_48 : decode cX4_area 48 = .ok (.iadd, 1) := by decide +kernel
theorem dX4_area_49 : decode cX4_area 49 = .ok (.istore 4, 2) := by decide +kernel
theorem dX4_area_51 : decode cX4_area 51 = .ok (.iinc 5 1, 3) := by decide +kernel
theorem dX4_area_54 : decode cX4_area 54 = .ok (.goto (-24), 3) := by decide +kernel
theorem dX4_area_57 : decode cX4_area 57 = .ok (.iload 4, 2) := by decide +kernel
theorem dX4_area_59 : decode cX4_area 59 = .ok (.ireturn, 1) := by decide +kernel
set_option maxRecDepth 20000 in
theorem ggX4_refusal_X2_craneAt : GoodIn wsX4_refusal wsX2_craneAt := goodIn_r _ [6, 7, 8, 119, 120, 121, 122, 123, 124, 125, 126, 127, 128, 129, 130, 131] (by decide +kernel) (by decide +kernel)
set_option maxRecDepth 20000 in
theorem gX4_refusal_X2_craneAt : GoodIn wsX4_refusal (wsV RX4 67 RX2 yX2_craneAt wsX2_craneAt) := goodIn_app (goodIn_of _ (by decide +kernel)) ggX4_refusal_X2_craneAt
set_option maxRecDepth 20000 in
theorem ggX4_refusal_X4_isPlan : GoodIn wsX4_refusal wsX4_isPlan := goodIn_r _ [12, 13, 14, 11, 15, 16, 17, 18, 19, 20, 21] (by decide +kernel) (by decide +kernel)
set_option maxRecDepth 20000 in
theorem gX4_refusal_X4_isPlan : GoodIn wsX4_refusal (va_wsS RX4 188 yX4_isPlan wsX4_isPlan) := goodIn_app (goodIn_of _ (by decide +kernel)) ggX4_refusal_X4_isPlan
set_option maxRecDepth 20000 in
theorem ggX4_refusal_X2_refusalOf : GoodIn wsX4_refusal wsX2_refusalOf := goodIn_r _ [25, 26, 27, 28, 29, 5, 30, 31, 32, 33, 34, 35, 36, 37, 38, 39, 40, 41, 42, 43, 44, 45, 46, 47, 48, 49, 50, 51, 52, 53, 54, 55, 56, 11, 57, 58, 59, 60, 61, 62, 63, 64, 65, 66, 67, 68, 69, 70, 71, 72, 73, 74, 75, 76, 77, 78, 79, 80, 81, 82, 83, 84, 85, 86, 87, 88, 89, 90, 91, 92, 93, 94, 95, 96, 97, 98, 99, 100, 101, 102, 103, 104, 105, 106, 107, 108, 109, 110, 111, 112, 113, 132, 133, 134, 135, 136, 137, 138, 119, 120, 121, 122, 123, 124, 125, 126, 127, 128, 129, 130, 131, 139, 140, 141, 142, 143, 144, 145] (by decide +kernel) (by decide +kernel)
set_option maxRecDepth 20000 in
theorem gX4_refusal_X2_refusalOf : GoodIn wsX4_refusal (wsV RX4 191 RX2 yX2_refusalOf wsX2_refusalOf) := goodIn_app (goodIn_of _ (by decide +kernel)) ggX4_refusal_X2_refusalOf
theorem dX4_refusal_0 : decode cX4_refusal 0 = .ok (.aload_n 0, 1) := by decide +kernel
theorem dX4_refusal_1 : decode cX4_refusal 1 = .ok (.getfield 10, 3) := by decide +kernel
theorem dX4_refusal_4 : decode cX4_refusal 4 = .ok (.iload_n 1, 1) := by decide +kernel
theorem dX4_refusal_5 : decode cX4_refusal 5 = .ok (.invokevirtual 67, 3) := by decide +kernel
theorem dX4_refusal_8 : decode cX4_refusal 8 = .ok (.astore 5, 2) := by decide +kernel
theorem dX4_refusal_10 : decode cX4_refusal 10 = .ok (.aload 5, 2) := by decide +kernel
theorem dX4_refusal_12 : decode cX4_refusal 12 = .ok (.ifnull 13, 3) := by decide +kernel
theorem dX4_refusal_15 : decode cX4_refusal 15 = .ok (.iload_n 2, 1) := by decide +kernel
theorem dX4_refusal_16 : decode cX4_refusal 16 = .ok (.iload_n 3, 1) := by decide +kernel
theorem dX4_refusal_17 : decode cX4_refusal 17 = .ok (.iload 4, 2) := by decide +kernel
theorem dX4_refusal_19 : decode cX4_refusal 19 = .ok (.invokestatic 188, 3) := by decide +kernel
theorem dX4_refusal_22 : decode cX4_refusal 22 = .ok (.ifCond .ne 7, 3) := by decide +kernel
theorem dX4_refusal_25 : decode cX4_refusal 25 = .ok (.sipush (-1001), 3) := by decide +kernel
theorem dX4_refusal_28 : decode cX4_refusal 28 = .ok (.ireturn, 1) := by decide +kernel
theorem dX4_refusal_29 : decode cX4_refusal 29 = .ok (.aload_n 0, 1) := by decide +kernel
theorem dX4_refusal_30 : decode cX4_refusal 30 = .ok (.getfield 10, 3) := by decide +kernel
theorem dX4_refusal_33 : decode cX4_refusal 33 = .ok (.aload 5, 2) := by decide +kernel
theorem dX4_refusal_35 : decode cX4_refusal 35 = .ok (.iload_n 2, 1) := by decide +kernel
theorem dX4_refusal_36 : decode cX4_refusal 36 = .ok (.iload_n 3, 1) := by decide +kernel
theorem dX4_refusal_37 : decode cX4_refusal 37 = .ok (.iload 4, 2) := by decide +kernel
theorem dX4_refusal_39 : decode cX4_refusal 39 = .ok (.invokevirtual 191, 3) := by decide +kernel
theorem dX4_refusal_42 : decode cX4_refusal 42 = .ok (.ireturn, 1) := by decide +kernel
set_option maxRecDepth 20000 in
theorem ggX4_apply_X2_craneAt : GoodIn wsX4_apply wsX2_craneAt := goodIn_r _ [11, 12, 13, 167, 168, 169, 170, 171, 172, 173, 174, 175, 176, 177, 178, 179] (by decide +kernel) (by decide +kernel)
set_option maxRecDepth 20000 in
theorem gX4_apply_X2_craneAt : GoodIn wsX4_apply (wsV RX4 67 RX2 yX2_craneAt wsX2_craneAt) := goodIn_app (goodIn_of _ (by decide +kernel)) ggX4_apply_X2_craneAt
set_option maxRecDepth 20000 in
theorem ggX4_apply_X4_isPlan : GoodIn wsX4_apply wsX4_isPlan := goodIn_r _ [17, 18, 19, 16, 20, 21, 22, 23, 24, 25, 26] (by decide +kernel) (by decide +kernel)
set_option maxRecDepth 20000 in
theorem gX4_apply_X4_isPlan : GoodIn wsX4_apply (va_wsS RX4 188 yX4_isPlan wsX4_isPlan) := goodIn_app (goodIn_of _ (by decide +kernel)) ggX4_apply_X4_isPlan
set_option maxRecDepth 20000 in
theorem ggX4_apply_X2_refusalOf : GoodIn wsX4_apply wsX2_refusalOf := goodIn_r _ [30, 31, 32, 33, 34, 10, 35, 36, 37, 38, 39, 40, 41, 42, 43, 44, 4, 45, 46, 47, 48, 49, 50, 51, 52, 53, 54, 55, 56, 57, 58, 59, 60, 16, 61, 62, 63, 64, 65, 66, 67, 68, 69, 70, 71, 72, 73, 74, 75, 76, 77, 78, 79, 80, 81, 82, 83, 84, 85, 86, 87, 88, 89, 90, 91, 92, 93, 94, 95, 96, 97, 98, 99, 100, 101, 102, 103, 104, 105, 106, 107, 108, 109, 110, 111, 112, 113, 114, 115, 116, 117, 180, 181, 182, 183, 184, 185, 186, 167, 168, 169, 170, 171, 172, 173, 174, 175, 176, 177, 178, 179, 160, 161, 162, 163, 164, 165, 166] (by decide +kernel) (by decide +kernel)
set_option maxRecDepth 20000 in
theorem gX4_apply_X2_refusalOf : GoodIn wsX4_apply (wsV RX4 191 RX2 yX2_refusalOf wsX2_refusalOf) := goodIn_app (goodIn_of _ (by decide +kernel)) ggX4_apply_X2_refusalOf
set_option maxRecDepth 20000 in
theorem ggX4_apply_X2_hasRoom : GoodIn wsX4_apply wsX2_hasRoom := goodIn_r _ [121, 36, 122, 167, 168, 169, 170, 171, 172, 173, 174, 175, 176, 177, 178, 179] (by decide +kernel) (by decide +kernel)
set_option maxRecDepth 20000 in
theorem gX4_apply_X2_hasRoom : GoodIn wsX4_apply (wsV RX4 195 RX2 yX2_hasRoom wsX2_hasRoom) := goodIn_app (goodIn_of _ (by decide +kernel)) ggX4_apply_X2_hasRoom
set_option maxRecDepth 20000 in
theorem ggX4_apply_X4_remember : GoodIn wsX4_apply wsX4_remember := goodIn_r _ [126, 127, 128, 129, 130, 131, 132, 1, 133, 134, 135, 10, 136, 13, 137, 12, 103, 66, 59, 117, 109, 110, 138, 122, 139, 41, 36, 155, 156, 157, 158, 159, 167, 168, 169, 170, 171, 172, 173, 174, 175, 176, 177, 178, 179] (by decide +kernel) (by decide +kernel)
set_option maxRecDepth 20000 in
theorem gX4_apply_X4_remember : GoodIn wsX4_apply (wsV RX4 52 RX4 yX4_remember wsX4_remember) := goodIn_app (goodIn_of _ (by decide +kernel)) ggX4_apply_X4_remember
set_option maxRecDepth 20000 in
theorem ggX4_apply_X1_init : GoodIn wsX4_apply wsX1_init := goodIn_r _ [142, 143, 144, 145, 146, 46, 54, 147, 53, 52, 148, 160, 161, 162, 163, 164, 165, 166] (by decide +kernel) (by decide +kernel)
set_option maxRecDepth 20000 in
theorem gX4_apply_X1_init : GoodIn wsX4_apply (wsX1_init) := ggX4_apply_X1_init
set_option maxRecDepth 20000 in
theorem ggX4_apply_X2_grant : GoodIn wsX4_apply wsX2_grant := goodIn_r _ [152, 36, 41, 122, 138, 139, 153, 16, 154, 167, 168, 169, 170, 171, 172, 173, 174, 175, 176, 177, 178, 179] (by decide +kernel) (by decide +kernel)
set_option maxRecDepth 20000 in
theorem gX4_apply_X2_grant : GoodIn wsX4_apply (wsV RX4 204 RX2 yX2_grant wsX2_grant) := goodIn_app (goodIn_of _ (by decide +kernel)) ggX4_apply_X2_grant
theorem dX4_apply_0 : decode cX4_apply 0 = .ok (.aload_n 0, 1) := by decide +kernel
theorem dX4_apply_1 : decode cX4_apply 1 = .ok (.getfield 10, 3) := by decide +kernel
theorem dX4_apply_4 : decode cX4_apply 4 = .ok (.iload_n 1, 1) := by decide +kernel
theorem dX4_apply_5 : decode cX4_apply 5 = .ok (.invokevirtual 67, 3) := by decide +kernel
theorem dX4_apply_8 : decode cX4_apply 8 = .ok (.astore 5, 2) := by decide +kernel
theorem dX4_apply_10 : decode cX4_apply 10 = .ok (.aload 5, 2) := by decide +kernel
theorem dX4_apply_12 : decode cX4_apply 12 = .ok (.ifnull 13, 3) := by decide +kernel
theorem dX4_apply_15 : decode cX4_apply 15 = .ok (.iload_n 2, 1) := by decide +kernel
theorem dX4_apply_16 : decode cX4_apply 16 = .ok (.iload_n 3, 1) := by decide +kernel
theorem dX4_apply_17 : decode cX4_apply 17 = .ok (.iload 4, 2) := by decide +kernel
theorem dX4_apply_19 : decode cX4_apply 19 = .ok (.invokestatic 188, 3) := by decide +kernel
theorem dX4_apply_22 : decode cX4_apply 22 = .ok (.ifCond .ne 7, 3) := by decide +kernel
theorem dX4_apply_25 : decode cX4_apply 25 = .ok (.sipush (-1001), 3) := by decide +kernel
theorem dX4_apply_28 : decode cX4_apply 28 = .ok (.ireturn, 1) := by decide +kernel
theorem dX4_apply_29 : decode cX4_apply 29 = .ok (.aload_n 0, 1) := by decide +kernel
theorem dX4_apply_30 : decode cX4_apply 30 = .ok (.getfield 10, 3) := by decide +kernel
theorem dX4_apply_33 : decode cX4_apply 33 = .ok (.aload 5, 2) := by decide +kernel
theorem dX4_apply_35 : decode cX4_apply 35 = .ok (.iload_n 2, 1) := by decide +kernel
theorem dX4_apply_36 : decode cX4_apply 36 = .ok (.iload_n 3, 1) := by decide +kernel
theorem dX4_apply_37 : decode cX4_apply 37 = .ok (.iload 4, 2) := by decide +kernel
theorem dX4_apply_39 : decode cX4_apply 39 = .ok (.invokevirtual 191, 3) := by decide +kernel
theorem dX4_apply_42 : decode cX4_apply 42 = .ok (.ifCond .eq 7, 3) := by decide +kernel
theorem dX4_apply_45 : decode cX4_apply 45 = .ok (.sipush (-1002), 3) := by decide +kernel
theorem dX4_apply_48 : decode cX4_apply 48 = .ok (.ireturn, 1) := by decide +kernel
theorem dX4_apply_49 : decode cX4_apply 49 = .ok (.aload_n 0, 1) := by decide +kernel
theorem dX4_apply_50 : decode cX4_apply 50 = .ok (.getfield 10, 3) := by decide +kernel
theorem dX4_apply_53 : decode cX4_apply 53 = .ok (.invokevirtual 195, 3) := by decide +kernel
theorem dX4_apply_56 : decode cX4_apply 56 = .ok (.ifCond .ne 7, 3) := by decide +kernel
theorem dX4_apply_59 : decode cX4_apply 59 = .ok (.sipush (-1003), 3) := by decide +kernel
theorem dX4_apply_62 : decode cX4_apply 62 = .ok (.ireturn, 1) := by decide +kernel
theorem dX4_apply_63 : decode cX4_apply 63 = .ok (.aload_n 0, 1) := by decide +kernel
theorem dX4_apply_64 : decode cX4_apply 64 = .ok (.invokevirtual 52, 3) := by decide +kernel
theorem dX4_apply_67 : decode cX4_apply 67 = .ok (.new 199, 3) := by decide +kernel
theorem dX4_apply_70 : decode cX4_apply 70 = .ok (.dup, 1) := by decide +kernel
theorem dX4_apply_71 : decode cX4_apply 71 = .ok (.aload_n 0, 1) := by decide +kernel
theorem dX4_apply_72 : decode cX4_apply 72 = .ok (.getfield 10, 3) := by decide +kernel
theorem dX4_apply_75 : decode cX4_apply 75 = .ok (.getfield 155, 3) := by decide +kernel
theorem dX4_apply_78 : decode cX4_apply 78 = .ok (.aload 5, 2) := by decide +kernel
theorem dX4_apply_80 : decode cX4_apply 80 = .ok (.iload_n 2, 1) := by decide +kernel
theorem dX4_apply_81 : decode cX4_apply 81 = .ok (.iload_n 3, 1) := by decide +kernel
theorem dX4_apply_82 : decode cX4_apply 82 = .ok (.iload 4, 2) := by decide +kernel
theorem dX4_apply_84 : decode cX4_apply 84 = .ok (.invokespecial 201, 3) := by decide +kernel
theorem dX4_apply_87 : decode cX4_apply 87 = .ok (.astore 6, 2) := by decide +kernel
theorem dX4_apply_89 : decode cX4_apply 89 = .ok (.aload_n 0, 1) := by decide +kernel
theorem dX4_apply_90 : decode cX4_apply 90 = .ok (.getfield 10, 3) := by decide +kernel
theorem dX4_apply_93 : decode cX4_apply 93 = .ok (.aload 6, 2) := by decide +kernel
theorem dX4_apply_95 : decode cX4_apply 95 = .ok (.invokevirtual 204, 3) := by decide +kernel
theorem dX4_apply_98 : decode cX4_apply 98 = .ok (.aload 6, 2) := by decide +kernel
theorem dX4_apply_100 : decode cX4_apply 100 = .ok (.getfield 208, 3) := by decide +kernel
theorem dX4_apply_103 : decode cX4_apply 103 = .ok (.ireturn, 1) := by decide +kernel
set_option maxRecDepth 20000 in
theorem ggX4_withdraw_X2_permitAt : GoodIn wsX4_withdraw wsX2_permitAt := goodIn_r _ [10, 11, 12, 60, 61, 62, 63, 64, 65, 66, 67, 68, 69, 70, 71, 72] (by decide +kernel) (by decide +kernel)
set_option maxRecDepth 20000 in
theorem gX4_withdraw_X2_permitAt : GoodIn wsX4_withdraw (wsV RX4 209 RX2 yX2_permitAt wsX2_permitAt) := goodIn_app (goodIn_of _ (by decide +kernel)) ggX4_withdraw_X2_permitAt
set_option maxRecDepth 20000 in
theorem ggX4_withdraw_X4_at : GoodIn wsX4_withdraw wsX4_at := goodIn_r _ [16] (by decide +kernel) (by decide +kernel)
set_option maxRecDepth 20000 in
theorem gX4_withdraw_X4_at : GoodIn wsX4_withdraw (va_wsS RX4 98 yX4_at wsX4_at) := goodIn_app (goodIn_of _ (by decide +kernel)) ggX4_withdraw_X4_at
set_option maxRecDepth 20000 in
theorem ggX4_withdraw_X4_remember : GoodIn wsX4_withdraw wsX4_remember := goodIn_r _ [20, 21, 22, 23, 24, 25, 26, 1, 27, 28, 29, 9, 30, 31, 32, 33, 34, 35, 36, 37, 38, 39, 12, 11, 40, 41, 42, 55, 56, 57, 58, 59, 60, 61, 62, 63, 64, 65, 66, 67, 68, 69, 70, 71, 72] (by decide +kernel) (by decide +kernel)
set_option maxRecDepth 20000 in
theorem gX4_withdraw_X4_remember : GoodIn wsX4_withdraw (wsV RX4 52 RX4 yX4_remember wsX4_remember) := goodIn_app (goodIn_of _ (by decide +kernel)) ggX4_withdraw_X4_remember
set_option maxRecDepth 20000 in
theorem ggX4_withdraw_X2_end : GoodIn wsX4_withdraw wsX2_end := goodIn_r _ [46, 40, 47, 42, 41, 48, 15, 49, 60, 61, 62, 63, 64, 65, 66, 67, 68, 69, 70, 71, 72, 73, 74, 75, 76, 77, 78, 79] (by decide +kernel) (by decide +kernel)
set_option maxRecDepth 20000 in
theorem gX4_withdraw_X2_end : GoodIn wsX4_withdraw (wsV RX4 216 RX2 yX2_end wsX2_end) := goodIn_app (goodIn_of _ (by decide +kernel)) ggX4_withdraw_X2_end
set_option maxRecDepth 20000 in
theorem ggX4_withdraw_X2_useOf : GoodIn wsX4_withdraw wsX2_useOf := goodIn_r _ [53, 34, 54, 14, 15, 16, 60, 61, 62, 63, 64, 65, 66, 67, 68, 69, 70, 71, 72, 80, 81, 82, 83, 84, 85, 86] (by decide +kernel) (by decide +kernel)
set_option maxRecDepth 20000 in
theorem gX4_withdraw_X2_useOf : GoodIn wsX4_withdraw (wsV RX4 227 RX2 yX2_useOf wsX2_useOf) := goodIn_app (goodIn_of _ (by decide +kernel)) ggX4_withdraw_X2_useOf
theorem dX4_withdraw_0 : decode cX4_withdraw 0 = .ok (.aload_n 0, 1) := by decide +kernel
theorem dX4_withdraw_1 : decode cX4_withdraw 1 = .ok (.getfield 10, 3) := by decide +kernel
theorem dX4_withdraw_4 : decode cX4_withdraw 4 = .ok (.iload_n 1, 1) := by decide +kernel
theorem dX4_withdraw_5 : decode cX4_withdraw 5 = .ok (.invokevirtual 209, 3) := by decide +kernel
theorem dX4_withdraw_8 : decode cX4_withdraw 8 = .ok (.astore_n 2, 1) := by decide +kernel
theorem dX4_withdraw_9 : decode cX4_withdraw 9 = .ok (.aload_n 2, 1) := by decide +kernel
theorem dX4_withdraw_10 : decode cX4_withdraw 10 = .ok (.ifnonnull 7, 3) := by decide +kernel
theorem dX4_withdraw_13 : decode cX4_withdraw 13 = .ok (.sipush (-1001), 3) := by decide +kernel
theorem dX4_withdraw_16 : decode cX4_withdraw 16 = .ok (.ireturn, 1) := by decide +kernel
theorem dX4_withdraw_17 : decode cX4_withdraw 17 = .ok (.aload_n 0, 1) := by decide +kernel
theorem dX4_withdraw_18 : decode cX4_withdraw 18 = .ok (.getfield 10, 3) := by decide +kernel
theorem dX4_withdraw_21 : decode cX4_withdraw 21 = .ok (.getfield 213, 3) := by decide +kernel
theorem dX4_withdraw_24 : decode cX4_withdraw 24 = .ok (.aload_n 2, 1) := by decide +kernel
theorem dX4_withdraw_25 : decode cX4_withdraw 25 = .ok (.getfield 208, 3) := by decide +kernel
theorem dX4_withdraw_28 : decode cX4_withdraw 28 = .ok (.invokestatic 98, 3) := by decide +kernel
theorem dX4_withdraw_31 : decode cX4_withdraw 31 = .ok (.iconst 1, 1) := by decide +kernel
theorem dX4_withdraw_32 : decode cX4_withdraw 32 = .ok (.if_icmp .eq 7, 3) := by decide +kernel
theorem dX4_withdraw_35 : decode cX4_withdraw 35 = .ok (.sipush (-1002), 3) := by decide +kernel
theorem dX4_withdraw_38 : decode cX4_withdraw 38 = .ok (.ireturn, 1) := by decide +kernel
theorem dX4_withdraw_39 : decode cX4_withdraw 39 = .ok (.aload_n 0, 1) := by decide +kernel
theorem dX4_withdraw_40 : decode cX4_withdraw 40 = .ok (.invokevirtual 52, 3) := by decide +kernel
theorem dX4_withdraw_43 : decode cX4_withdraw 43 = .ok (.aload_n 0, 1) := by decide +kernel
theorem dX4_withdraw_44 : decode cX4_withdraw 44 = .ok (.getfield 10, 3) := by decide +kernel
theorem dX4_withdraw_47 : decode cX4_withdraw 47 = .ok (.aload_n 2, 1) := by decide +kernel
theorem dX4_withdraw_48 : decode cX4_withdraw 48 = .ok (.iconst 2, 1) := by decide +kernel
theorem dX4_withdraw_49 : decode cX4_withdraw 49 = .ok (.invokevirtual 216, 3) := by decide +kernel
theorem dX4_withdraw_52 : decode cX4_withdraw 52 = .ok (.aload_n 0, 1) := by decide +kernel
theorem dX4_withdraw_53 : decode cX4_withdraw 53 = .ok (.getfield 10, 3) := by decide +kernel
theorem dX4_withdraw_56 : decode cX4_withdraw 56 = .ok (.aload_n 2, 1) := by decide +kernel
theorem dX4_withdraw_57 : decode cX4_withdraw 57 = .ok (.getfield 220, 3) := by decide +kernel
theorem dX4_withdraw_60 : decode cX4_withdraw 60 = .ok (.aload_n 2, 1) := by decide +kernel
theorem dX4_withdraw_61 : decode cX4_withdraw 61 = .ok (.getfield 224, 3) := by decide +kernel
theorem dX4_withdraw_64 : decode cX4_withdraw 64 = .ok (.invokevirtual 227, 3) := by decide +kernel
theorem dX4_withdraw_67 : decode cX4_withdraw 67 = .ok (.ireturn, 1) := by decide +kernel
set_option maxRecDepth 20000 in
theorem ggX4_permit_X2_permitAt : GoodIn wsX4_permit wsX2_permitAt := goodIn_r _ [13, 14, 15, 45, 46, 47, 48, 49, 50, 51, 52, 53, 54, 55, 56, 57] (by decide +kernel) (by decide +kernel)
set_option maxRecDepth 20000 in
theorem gX4_permit_X2_permitAt : GoodIn wsX4_permit (wsV RX4 209 RX2 yX2_permitAt wsX2_permitAt) := goodIn_app (goodIn_of _ (by decide +kernel)) ggX4_permit_X2_permitAt
set_option maxRecDepth 20000 in
theorem ggX4_permit_X2_useOf : GoodIn wsX4_permit wsX2_useOf := goodIn_r _ [19, 20, 21, 22, 23, 24, 45, 46, 47, 48, 49, 50, 51, 52, 53, 54, 55, 56, 57, 38, 39, 40, 41, 42, 43, 44] (by decide +kernel) (by decide +kernel)
set_option maxRecDepth 20000 in
theorem gX4_permit_X2_useOf : GoodIn wsX4_permit (wsV RX4 227 RX2 yX2_useOf wsX2_useOf) := goodIn_app (goodIn_of _ (by decide +kernel)) ggX4_permit_X2_useOf
set_option maxRecDepth 20000 in
theorem ggX4_permit_X4_at : GoodIn wsX4_permit wsX4_at := goodIn_r _ [24] (by decide +kernel) (by decide +kernel)
set_option maxRecDepth 20000 in
theorem gX4_permit_X4_at : GoodIn wsX4_permit (va_wsS RX4 98 yX4_at wsX4_at) := goodIn_app (goodIn_of _ (by decide +kernel)) ggX4_permit_X4_at
theorem dX4_permit_0 : decode cX4_permit 0 = .ok (.aload_n 0, 1) := by decide +kernel
theorem dX4_permit_1 : decode cX4_permit 1 = .ok (.getfield 10, 3) := by decide +kernel
theorem dX4_permit_4 : decode cX4_permit 4 = .ok (.iload_n 1, 1) := by decide +kernel
theorem dX4_permit_5 : decode cX4_permit 5 = .ok (.invokevirtual 209, 3) := by decide +kernel
theorem dX4_permit_8 : decode cX4_permit 8 = .ok (.astore_n 3, 1) := by decide +kernel
theorem dX4_permit_9 : decode cX4_permit 9 = .ok (.aload_n 3, 1) := by decide +kernel
theorem dX4_permit_10 : decode cX4_permit 10 = .ok (.ifnonnull 7, 3) := by decide +kernel
theorem dX4_permit_13 : decode cX4_permit 13 = .ok (.sipush (-1001), 3) := by decide +kernel
theorem dX4_permit_16 : decode cX4_permit 16 = .ok (.ireturn, 1) := by decide +kernel
theorem dX4_permit_17 : decode cX4_permit 17 = .ok (.iload_n 2, 1) := by decide +kernel
theorem dX4_permit_18 : decode cX4_permit 18 = .ok (.tableswitch 92 0 5 #[38, 46, 51, 56, 61, 77], 38) := by decide +kernel
theorem dX4_permit_56 : decode cX4_permit 56 = .ok (.aload_n 3, 1) := by decide +kernel
theorem dX4_permit_57 : decode cX4_permit 57 = .ok (.getfield 220, 3) := by decide +kernel
theorem dX4_permit_60 : decode cX4_permit 60 = .ok (.getfield 64, 3) := by decide +kernel
theorem dX4_permit_63 : decode cX4_permit 63 = .ok (.ireturn, 1) := by decide +kernel
theorem dX4_permit_64 : decode cX4_permit 64 = .ok (.aload_n 3, 1) := by decide +kernel
theorem dX4_permit_65 : decode cX4_permit 65 = .ok (.getfield 231, 3) := by decide +kernel
theorem dX4_permit_68 : decode cX4_permit 68 = .ok (.ireturn, 1) := by decide +kernel
theorem dX4_permit_69 : decode cX4_permit 69 = .ok (.aload_n 3, 1) := by decide +kernel
theorem dX4_permit_70 : decode cX4_permit 70 = .ok (.getfield 224, 3) := by decide +kernel
theorem dX4_permit_73 : decode cX4_permit 73 = .ok (.ireturn, 1) := by decide +kernel
theorem dX4_permit_74 : decode cX4_permit 74 = .ok (.aload_n 3, 1) := by decide +kernel
theorem dX4_permit_75 : decode cX4_permit 75 = .ok (.getfield 234, 3) := by decide +kernel
theorem dX4_permit_78 : decode cX4_permit 78 = .ok (.ireturn, 1) := by decide +kernel
theorem dX4_permit_79 : decode cX4_permit 79 = .ok (.aload_n 0, 1) := by decide +kernel
theorem dX4_permit_80 : decode cX4_permit 80 = .ok (.getfield 10, 3) := by decide +kernel
theorem dX4_permit_83 : decode cX4_permit 83 = .ok (.aload_n 3, 1) := by decide +kernel
theorem dX4_permit_84 : decode cX4_permit 84 = .ok (.getfield 220, 3) := by decide +kernel
theorem dX4_permit_87 : decode cX4_permit 87 = .ok (.aload_n 3, 1) := by decide +kernel
theorem dX4_permit_88 : decode cX4_permit 88 = .ok (.getfield 224, 3) := by decide +kernel
theorem dX4_permit_91 : decode cX4_permit 91 = .ok (.invokevirtual 227, 3) := by decide +kernel
theorem dX4_permit_94 : decode cX4_permit 94 = .ok (.ireturn, 1) := by decide +kernel
theorem dX4_permit_95 : decode cX4_permit 95 = .ok (.aload_n 0, 1) := by decide +kernel
theorem dX4_permit_96 : decode cX4_permit 96 = .ok (.getfield 10, 3) := by decide +kernel
theorem dX4_permit_99 : decode cX4_permit 99 = .ok (.getfield 213, 3) := by decide +kernel
theorem dX4_permit_102 : decode cX4_permit 102 = .ok (.aload_n 3, 1) := by decide +kernel
theorem dX4_permit_103 : decode cX4_permit 103 = .ok (.getfield 208, 3) := by decide +kernel
theorem dX4_permit_106 : decode cX4_permit 106 = .ok (.invokestatic 98, 3) := by decide +kernel
theorem dX4_permit_109 : decode cX4_permit 109 = .ok (.ireturn, 1) := by decide +kernel
theorem dX4_permit_110 : decode cX4_permit 110 = .ok (.sipush (-1001), 3) := by decide +kernel
theorem dX4_permit_113 : decode cX4_permit 113 = .ok (.ireturn, 1) := by decide +kernel
set_option maxRecDepth 20000 in
theorem ggX4_inOrder_X2_validAt : GoodIn wsX4_inOrder wsX2_validAt := goodIn_r _ [8, 9, 10, 29, 30, 31, 32, 33, 34, 35, 36, 37, 38, 39, 40, 41] (by decide +kernel) (by decide +kernel)
set_option maxRecDepth 20000 in
theorem gX4_inOrder_X2_validAt : GoodIn wsX4_inOrder (wsV RX4 237 RX2 yX2_validAt wsX2_validAt) := goodIn_app (goodIn_of _ (by decide +kernel)) ggX4_inOrder_X2_validAt
set_option maxRecDepth 20000 in
theorem ggX4_inOrder_X2_validAhead : GoodIn wsX4_inOrder wsX2_validAhead := goodIn_r _ [14, 9, 15, 5, 6, 7, 8, 10, 16, 17, 18, 19, 20, 21, 22, 23, 29, 30, 31, 32, 33, 34, 35, 36, 37, 38, 39, 40, 41, 42, 43, 44, 45, 46, 47, 48] (by decide +kernel) (by decide +kernel)
set_option maxRecDepth 20000 in
theorem gX4_inOrder_X2_validAhead : GoodIn wsX4_inOrder (wsV RX4 240 RX2 yX2_validAhead wsX2_validAhead) := goodIn_app (goodIn_of _ (by decide +kernel)) ggX4_inOrder_X2_validAhead
theorem dX4_inOrder_0 : decode cX4_inOrder 0 = .ok (.iload_n 1, 1) := by decide +kernel
theorem dX4_inOrder_1 : decode cX4_inOrder 1 = .ok (.ifCond .ge 7, 3) := by decide +kernel
theorem dX4_inOrder_4 : decode cX4_inOrder 4 = .ok (.sipush (-1001), 3) := by decide +kernel
theorem dX4_inOrder_7 : decode cX4_inOrder 7 = .ok (.ireturn, 1) := by decide +kernel
theorem dX4_inOrder_8 : decode cX4_inOrder 8 = .ok (.iconst 0, 1) := by decide +kernel
theorem dX4_inOrder_9 : decode cX4_inOrder 9 = .ok (.istore_n 2, 1) := by decide +kernel
theorem dX4_inOrder_10 : decode cX4_inOrder 10 = .ok (.iload_n 2, 1) := by decide +kernel
theorem dX4_inOrder_11 : decode cX4_inOrder 11 = .ok (.aload_n 0, 1) := by decide +kernel
theorem dX4_inOrder_12 : decode cX4_inOrder 12 = .ok (.getfield 10, 3) := by decide +kernel
theorem dX4_inOrder_15 : decode cX4_inOrder 15 = .ok (.getfield 152, 3) := by decide +kernel
theorem dX4_inOrder_18 : decode cX4_inOrder 18 = .ok (.if_icmp .ge 39, 3) := by decide +kernel
theorem dX4_inOrder_21 : decode cX4_inOrder 21 = .ok (.aload_n 0, 1) := by decide +kernel
theorem dX4_inOrder_22 : decode cX4_inOrder 22 = .ok (.getfield 10, 3) := by decide +kernel
theorem dX4_inOrder_25 : decode cX4_inOrder 25 = .ok (.iload_n 2, 1) := by decide +kernel
theorem dX4_inOrder_26 : decode cX4_inOrder 26 = .ok (.invokevirtual 237, 3) := by decide +kernel
theorem dX4_inOrder_29 : decode cX4_inOrder 29 = .ok (.astore_n 3, 1) := by decide +kernel
theorem dX4_inOrder_30 : decode cX4_inOrder 30 = .ok (.aload_n 3, 1) := by decide +kernel
theorem dX4_inOrder_31 : decode cX4_inOrder 31 = .ok (.ifnull 20, 3) := by decide +kernel
theorem dX4_inOrder_34 : decode cX4_inOrder 34 = .ok (.aload_n 0, 1) := by decide +kernel
theorem dX4_inOrder_35 : decode cX4_inOrder 35 = .ok (.getfield 10, 3) := by decide +kernel
theorem dX4_inOrder_38 : decode cX4_inOrder 38 = .ok (.aload_n 3, 1) := by decide +kernel
theorem dX4_inOrder_39 : decode cX4_inOrder 39 = .ok (.invokevirtual 240, 3) := by decide +kernel
theorem dX4_inOrder_42 : decode cX4_inOrder 42 = .ok (.iload_n 1, 1) := by decide +kernel
theorem dX4_inOrder_43 : decode cX4_inOrder 43 = .ok (.if_icmp .ne 8, 3) := by decide +kernel
theorem dX4_inOrder_46 : decode cX4_inOrder 46 = .ok (.aload_n 3, 1) := by decide +kernel
theorem dX4_inOrder_47 : decode cX4_inOrder 47 = .ok (.getfield 208, 3) := by decide +kernel
theorem dX4_inOrder_50 : decode cX4_inOrder 50 = .ok (.ireturn, 1) := by decide +kernel
theorem dX4_inOrder_51 : decode cX4_inOrder 51 = .ok (.iinc 2 1, 3) := by decide +kernel
theorem dX4_inOrder_54 : decode cX4_inOrder 54 = .ok (.goto (-44), 3) := by decide +kernel
theorem dX4_inOrder_57 : decode cX4_inOrder 57 = .ok (.sipush (-1004), 3) := by decide +kernel
theorem dX4_inOrder_60 : decode cX4_inOrder 60 = .ok (.ireturn, 1) := by decide +kernel
set_option maxRecDepth 20000 in
theorem ggX4_shares_X2_permitAt : GoodIn wsX4_shares wsX2_permitAt := goodIn_r _ [10, 11, 12, 60, 61, 62, 63, 64, 65, 66, 67, 68, 69, 70, 71, 72] (by decide +kernel) (by decide +kernel)
set_option maxRecDepth 20000 in
theorem gX4_shares_X2_permitAt : GoodIn wsX4_shares (wsV RX4 209 RX2 yX2_permitAt wsX2_permitAt) := goodIn_app (goodIn_of _ (by decide +kernel)) ggX4_shares_X2_permitAt
set_option maxRecDepth 20000 in
theorem ggX4_shares_X2_shareAir : GoodIn wsX4_shares wsX2_shareAir := goodIn_r _ [16, 17, 18, 19, 20, 21, 22, 23, 24, 25, 26, 27, 28, 29, 30, 31, 32, 33, 34, 35, 36, 37, 38, 39, 40, 41, 42, 43, 44, 45, 46, 47, 73, 74, 75, 76, 77, 78, 79, 53, 54, 55, 56, 57, 58, 59, 60, 61, 62, 63, 64, 65, 66, 67, 68, 69, 70, 71, 72] (by decide +kernel) (by decide +kernel)
set_option maxRecDepth 20000 in
theorem gX4_shares_X2_shareAir : GoodIn wsX4_shares (wsV RX4 244 RX2 yX2_shareAir wsX2_shareAir) := goodIn_app (goodIn_of _ (by decide +kernel)) ggX4_shares_X2_shareAir
theorem dX4_shares_0 : decode cX4_shares 0 = .ok (.aload_n 0, 1) := by decide +kernel
theorem dX4_shares_1 : decode cX4_shares 1 = .ok (.getfield 10, 3) := by decide +kernel
theorem dX4_shares_4 : decode cX4_shares 4 = .ok (.iload_n 1, 1) := by decide +kernel
theorem dX4_shares_5 : decode cX4_shares 5 = .ok (.invokevirtual 209, 3) := by decide +kernel
theorem dX4_shares_8 : decode cX4_shares 8 = .ok (.astore_n 3, 1) := by decide +kernel
theorem dX4_shares_9 : decode cX4_shares 9 = .ok (.aload_n 0, 1) := by decide +kernel
theorem dX4_shares_10 : decode cX4_shares 10 = .ok (.getfield 10, 3) := by decide +kernel
theorem dX4_shares_13 : decode cX4_shares 13 = .ok (.iload_n 2, 1) := by decide +kernel
theorem dX4_shares_14 : decode cX4_shares 14 = .ok (.invokevirtual 209, 3) := by decide +kernel
theorem dX4_shares_17 : decode cX4_shares 17 = .ok (.astore 4, 2) := by decide +kernel
theorem dX4_shares_19 : decode cX4_shares 19 = .ok (.aload_n 3, 1) := by decide +kernel
theorem dX4_shares_20 : decode cX4_shares 20 = .ok (.ifnull 8, 3) := by decide +kernel
theorem dX4_shares_23 : decode cX4_shares 23 = .ok (.aload 4, 2) := by decide +kernel
theorem dX4_shares_25 : decode cX4_shares 25 = .ok (.ifnonnull 7, 3) := by decide +kernel
theorem dX4_shares_28 : decode cX4_shares 28 = .ok (.sipush (-1001), 3) := by decide +kernel
theorem dX4_shares_31 : decode cX4_shares 31 = .ok (.ireturn, 1) := by decide +kernel
theorem dX4_shares_32 : decode cX4_shares 32 = .ok (.aload_n 0, 1) := by decide +kernel
theorem dX4_shares_33 : decode cX4_shares 33 = .ok (.getfield 10, 3) := by decide +kernel
theorem dX4_shares_36 : decode cX4_shares 36 = .ok (.aload_n 3, 1) := by decide +kernel
theorem dX4_shares_37 : decode cX4_shares 37 = .ok (.getfield 220, 3) := by decide +kernel
theorem dX4_shares_40 : decode cX4_shares 40 = .ok (.aload_n 3, 1) := by decide +kernel
theorem dX4_shares_41 : decode cX4_shares 41 = .ok (.getfield 231, 3) := by decide +kernel
theorem dX4_shares_44 : decode cX4_shares 44 = .ok (.aload_n 3, 1) := by decide +kernel
theorem dX4_shares_45 : decode cX4_shares 45 = .ok (.getfield 224, 3) := by decide +kernel
theorem dX4_shares_48 : decode cX4_shares 48 = .ok (.aload_n 3, 1) := by decide +kernel
theorem dX4_shares_49 : decode cX4_shares 49 = .ok (.getfield 234, 3) := by decide +kernel
theorem dX4_shares_52 : decode cX4_shares 52 = .ok (.aload 4, 2) := by decide +kernel
theorem dX4_shares_54 : decode cX4_shares 54 = .ok (.invokevirtual 244, 3) := by decide +kernel
theorem dX4_shares_57 : decode cX4_shares 57 = .ok (.istore 5, 2) := by decide +kernel
theorem dX4_shares_59 : decode cX4_shares 59 = .ok (.iload 5, 2) := by decide +kernel
theorem dX4_shares_61 : decode cX4_shares 61 = .ok (.ifCond .eq 7, 3) := by decide +kernel
theorem dX4_shares_64 : decode cX4_shares 64 = .ok (.iconst 1, 1) := by decide +kernel
theorem dX4_shares_65 : decode cX4_shares 65 = .ok (.goto 4, 3) := by decide +kernel
theorem dX4_shares_68 : decode cX4_shares 68 = .ok (.iconst 0, 1) := by decide +kernel
theorem dX4_shares_69 : decode cX4_shares 69 = .ok (.ireturn, 1) := by decide +kernel
set_option maxRecDepth 20000 in
theorem ggX4_inTheWay_X2_craneAt : GoodIn wsX4_inTheWay wsX2_craneAt := goodIn_r _ [6, 7, 8, 72, 73, 74, 75, 76, 77, 78, 79, 80, 81, 82, 83, 84] (by decide +kernel) (by decide +kernel)
set_option maxRecDepth 20000 in
theorem gX4_inTheWay_X2_craneAt : GoodIn wsX4_inTheWay (wsV RX4 67 RX2 yX2_craneAt wsX2_craneAt) := goodIn_app (goodIn_of _ (by decide +kernel)) ggX4_inTheWay_X2_craneAt
set_option maxRecDepth 20000 in
theorem ggX4_inTheWay_X4_isPlan : GoodIn wsX4_inTheWay wsX4_isPlan := goodIn_r _ [12, 13, 14, 11, 15, 16, 17, 18, 19, 20, 21] (by decide +kernel) (by decide +kernel)
set_option maxRecDepth 20000 in
theorem gX4_inTheWay_X4_isPlan : GoodIn wsX4_inTheWay (va_wsS RX4 188 yX4_isPlan wsX4_isPlan) := goodIn_app (goodIn_of _ (by decide +kernel)) ggX4_inTheWay_X4_isPlan
set_option maxRecDepth 20000 in
theorem ggX4_inTheWay_X2_lowestSharing : GoodIn wsX4_inTheWay wsX2_lowestSharing := goodIn_r _ [25, 26, 27, 28, 29, 30, 5, 31, 32, 33, 34, 35, 36, 37, 38, 39, 40, 41, 42, 43, 44, 45, 46, 47, 48, 49, 50, 51, 52, 53, 54, 55, 56, 57, 58, 59, 11, 60, 61, 62, 63, 64, 65, 66, 72, 73, 74, 75, 76, 77, 78, 79, 80, 81, 82, 83, 84, 85, 86, 87, 88, 89, 90, 91, 92, 93, 94, 95, 96, 97, 98] (by decide +kernel) (by decide +kernel)
set_option maxRecDepth 20000 in
theorem gX4_inTheWay_X2_lowestSharing : GoodIn wsX4_inTheWay (wsV RX4 248 RX2 yX2_lowestSharing wsX2_lowestSharing) := goodIn_app (goodIn_of _ (by decide +kernel)) ggX4_inTheWay_X2_lowestSharing
theorem dX4_inTheWay_0 : decode cX4_inTheWay 0 = .ok (.aload_n 0, 1) := by decide +kernel
theorem dX4_inTheWay_1 : decode cX4_inTheWay 1 = .ok (.getfield 10, 3) := by decide +kernel
theorem dX4_inTheWay_4 : decode cX4_inTheWay 4 = .ok (.iload_n 1, 1) := by decide +kernel
theorem dX4_inTheWay_5 : decode cX4_inTheWay 5 = .ok (.invokevirtual 67, 3) := by decide +kernel
theorem dX4_inTheWay_8 : decode cX4_inTheWay 8 = .ok (.astore 5, 2) := by decide +kernel
theorem dX4_inTheWay_10 : decode cX4_inTheWay 10 = .ok (.aload 5, 2) := by decide +kernel
theorem dX4_inTheWay_12 : decode cX4_inTheWay 12 = .ok (.ifnull 13, 3) := by decide +kernel
theorem dX4_inTheWay_15 : decode cX4_inTheWay 15 = .ok (.iload_n 2, 1) := by decide +kernel
theorem dX4_inTheWay_16 : decode cX4_inTheWay 16 = .ok (.iload_n 3, 1) := by decide +kernel
theorem dX4_inTheWay_17 : decode cX4_inTheWay 17 = .ok (.iload 4, 2) := by decide +kernel
theorem dX4_inTheWay_19 : decode cX4_inTheWay 19 = .ok (.invokestatic 188, 3) := by decide +kernel
theorem dX4_inTheWay_22 : decode cX4_inTheWay 22 = .ok (.ifCond .ne 7, 3) := by decide +kernel
theorem dX4_inTheWay_25 : decode cX4_inTheWay 25 = .ok (.sipush (-1001), 3) := by decide +kernel
theorem dX4_inTheWay_28 : decode cX4_inTheWay 28 = .ok (.ireturn, 1) := by decide +kernel
theorem dX4_inTheWay_29 : decode cX4_inTheWay 29 = .ok (.aload_n 0, 1) := by decide +kernel
theorem dX4_inTheWay_30 : decode cX4_inTheWay 30 = .ok (.getfield 10, 3) := by decide +kernel
theorem dX4_inTheWay_33 : decode cX4_inTheWay 33 = .ok (.aload 5, 2) := by decide +kernel
theorem dX4_inTheWay_35 : decode cX4_inTheWay 35 = .ok (.iload_n 2, 1) := by decide +kernel
theorem dX4_inTheWay_36 : decode cX4_inTheWay 36 = .ok (.iload_n 3, 1) := by decide +kernel
theorem dX4_inTheWay_37 : decode cX4_inTheWay 37 = .ok (.iload 4, 2) := by decide +kernel
theorem dX4_inTheWay_39 : decode cX4_inTheWay 39 = .ok (.invokevirtual 248, 3) := by decide +kernel
theorem dX4_inTheWay_42 : decode cX4_inTheWay 42 = .ok (.istore 6, 2) := by decide +kernel
theorem dX4_inTheWay_44 : decode cX4_inTheWay 44 = .ok (.iload 6, 2) := by decide +kernel
theorem dX4_inTheWay_46 : decode cX4_inTheWay 46 = .ok (.iconst (-1), 1) := by decide +kernel
theorem dX4_inTheWay_47 : decode cX4_inTheWay 47 = .ok (.if_icmp .ne 9, 3) := by decide +kernel
theorem dX4_inTheWay_50 : decode cX4_inTheWay 50 = .ok (.sipush (-1004), 3) := by decide +kernel
theorem dX4_inTheWay_53 : decode cX4_inTheWay 53 = .ok (.goto 5, 3) := by decide +kernel
theorem dX4_inTheWay_56 : decode cX4_inTheWay 56 = .ok (.iload 6, 2) := by decide +kernel
theorem dX4_inTheWay_58 : decode cX4_inTheWay 58 = .ok (.ireturn, 1) := by decide +kernel
set_option maxRecDepth 20000 in
theorem ggX4_firstFree_X2_craneAt : GoodIn wsX4_firstFree wsX2_craneAt := goodIn_r _ [6, 7, 8, 116, 117, 118, 119, 120, 121, 122, 123, 124, 125, 126, 127, 128] (by decide +kernel) (by decide +kernel)
set_option maxRecDepth 20000 in
theorem gX4_firstFree_X2_craneAt : GoodIn wsX4_firstFree (wsV RX4 67 RX2 yX2_craneAt wsX2_craneAt) := goodIn_app (goodIn_of _ (by decide +kernel)) ggX4_firstFree_X2_craneAt
set_option maxRecDepth 20000 in
theorem ggX4_firstFree_X4_isSwing : GoodIn wsX4_firstFree wsX4_isSwing := goodIn_r _ [12, 13, 14, 11, 15] (by decide +kernel) (by decide +kernel)
set_option maxRecDepth 20000 in
theorem gX4_firstFree_X4_isSwing : GoodIn wsX4_firstFree (va_wsS RX4 175 yX4_isSwing wsX4_isSwing) := goodIn_app (goodIn_of _ (by decide +kernel)) ggX4_firstFree_X4_isSwing
set_option maxRecDepth 20000 in
theorem ggX4_firstFree_X4_isIn : GoodIn wsX4_firstFree wsX4_isIn := goodIn_r _ [15] (by decide +kernel) (by decide +kernel)
set_option maxRecDepth 20000 in
theorem gX4_firstFree_X4_isIn : GoodIn wsX4_firstFree (va_wsS RX4 38 yX4_isIn wsX4_isIn) := goodIn_app (goodIn_of _ (by decide +kernel)) ggX4_firstFree_X4_isIn
set_option maxRecDepth 20000 in
theorem ggX4_firstFree_X4_isNight : GoodIn wsX4_firstFree wsX4_isNight := goodIn_r _ [18, 13, 14, 11, 15] (by decide +kernel) (by decide +kernel)
set_option maxRecDepth 20000 in
theorem gX4_firstFree_X4_isNight : GoodIn wsX4_firstFree (va_wsS RX4 118 yX4_isNight wsX4_isNight) := goodIn_app (goodIn_of _ (by decide +kernel)) ggX4_firstFree_X4_isNight
set_option maxRecDepth 20000 in
theorem ggX4_firstFree_X2_refusalOf : GoodIn wsX4_firstFree wsX2_refusalOf := goodIn_r _ [22, 23, 24, 25, 26, 5, 27, 28, 29, 30, 31, 32, 33, 34, 35, 36, 37, 38, 39, 40, 41, 42, 43, 44, 45, 46, 47, 48, 49, 50, 51, 52, 53, 11, 54, 55, 56, 57, 58, 59, 60, 61, 62, 63, 64, 65, 66, 67, 68, 69, 70, 71, 72, 73, 74, 75, 76, 77, 78, 79, 80, 81, 82, 83, 84, 85, 86, 87, 88, 89, 90, 91, 92, 93, 94, 95, 96, 97, 98, 99, 100, 101, 102, 103, 104, 105, 106, 107, 108, 109, 110, 129, 130, 131, 132, 133, 134, 135, 116, 117, 118, 119, 120, 121, 122, 123, 124, 125, 126, 127, 128, 136, 137, 138, 139, 140, 141, 142] (by decide +kernel) (by decide +kernel)
set_option maxRecDepth 20000 in
theorem gX4_firstFree_X2_refusalOf : GoodIn wsX4_firstFree (wsV RX4 191 RX2 yX2_refusalOf wsX2_refusalOf) := goodIn_app (goodIn_of _ (by decide +kernel)) ggX4_firstFree_X2_refusalOf
theorem dX4_firstFree_0 : decode cX4_firstFree 0 = .ok (.aload_n 0, 1) := by decide +kernel
theorem dX4_firstFree_1 : decode cX4_firstFree 1 = .ok (.getfield 10, 3) := by decide +kernel
theorem dX4_firstFree_4 : decode cX4_firstFree 4 = .ok (.iload_n 1, 1) := by decide +kernel
theorem dX4_firstFree_5 : decode cX4_firstFree 5 = .ok (.invokevirtual 67, 3) := by decide +kernel
theorem dX4_firstFree_8 : decode cX4_firstFree 8 = .ok (.astore 5, 2) := by decide +kernel
theorem dX4_firstFree_10 : decode cX4_firstFree 10 = .ok (.aload 5, 2) := by decide +kernel
theorem dX4_firstFree_12 : decode cX4_firstFree 12 = .ok (.ifnull 28, 3) := by decide +kernel
theorem dX4_firstFree_15 : decode cX4_firstFree 15 = .ok (.iload_n 2, 1) := by decide +kernel
theorem dX4_firstFree_16 : decode cX4_firstFree 16 = .ok (.invokestatic 175, 3) := by decide +kernel
theorem dX4_firstFree_19 : decode cX4_firstFree 19 = .ok (.ifCond .eq 21, 3) := by decide +kernel
theorem dX4_firstFree_22 : decode cX4_firstFree 22 = .ok (.iload_n 3, 1) := by decide +kernel
theorem dX4_firstFree_23 : decode cX4_firstFree 23 = .ok (.iconst 1, 1) := by decide +kernel
theorem dX4_firstFree_24 : decode cX4_firstFree 24 = .ok (.bipush 10, 2) := by decide +kernel
theorem dX4_firstFree_26 : decode cX4_firstFree 26 = .ok (.invokestatic 38, 3) := by decide +kernel
theorem dX4_firstFree_29 : decode cX4_firstFree 29 = .ok (.ifCond .eq 11, 3) := by decide +kernel
theorem dX4_firstFree_32 : decode cX4_firstFree 32 = .ok (.iload 4, 2) := by decide +kernel
theorem dX4_firstFree_34 : decode cX4_firstFree 34 = .ok (.invokestatic 118, 3) := by decide +kernel
theorem dX4_firstFree_37 : decode cX4_firstFree 37 = .ok (.ifCond .ne 7, 3) := by decide +kernel
theorem dX4_firstFree_40 : decode cX4_firstFree 40 = .ok (.sipush (-1001), 3) := by decide +kernel
theorem dX4_firstFree_43 : decode cX4_firstFree 43 = .ok (.ireturn, 1) := by decide +kernel
theorem dX4_firstFree_44 : decode cX4_firstFree 44 = .ok (.iload 4, 2) := by decide +kernel
theorem dX4_firstFree_46 : decode cX4_firstFree 46 = .ok (.istore 6, 2) := by decide +kernel
theorem dX4_firstFree_48 : decode cX4_firstFree 48 = .ok (.iload 6, 2) := by decide +kernel
theorem dX4_firstFree_50 : decode cX4_firstFree 50 = .ok (.bipush 30, 2) := by decide +kernel
theorem dX4_firstFree_52 : decode cX4_firstFree 52 = .ok (.if_icmp .ge 67, 3) := by decide +kernel
theorem dX4_firstFree_55 : decode cX4_firstFree 55 = .ok (.iconst 0, 1) := by decide +kernel
theorem dX4_firstFree_56 : decode cX4_firstFree 56 = .ok (.istore 7, 2) := by decide +kernel
theorem dX4_firstFree_58 : decode cX4_firstFree 58 = .ok (.iload 7, 2) := by decide +kernel
theorem dX4_firstFree_60 : decode cX4_firstFree 60 = .ok (.iload_n 3, 1) := by decide +kernel
theorem dX4_firstFree_61 : decode cX4_firstFree 61 = .ok (.iadd, 1) := by decide +kernel
theorem dX4_firstFree_62 : decode cX4_firstFree 62 = .ok (.bipush 10, 2) := by decide +kernel
theorem dX4_firstFree_64 : decode cX4_firstFree 64 = .ok (.if_icmp .gt 49, 3) := by decide +kernel
theorem dX4_firstFree_67 : decode cX4_firstFree 67 = .ok (.bipush 10, 2) := by decide +kernel
theorem dX4_firstFree_69 : decode cX4_firstFree 69 = .ok (.iload 7, 2) := by decide +kernel
theorem dX4_firstFree_71 : decode cX4_firstFree 71 = .ok (.imul, 1) := by decide +kernel
theorem dX4_firstFree_72 : decode cX4_firstFree 72 = .ok (.iload 7, 2) := by decide +kernel
theorem dX4_firstFree_74 : decode cX4_firstFree 74 = .ok (.iadd, 1) := by decide +kernel
theorem dX4_firstFree_75 : decode cX4_firstFree 75 = .ok (.iload_n 3, 1) := by decide +kernel
theorem dX4_firstFree_76 : decode cX4_firstFree 76 = .ok (.iadd, 1) := by decide +kernel
theorem dX4_firstFree_77 : decode cX4_firstFree 77 = .ok (.iconst 1, 1) := by decide +kernel
theorem dX4_firstFree_78 : decode cX4_firstFree 78 = .ok (.isub, 1) := by decide +kernel
theorem dX4_firstFree_79 : decode cX4_firstFree 79 = .ok (.istore 8, 2) := by decide +kernel
theorem dX4_firstFree_81 : decode cX4_firstFree 81 = .ok (.aload_n 0, 1) := by decide +kernel
theorem dX4_firstFree_82 : decode cX4_firstFree 82 = .ok (.getfield 10, 3) := by decide +kernel
theorem dX4_firstFree_85 : decode cX4_firstFree 85 = .ok (.aload 5, 2) := by decide +kernel
theorem dX4_firstFree_87 : decode cX4_firstFree 87 = .ok (.iload 6, 2) := by decide +kernel
theorem dX4_firstFree_89 : decode cX4_firstFree 89 = .ok (.iload 8, 2) := by decide +kernel
theorem dX4_firstFree_91 : decode cX4_firstFree 91 = .ok (.iload_n 2, 1) := by decide +kernel
theorem dX4_firstFree_92 : decode cX4_firstFree 92 = .ok (.invokevirtual 191, 3) := by decide +kernel
theorem dX4_firstFree_95 : decode cX4_firstFree 95 = .ok (.ifCond .ne 12, 3) := by decide +kernel
theorem dX4_firstFree_98 : decode cX4_firstFree 98 = .ok (.bipush 10, 2) := by decide +kernel
theorem dX4_firstFree_100 : decode cX4_firstFree 100 = .ok (.iload 6, 2) := by decide +kernel
theorem dX4_firstFree_102 : decode cX4_firstFree 102 = .ok (.imul, 1) := by decide +kernel
theorem dX4_firstFree_103 : decode cX4_firstFree 103 = .ok (.iload 7, 2) := by decide +kernel
theorem dX4_firstFree_105 : decode cX4_firstFree 105 = .ok (.iadd, 1) := by decide +kernel
theorem dX4_firstFree_106 : decode cX4_firstFree 106 = .ok (.ireturn, 1) := by decide +kernel
theorem dX4_firstFree_107 : decode cX4_firstFree 107 = .ok (.iinc 7 1, 3) := by decide +kernel
theorem dX4_firstFree_110 : decode cX4_firstFree 110 = .ok (.goto (-52), 3) := by decide +kernel
theorem dX4_firstFree_113 : decode cX4_firstFree 113 = .ok (.iinc 6 1, 3) := by decide +kernel
theorem dX4_firstFree_116 : decode cX4_firstFree 116 = .ok (.goto (-68), 3) := by decide +kernel
theorem dX4_firstFree_119 : decode cX4_firstFree 119 = .ok (.sipush (-1004), 3) := by decide +kernel
theorem dX4_firstFree_122 : decode cX4_firstFree 122 = .ok (.ireturn, 1) := by decide +kernel
set_option maxRecDepth 20000 in
theorem ggX4_type_X4_isIn : GoodIn wsX4_type wsX4_isIn := goodIn_r _ [6] (by decide +kernel) (by decide +kernel)
set_option maxRecDepth 20000 in
theorem gX4_type_X4_isIn : GoodIn wsX4_type (va_wsS RX4 38 yX4_isIn wsX4_isIn) := goodIn_app (goodIn_of _ (by decide +kernel)) ggX4_type_X4_isIn
set_option maxRecDepth 20000 in
theorem ggX4_type_X3_append : GoodIn wsX4_type wsX3_append := goodIn_r _ [11, 12, 13, 19, 20, 21, 22, 23, 24, 25, 26, 27] (by decide +kernel) (by decide +kernel)
set_option maxRecDepth 20000 in
theorem gX4_type_X3_append : GoodIn wsX4_type (wsV RX4 251 RX3 yX3_append wsX3_append) := goodIn_app (goodIn_of _ (by decide +kernel)) ggX4_type_X3_append
theorem dX4_type_0 : decode cX4_type 0 = .ok (.iload_n 1, 1) := by decide +kernel
theorem dX4_type_1 : decode cX4_type 1 = .ok (.bipush 32, 2) := by decide +kernel
theorem dX4_type_3 : decode cX4_type 3 = .ok (.bipush 126, 2) := by decide +kernel
theorem dX4_type_5 : decode cX4_type 5 = .ok (.invokestatic 38, 3) := by decide +kernel
theorem dX4_type_8 : decode cX4_type 8 = .ok (.ifCond .ne 7, 3) := by decide +kernel
theorem dX4_type_11 : decode cX4_type 11 = .ok (.sipush (-1001), 3) := by decide +kernel
theorem dX4_type_14 : decode cX4_type 14 = .ok (.ireturn, 1) := by decide +kernel
theorem dX4_type_15 : decode cX4_type 15 = .ok (.aload_n 0, 1) := by decide +kernel
theorem dX4_type_16 : decode cX4_type 16 = .ok (.getfield 30, 3) := by decide +kernel
theorem dX4_type_19 : decode cX4_type 19 = .ok (.getfield 168, 3) := by decide +kernel
theorem dX4_type_22 : decode cX4_type 22 = .ok (.bipush 80, 2) := by decide +kernel
theorem dX4_type_24 : decode cX4_type 24 = .ok (.if_icmp .lt 7, 3) := by decide +kernel
theorem dX4_type_27 : decode cX4_type 27 = .ok (.sipush (-1003), 3) := by decide +kernel
theorem dX4_type_30 : decode cX4_type 30 = .ok (.ireturn, 1) := by decide +kernel
theorem dX4_type_31 : decode cX4_type 31 = .ok (.aload_n 0, 1) := by decide +kernel
theorem dX4_type_32 : decode cX4_type 32 = .ok (.getfield 30, 3) := by decide +kernel
theorem dX4_type_35 : decode cX4_type 35 = .ok (.iload_n 1, 1) := by decide +kernel
theorem dX4_type_36 : decode cX4_type 36 = .ok (.i2c, 1) := by decide +kernel
theorem dX4_type_37 : decode cX4_type 37 = .ok (.invokevirtual 251, 3) := by decide +kernel
theorem dX4_type_40 : decode cX4_type 40 = .ok (.aload_n 0, 1) := by decide +kernel
theorem dX4_type_41 : decode cX4_type 41 = .ok (.getfield 30, 3) := by decide +kernel
theorem dX4_type_44 : decode cX4_type 44 = .ok (.getfield 168, 3) := by decide +kernel
theorem dX4_type_47 : decode cX4_type 47 = .ok (.ireturn, 1) := by decide +kernel
theorem dX4_clearText_0 : decode cX4_clearText 0 = .ok (.aload_n 0, 1) := by decide +kernel
theorem dX4_clearText_1 : decode cX4_clearText 1 = .ok (.getfield 30, 3) := by decide +kernel
theorem dX4_clearText_4 : decode cX4_clearText 4 = .ok (.getfield 168, 3) := by decide +kernel
theorem dX4_clearText_7 : decode cX4_clearText 7 = .ok (.istore_n 1, 1) := by decide +kernel
theorem dX4_clearText_8 : decode cX4_clearText 8 = .ok (.aload_n 0, 1) := by decide +kernel
theorem dX4_clearText_9 : decode cX4_clearText 9 = .ok (.getfield 30, 3) := by decide +kernel
theorem dX4_clearText_12 : decode cX4_clearText 12 = .ok (.iconst 0, 1) := by decide +kernel
theorem dX4_clearText_13 : decode cX4_clearText 13 = .ok (.putfield 168, 3) := by decide +kernel
theorem dX4_clearText_16 : decode cX4_clearText 16 = .ok (.iload_n 1, 1) := by decide +kernel
theorem dX4_clearText_17 : decode cX4_clearText 17 = .ok (.ireturn, 1) := by decide +kernel
set_option maxRecDepth 20000 in
theorem ggX4_fault_X4_isIn : GoodIn wsX4_fault wsX4_isIn := goodIn_r _ [8] (by decide +kernel) (by decide +kernel)
set_option maxRecDepth 20000 in
theorem gX4_fault_X4_isIn : GoodIn wsX4_fault (va_wsS RX4 38 yX4_isIn wsX4_isIn) := goodIn_app (goodIn_of _ (by decide +kernel)) ggX4_fault_X4_isIn
set_option maxRecDepth 20000 in
theorem ggX4_fault_X2_copyFrom : GoodIn wsX4_fault wsX2_copyFrom := goodIn_r _ [13, 14, 15, 16, 17, 18, 19, 20, 21, 22, 23, 24, 25, 26, 27, 28, 29, 30, 204, 205, 206, 207, 208, 209, 210, 211, 212, 213, 214, 215, 216] (by decide +kernel) (by decide +kernel)
set_option maxRecDepth 20000 in
theorem gX4_fault_X2_copyFrom : GoodIn wsX4_fault (wsV RX4 171 RX2 yX2_copyFrom wsX2_copyFrom) := goodIn_app (goodIn_of _ (by decide +kernel)) ggX4_fault_X2_copyFrom
set_option maxRecDepth 20000 in
theorem ggX4_fault_X4_tryText : GoodIn wsX4_fault wsX4_tryText := goodIn_r _ [34, 3, 35, 36, 37, 38, 39, 7, 40, 1, 41, 42, 43, 44, 45, 46, 47, 48, 49, 50, 51, 52, 53, 54, 55, 56, 57, 58, 59, 60, 61, 62, 63, 64, 65, 66, 67, 68, 69, 70, 6, 8, 71, 72, 73, 74, 75, 76, 77, 12, 78, 19, 14, 79, 80, 81, 82, 83, 84, 5, 85, 86, 87, 88, 89, 90, 91, 92, 93, 94, 95, 96, 30, 97, 98, 99, 100, 29, 101, 102, 103, 104, 105, 106, 107, 108, 109, 110, 111, 112, 113, 114, 115, 116, 117, 22, 118, 119, 120, 121, 122, 123, 21, 124, 125, 126, 127, 128, 129, 130, 131, 132, 133, 134, 135, 136, 137, 138, 139, 140, 141, 142, 143, 144, 145, 146, 147, 148, 149, 150, 151, 152, 153, 154, 155, 156, 157, 158, 159, 20, 160, 161, 162, 163, 164, 24, 25, 165, 166, 167, 168, 169, 170, 23, 171, 172, 173, 174, 27, 175, 176, 177, 178, 179, 180, 181, 182, 183, 184, 185, 186, 187, 26, 28, 188, 189, 190, 191, 192, 193, 194, 195, 196, 197, 198, 199, 200, 201, 202, 203, 217, 218, 219, 220, 221, 222, 223, 204, 205, 206, 207, 208, 209, 210, 211, 212, 213, 214, 215, 216, 224, 225, 226, 227, 228, 229, 230] (by decide +kernel) (by decide +kernel)
set_option maxRecDepth 20000 in
theorem gX4_fault_X4_tryText : GoodIn wsX4_fault (wsV RX4 255 RX4 yX4_tryText wsX4_tryText) := goodIn_app (goodIn_of _ (by decide +kernel)) ggX4_fault_X4_tryText
theorem dX4_fault_0 : decode cX4_fault 0 = .ok (.iload_n 1, 1) := by decide +kernel
theorem dX4_fault_1 : decode cX4_fault 1 = .ok (.iconst 0, 1) := by decide +kernel
theorem dX4_fault_2 : decode cX4_fault 2 = .ok (.iconst 1, 1) := by decide +kernel
theorem dX4_fault_3 : decode cX4_fault 3 = .ok (.invokestatic 38, 3) := by decide +kernel
theorem dX4_fault_6 : decode cX4_fault 6 = .ok (.ifCond .ne 7, 3) := by decide +kernel
theorem dX4_fault_9 : decode cX4_fault 9 = .ok (.sipush (-1001), 3) := by decide +kernel
theorem dX4_fault_12 : decode cX4_fault 12 = .ok (.ireturn, 1) := by decide +kernel
theorem dX4_fault_13 : decode cX4_fault 13 = .ok (.aload_n 0, 1) := by decide +kernel
theorem dX4_fault_14 : decode cX4_fault 14 = .ok (.getfield 16, 3) := by decide +kernel
theorem dX4_fault_17 : decode cX4_fault 17 = .ok (.aload_n 0, 1) := by decide +kernel
theorem dX4_fault_18 : decode cX4_fault 18 = .ok (.getfield 10, 3) := by decide +kernel
theorem dX4_fault_21 : decode cX4_fault 21 = .ok (.invokevirtual 171, 3) := by decide +kernel
theorem dX4_fault_24 : decode cX4_fault 24 = .ok (.aload_n 0, 1) := by decide +kernel
theorem dX4_fault_25 : decode cX4_fault 25 = .ok (.invokevirtual 255, 3) := by decide +kernel
theorem dX4_fault_28 : decode cX4_fault 28 = .ok (.istore_n 2, 1) := by decide +kernel
theorem dX4_fault_29 : decode cX4_fault 29 = .ok (.iload_n 2, 1) := by decide +kernel
theorem dX4_fault_30 : decode cX4_fault 30 = .ok (.ifCond .ne 7, 3) := by decide +kernel
theorem dX4_fault_33 : decode cX4_fault 33 = .ok (.sipush (-1004), 3) := by decide +kernel
theorem dX4_fault_36 : decode cX4_fault 36 = .ok (.ireturn, 1) := by decide +kernel
theorem dX4_fault_37 : decode cX4_fault 37 = .ok (.iload_n 1, 1) := by decide +kernel
theorem dX4_fault_38 : decode cX4_fault 38 = .ok (.ifCond .ne 13, 3) := by decide +kernel
theorem dX4_fault_41 : decode cX4_fault 41 = .ok (.aload_n 0, 1) := by decide +kernel
theorem dX4_fault_42 : decode cX4_fault 42 = .ok (.getfield 30, 3) := by decide +kernel
theorem dX4_fault_45 : decode cX4_fault 45 = .ok (.getfield 258, 3) := by decide +kernel
theorem dX4_fault_48 : decode cX4_fault 48 = .ok (.goto 4, 3) := by decide +kernel
theorem dX4_fault_51 : decode cX4_fault 51 = .ok (.iload_n 2, 1) := by decide +kernel
theorem dX4_fault_52 : decode cX4_fault 52 = .ok (.ireturn, 1) := by decide +kernel
set_option maxRecDepth 20000 in
theorem ggX4_enter_X2_copyFrom : GoodIn wsX4_enter wsX2_copyFrom := goodIn_r _ [8, 9, 10, 11, 12, 13, 14, 15, 16, 17, 18, 19, 20, 21, 22, 23, 24, 25, 201, 202, 203, 204, 205, 206, 207, 208, 209, 210, 211, 212, 213] (by decide +kernel) (by decide +kernel)
set_option maxRecDepth 20000 in
theorem gX4_enter_X2_copyFrom : GoodIn wsX4_enter (wsV RX4 171 RX2 yX2_copyFrom wsX2_copyFrom) := goodIn_app (goodIn_of _ (by decide +kernel)) ggX4_enter_X2_copyFrom
set_option maxRecDepth 20000 in
theorem ggX4_enter_X4_tryText : GoodIn wsX4_enter wsX4_tryText := goodIn_r _ [30, 31, 32, 33, 34, 35, 36, 29, 37, 1, 38, 39, 40, 41, 42, 43, 44, 3, 45, 46, 47, 48, 49, 50, 51, 52, 53, 54, 55, 56, 57, 58, 59, 60, 61, 62, 63, 64, 65, 66, 67, 68, 69, 70, 71, 72, 73, 74, 75, 7, 76, 14, 9, 77, 78, 79, 80, 81, 82, 83, 84, 85, 86, 87, 88, 89, 90, 91, 92, 93, 94, 95, 25, 96, 97, 98, 99, 24, 100, 101, 102, 103, 104, 105, 106, 107, 108, 109, 110, 111, 112, 113, 114, 115, 116, 17, 117, 118, 119, 120, 121, 122, 16, 123, 124, 125, 126, 127, 128, 129, 130, 131, 132, 133, 134, 135, 136, 137, 138, 139, 140, 141, 142, 143, 144, 145, 146, 147, 148, 149, 150, 151, 152, 153, 154, 155, 156, 157, 158, 15, 159, 160, 161, 162, 163, 19, 20, 164, 165, 166, 167, 168, 169, 18, 170, 171, 172, 173, 22, 174, 175, 176, 177, 178, 179, 180, 181, 182, 183, 184, 185, 186, 21, 23, 187, 188, 196, 197, 198, 199, 200, 214, 215, 216, 217, 218, 219, 220, 221, 222, 223, 224, 225, 226, 227, 228, 229, 201, 202, 203, 204, 205, 206, 207, 208, 209, 210, 211, 212, 213, 230, 231, 232, 233, 234, 235, 236] (by decide +kernel) (by decide +kernel)
set_option maxRecDepth 20000 in
theorem gX4_enter_X4_tryText : GoodIn wsX4_enter (wsV RX4 255 RX4 yX4_tryText wsX4_tryText) := goodIn_app (goodIn_of _ (by decide +kernel)) ggX4_enter_X4_tryText
set_option maxRecDepth 20000 in
theorem ggX4_enter_X4_remember : GoodIn wsX4_enter wsX4_remember := goodIn_r _ [192, 193, 194, 195, 11, 12, 13, 2, 4, 5, 6, 7, 8, 9, 10, 14, 15, 16, 17, 18, 19, 20, 21, 22, 23, 24, 25, 196, 197, 198, 199, 200, 201, 202, 203, 204, 205, 206, 207, 208, 209, 210, 211, 212, 213] (by decide +kernel) (by decide +kernel)
set_option maxRecDepth 20000 in
theorem gX4_enter_X4_remember : GoodIn wsX4_enter (wsV RX4 52 RX4 yX4_remember wsX4_remember) := goodIn_app (goodIn_of _ (by decide +kernel)) ggX4_enter_X4_remember
theorem dX4_enter_0 : decode cX4_enter 0 = .ok (.aload_n 0, 1) := by decide +kernel
theorem dX4_enter_1 : decode cX4_enter 1 = .ok (.getfield 16, 3) := by decide +kernel
theorem dX4_enter_4 : decode cX4_enter 4 = .ok (.aload_n 0, 1) := by decide +kernel
theorem dX4_enter_5 : decode cX4_enter 5 = .ok (.getfield 10, 3) := by decide +kernel
theorem dX4_enter_8 : decode cX4_enter 8 = .ok (.invokevirtual 171, 3) := by decide +kernel
theorem dX4_enter_11 : decode cX4_enter 11 = .ok (.aload_n 0, 1) := by decide +kernel
theorem dX4_enter_12 : decode cX4_enter 12 = .ok (.invokevirtual 255, 3) := by decide +kernel
theorem dX4_enter_15 : decode cX4_enter 15 = .ok (.ifCond .eq 7, 3) := by decide +kernel
theorem dX4_enter_18 : decode cX4_enter 18 = .ok (.sipush (-1002), 3) := by decide +kernel
theorem dX4_enter_21 : decode cX4_enter 21 = .ok (.ireturn, 1) := by decide +kernel
theorem dX4_enter_22 : decode cX4_enter 22 = .ok (.aload_n 0, 1) := by decide +kernel
theorem dX4_enter_23 : decode cX4_enter 23 = .ok (.invokevirtual 52, 3) := by decide +kernel
theorem dX4_enter_26 : decode cX4_enter 26 = .ok (.aload_n 0, 1) := by decide +kernel
theorem dX4_enter_27 : decode cX4_enter 27 = .ok (.getfield 16, 3) := by decide +kernel
theorem dX4_enter_30 : decode cX4_enter 30 = .ok (.getfield 155, 3) := by decide +kernel
theorem dX4_enter_33 : decode cX4_enter 33 = .ok (.aload_n 0, 1) := by decide +kernel
theorem dX4_enter_34 : decode cX4_enter 34 = .ok (.getfield 10, 3) := by decide +kernel
theorem dX4_enter_37 : decode cX4_enter 37 = .ok (.getfield 155, 3) := by decide +kernel
theorem dX4_enter_40 : decode cX4_enter 40 = .ok (.isub, 1) := by decide +kernel
theorem dX4_enter_41 : decode cX4_enter 41 = .ok (.istore_n 1, 1) := by decide +kernel
theorem dX4_enter_42 : decode cX4_enter 42 = .ok (.aload_n 0, 1) := by decide +kernel
theorem dX4_enter_43 : decode cX4_enter 43 = .ok (.getfield 10, 3) := by decide +kernel
theorem dX4_enter_46 : decode cX4_enter 46 = .ok (.aload_n 0, 1) := by decide +kernel
theorem dX4_enter_47 : decode cX4_enter 47 = .ok (.getfield 16, 3) := by decide +kernel
theorem dX4_enter_50 : decode cX4_enter 50 = .ok (.invokevirtual 171, 3) := by decide +kernel
theorem dX4_enter_53 : decode cX4_enter 53 = .ok (.iload_n 1, 1) := by decide +kernel
theorem dX4_enter_54 : decode cX4_enter 54 = .ok (.ireturn, 1) := by decide +kernel
set_option maxRecDepth 20000 in
theorem ggX4_remember_X2_copyFrom : GoodIn wsX4_remember wsX2_copyFrom := goodIn_r _ [12, 13, 14, 4, 5, 6, 15, 16, 17, 18, 19, 20, 21, 22, 23, 24, 25, 26, 32, 33, 34, 35, 36, 37, 38, 39, 40, 41, 42, 43, 44] (by decide +kernel) (by decide +kernel)
set_option maxRecDepth 20000 in
theorem gX4_remember_X2_copyFrom : GoodIn wsX4_remember (wsV RX4 171 RX2 yX2_copyFrom wsX2_copyFrom) := goodIn_app (goodIn_of _ (by decide +kernel)) ggX4_remember_X2_copyFrom
theorem dX4_remember_0 : decode cX4_remember 0 = .ok (.aload_n 0, 1) := by decide +kernel
theorem dX4_remember_1 : decode cX4_remember 1 = .ok (.getfield 23, 3) := by decide +kernel
theorem dX4_remember_4 : decode cX4_remember 4 = .ok (.aload_n 0, 1) := by decide +kernel
theorem dX4_remember_5 : decode cX4_remember 5 = .ok (.getfield 19, 3) := by decide +kernel
theorem dX4_remember_8 : decode cX4_remember 8 = .ok (.arraylength, 1) := by decide +kernel
theorem dX4_remember_9 : decode cX4_remember 9 = .ok (.if_icmp .lt 54, 3) := by decide +kernel
theorem dX4_remember_12 : decode cX4_remember 12 = .ok (.aload_n 0, 1) := by decide +kernel
theorem dX4_remember_13 : decode cX4_remember 13 = .ok (.getfield 19, 3) := by decide +kernel
theorem dX4_remember_16 : decode cX4_remember 16 = .ok (.iconst 0, 1) := by decide +kernel
theorem dX4_remember_17 : decode cX4_remember 17 = .ok (.aaload, 1) := by decide +kernel
theorem dX4_remember_18 : decode cX4_remember 18 = .ok (.astore_n 1, 1) := by decide +kernel
theorem dX4_remember_19 : decode cX4_remember 19 = .ok (.aload_n 0, 1) := by decide +kernel
theorem dX4_remember_20 : decode cX4_remember 20 = .ok (.getfield 19, 3) := by decide +kernel
theorem dX4_remember_23 : decode cX4_remember 23 = .ok (.iconst 1, 1) := by decide +kernel
theorem dX4_remember_24 : decode cX4_remember 24 = .ok (.aload_n 0, 1) := by decide +kernel
theorem dX4_remember_25 : decode cX4_remember 25 = .ok (.getfield 19, 3) := by decide +kernel
theorem dX4_remember_28 : decode cX4_remember 28 = .ok (.iconst 0, 1) := by decide +kernel
theorem dX4_remember_29 : decode cX4_remember 29 = .ok (.aload_n 0, 1) := by decide +kernel
theorem dX4_remember_30 : decode cX4_remember 30 = .ok (.getfield 19, 3) := by decide +kernel
theorem dX4_remember_33 : decode cX4_remember 33 = .ok (.arraylength, 1) := by decide +kernel
theorem dX4_remember_34 : decode cX4_remember 34 = .ok (.iconst 1, 1) := by decide +kernel
theorem dX4_remember_35 : decode cX4_remember 35 = .ok (.isub, 1) := by decide +kernel
theorem dX4_remember_36 : decode cX4_remember 36 = .ok (.invokestatic 261, 3) := by decide +kernel
theorem dX4_remember_39 : decode cX4_remember 39 = .ok (.aload_n 0, 1) := by decide +kernel
theorem dX4_remember_40 : decode cX4_remember 40 = .ok (.getfield 19, 3) := by decide +kernel
theorem dX4_remember_43 : decode cX4_remember 43 = .ok (.aload_n 0, 1) := by decide +kernel
theorem dX4_remember_44 : decode cX4_remember 44 = .ok (.getfield 19, 3) := by decide +kernel
theorem dX4_remember_47 : decode cX4_remember 47 = .ok (.arraylength, 1) := by decide +kernel
theorem dX4_remember_48 : decode cX4_remember 48 = .ok (.iconst 1, 1) := by decide +kernel
theorem dX4_remember_49 : decode cX4_remember 49 = .ok (.isub, 1) := by decide +kernel
theorem dX4_remember_50 : decode cX4_remember 50 = .ok (.aload_n 1, 1) := by decide +kernel
theorem dX4_remember_51 : decode cX4_remember 51 = .ok (.aastore, 1) := by decide +kernel
theorem dX4_remember_52 : decode cX4_remember 52 = .ok (.aload_n 0, 1) := by decide +kernel
theorem dX4_remember_53 : decode cX4_remember 53 = .ok (.aload_n 0, 1) := by decide +kernel
theorem dX4_remember_54 : decode cX4_remember 54 = .ok (.getfield 19, 3) := by decide +kernel
theorem dX4_remember_57 : decode cX4_remember 57 = .ok (.arraylength, 1) := by decide +kernel
theorem dX4_remember_58 : decode cX4_remember 58 = .ok (.iconst 1, 1) := by decide +kernel
theorem dX4_remember_59 : decode cX4_remember 59 = .ok (.isub, 1) := by decide +kernel
theorem dX4_remember_60 : decode cX4_remember 60 = .ok (.putfield 23, 3) := by decide +kernel
theorem dX4_remember_63 : decode cX4_remember 63 = .ok (.aload_n 0, 1) := by decide +kernel
theorem dX4_remember_64 : decode cX4_remember 64 = .ok (.getfield 23, 3) := by decide +kernel
theorem dX4_remember_67 : decode cX4_remember 67 = .ok (.ifCond .lt 29, 3) := by decide +kernel
theorem dX4_remember_70 : decode cX4_remember 70 = .ok (.aload_n 0, 1) := by decide +kernel
theorem dX4_remember_71 : decode cX4_remember 71 = .ok (.getfield 19, 3) := by decide +kernel
theorem dX4_remember_74 : decode cX4_remember 74 = .ok (.aload_n 0, 1) := by decide +kernel
theorem dX4_remember_75 : decode cX4_remember 75 = .ok (.getfield 23, 3) := by decide +kernel
theorem dX4_remember_78 : decode cX4_remember 78 = .ok (.aaload, 1) := by decide +kernel
theorem dX4_remember_79 : decode cX4_remember 79 = .ok (.aload_n 0, 1) := by decide +kernel
theorem dX4_remember_80 : decode cX4_remember 80 = .ok (.getfield 10, 3) := by decide +kernel
theorem dX4_remember_83 : decode cX4_remember 83 = .ok (.invokevirtual 171, 3) := by decide +kernel
theorem dX4_remember_86 : decode cX4_remember 86 = .ok (.aload_n 0, 1) := by decide +kernel
theorem dX4_remember_87 : decode cX4_remember 87 = .ok (.dup, 1) := by decide +kernel
theorem dX4_remember_88 : decode cX4_remember 88 = .ok (.getfield 23, 3) := by decide +kernel
theorem dX4_remember_91 : decode cX4_remember 91 = .ok (.iconst 1, 1) := by decide +kernel
theorem dX4_remember_92 : decode cX4_remember 92 = .ok (.iadd, 1) := by decide +kernel
theorem dX4_remember_93 : decode cX4_remember 93 = .ok (.putfield 23, 3) := by decide +kernel
theorem dX4_remember_96 : decode cX4_remember 96 = .ok (.return_, 1) := by decide +kernel
set_option maxRecDepth 20000 in
theorem ggX4_tryText_X4_tryApplication : GoodIn wsX4_tryText wsX4_tryApplication := goodIn_r _ [8, 1, 9, 10, 11, 12, 13, 14, 15, 16, 17, 18, 19, 20, 21, 22, 23, 24, 25, 26, 27, 28, 29, 30, 31, 32, 33, 34, 35, 36, 37, 38, 39, 40, 7, 41, 42, 43, 44, 45, 46, 47, 48, 49, 50, 51, 52, 53, 54, 55, 56, 57, 58, 59, 60, 61, 62, 63, 64, 65, 66, 67, 68, 69, 70, 71, 72, 73, 74, 75, 76, 77, 78, 79, 80, 81, 82, 83, 84, 85, 86, 87, 88, 89, 90, 91, 92, 93, 94, 95, 96, 97, 98, 99, 100, 101, 102, 103, 104, 105, 106, 107, 108, 109, 110, 111, 112, 113, 114, 115, 116, 117, 118, 119, 120, 121, 122, 123, 124, 125, 126, 127, 128, 129, 130, 131, 132, 133, 134, 135, 136, 137, 138, 139, 140, 141, 142, 143, 144, 145, 146, 147, 148, 149, 150, 151, 152, 153, 154, 155, 156, 157, 158, 159, 160, 161, 162, 163, 164, 165, 166, 167, 168, 169, 170, 171, 172, 173, 174, 175, 176, 177, 178, 179, 180, 181, 182, 183, 184, 185, 186, 187, 188, 189, 190, 191, 192, 193, 194, 195, 196, 197, 198, 199, 200, 201, 202, 203, 204, 205, 206, 207, 208, 209, 210, 211, 212, 213, 214, 215, 216] (by decide +kernel) (by decide +kernel)
set_option maxRecDepth 20000 in
theorem gX4_tryText_X4_tryApplication : GoodIn wsX4_tryText (wsV RX4 270 RX4 yX4_tryApplication wsX4_tryApplication) := goodIn_app (goodIn_of _ (by decide +kernel)) ggX4_tryText_X4_tryApplication
theorem dX4_tryText_0 : decode cX4_tryText 0 = .ok (.aload_n 0, 1) := by decide +kernel
theorem dX4_tryText_1 : decode cX4_tryText 1 = .ok (.getfield 30, 3) := by decide +kernel
theorem dX4_tryText_4 : decode cX4_tryText 4 = .ok (.iconst 0, 1) := by decide +kernel
theorem dX4_tryText_5 : decode cX4_tryText 5 = .ok (.putfield 267, 3) := by decide +kernel
theorem dX4_tryText_8 : decode cX4_tryText 8 = .ok (.iconst 0, 1) := by decide +kernel
theorem dX4_tryText_9 : decode cX4_tryText 9 = .ok (.istore_n 1, 1) := by decide +kernel
theorem dX4_tryText_10 : decode cX4_tryText 10 = .ok (.iload_n 1, 1) := by decide +kernel
theorem dX4_tryText_11 : decode cX4_tryText 11 = .ok (.bipush 80, 2) := by decide +kernel
theorem dX4_tryText_13 : decode cX4_tryText 13 = .ok (.if_icmp .ge 37, 3) := by decide +kernel
theorem dX4_tryText_16 : decode cX4_tryText 16 = .ok (.aload_n 0, 1) := by decide +kernel
theorem dX4_tryText_17 : decode cX4_tryText 17 = .ok (.getfield 30, 3) := by decide +kernel
theorem dX4_tryText_20 : decode cX4_tryText 20 = .ok (.getfield 267, 3) := by decide +kernel
theorem dX4_tryText_23 : decode cX4_tryText 23 = .ok (.aload_n 0, 1) := by decide +kernel
theorem dX4_tryText_24 : decode cX4_tryText 24 = .ok (.getfield 30, 3) := by decide +kernel
theorem dX4_tryText_27 : decode cX4_tryText 27 = .ok (.getfield 168, 3) := by decide +kernel
theorem dX4_tryText_30 : decode cX4_tryText 30 = .ok (.if_icmp .ge 20, 3) := by decide +kernel
theorem dX4_tryText_33 : decode cX4_tryText 33 = .ok (.aload_n 0, 1) := by decide +kernel
theorem dX4_tryText_34 : decode cX4_tryText 34 = .ok (.invokevirtual 270, 3) := by decide +kernel
theorem dX4_tryText_37 : decode cX4_tryText 37 = .ok (.istore_n 2, 1) := by decide +kernel
theorem dX4_tryText_38 : decode cX4_tryText 38 = .ok (.iload_n 2, 1) := by decide +kernel
theorem dX4_tryText_39 : decode cX4_tryText 39 = .ok (.ifCond .eq 5, 3) := by decide +kernel
theorem dX4_tryText_42 : decode cX4_tryText 42 = .ok (.iload_n 2, 1) := by decide +kernel
theorem dX4_tryText_43 : decode cX4_tryText 43 = .ok (.ireturn, 1) := by decide +kernel
theorem dX4_tryText_44 : decode cX4_tryText 44 = .ok (.iinc 1 1, 3) := by decide +kernel
theorem dX4_tryText_47 : decode cX4_tryText 47 = .ok (.goto (-37), 3) := by decide +kernel
theorem dX4_tryText_50 : decode cX4_tryText 50 = .ok (.iconst 0, 1) := by decide +kernel
theorem dX4_tryText_51 : decode cX4_tryText 51 = .ok (.ireturn, 1) := by decide +kernel
set_option maxRecDepth 20000 in
theorem ggX4_tryApplication_X3_readApplication : GoodIn wsX4_tryApplication wsX3_readApplication := goodIn_r _ [15, 16, 17, 18, 19, 20, 21, 22, 23, 24, 25, 14, 26, 27, 28, 29, 30, 31, 32, 33, 34, 35, 36, 37, 38, 39, 175, 176, 177, 178, 179, 180, 181, 182, 183] (by decide +kernel) (by decide +kernel)
set_option maxRecDepth 20000 in
theorem gX4_tryApplication_X3_readApplication : GoodIn wsX4_tryApplication (wsV RX4 273 RX3 yX3_readApplication wsX3_readApplication) := goodIn_app (goodIn_of _ (by decide +kernel)) ggX4_tryApplication_X3_readApplication
set_option maxRecDepth 20000 in
theorem ggX4_tryApplication_X2_craneAt : GoodIn wsX4_tryApplication wsX2_craneAt := goodIn_r _ [44, 45, 46, 191, 192, 193, 194, 195, 196, 197, 198, 199, 200, 201, 202, 203] (by decide +kernel) (by decide +kernel)
set_option maxRecDepth 20000 in
theorem gX4_tryApplication_X2_craneAt : GoodIn wsX4_tryApplication (wsV RX4 67 RX2 yX2_craneAt wsX2_craneAt) := goodIn_app (goodIn_of _ (by decide +kernel)) ggX4_tryApplication_X2_craneAt
set_option maxRecDepth 20000 in
theorem ggX4_tryApplication_X4_isPlan : GoodIn wsX4_tryApplication wsX4_isPlan := goodIn_r _ [49, 50, 51, 34, 52, 53, 33, 35, 54, 55, 56] (by decide +kernel) (by decide +kernel)
set_option maxRecDepth 20000 in
theorem gX4_tryApplication_X4_isPlan : GoodIn wsX4_tryApplication (va_wsS RX4 188 yX4_isPlan wsX4_isPlan) := goodIn_app (goodIn_of _ (by decide +kernel)) ggX4_tryApplication_X4_isPlan
set_option maxRecDepth 20000 in
theorem ggX4_tryApplication_X2_refusalOf : GoodIn wsX4_tryApplication wsX2_refusalOf := goodIn_r _ [60, 61, 62, 63, 64, 43, 65, 66, 67, 68, 69, 70, 71, 72, 73, 74, 9, 75, 76, 77, 78, 79, 80, 81, 82, 83, 84, 85, 86, 87, 88, 89, 90, 34, 91, 92, 93, 94, 95, 96, 97, 98, 99, 100, 101, 102, 103, 104, 105, 106, 107, 108, 109, 110, 111, 112, 113, 114, 115, 116, 117, 118, 119, 120, 121, 122, 123, 124, 125, 126, 127, 128, 129, 130, 131, 132, 133, 134, 135, 136, 137, 138, 139, 140, 141, 142, 143, 144, 145, 146, 147, 204, 205, 206, 207, 208, 209, 210, 191, 192, 193, 194, 195, 196, 197, 198, 199, 200, 201, 202, 203, 184, 185, 186, 187, 188, 189, 190] (by decide +kernel) (by decide +kernel)
set_option maxRecDepth 20000 in
theorem gX4_tryApplication_X2_refusalOf : GoodIn wsX4_tryApplication (wsV RX4 191 RX2 yX2_refusalOf wsX2_refusalOf) := goodIn_app (goodIn_of _ (by decide +kernel)) ggX4_tryApplication_X2_refusalOf
set_option maxRecDepth 20000 in
theorem ggX4_tryApplication_X2_hasRoom : GoodIn wsX4_tryApplication wsX2_hasRoom := goodIn_r _ [151, 66, 152, 191, 192, 193, 194, 195, 196, 197, 198, 199, 200, 201, 202, 203] (by decide +kernel) (by decide +kernel)
set_option maxRecDepth 20000 in
theorem gX4_tryApplication_X2_hasRoom : GoodIn wsX4_tryApplication (wsV RX4 195 RX2 yX2_hasRoom wsX2_hasRoom) := goodIn_app (goodIn_of _ (by decide +kernel)) ggX4_tryApplication_X2_hasRoom
set_option maxRecDepth 20000 in
theorem ggX4_tryApplication_X1_init : GoodIn wsX4_tryApplication wsX1_init := goodIn_r _ [155, 156, 157, 158, 159, 76, 84, 160, 83, 82, 161, 184, 185, 186, 187, 188, 189, 190] (by decide +kernel) (by decide +kernel)
set_option maxRecDepth 20000 in
theorem gX4_tryApplication_X1_init : GoodIn wsX4_tryApplication (wsX1_init) := ggX4_tryApplication_X1_init
set_option maxRecDepth 20000 in
theorem ggX4_tryApplication_X2_grant : GoodIn wsX4_tryApplication wsX2_grant := goodIn_r _ [165, 66, 71, 152, 166, 167, 168, 34, 169, 191, 192, 193, 194, 195, 196, 197, 198, 199, 200, 201, 202, 203] (by decide +kernel) (by decide +kernel)
set_option maxRecDepth 20000 in
theorem gX4_tryApplication_X2_grant : GoodIn wsX4_tryApplication (wsV RX4 204 RX2 yX2_grant wsX2_grant) := goodIn_app (goodIn_of _ (by decide +kernel)) ggX4_tryApplication_X2_grant
theorem dX4_tryApplication_0 : decode cX4_tryApplication 0 = .ok (.aload_n 0, 1) := by decide +kernel
theorem dX4_tryApplication_1 : decode cX4_tryApplication 1 = .ok (.getfield 30, 3) := by decide +kernel
theorem dX4_tryApplication_4 : decode cX4_tryApplication 4 = .ok (.invokevirtual 273, 3) := by decide +kernel
theorem dX4_tryApplication_7 : decode cX4_tryApplication 7 = .ok (.ifCond .ne 6, 3) := by decide +kernel
theorem dX4_tryApplication_10 : decode cX4_tryApplication 10 = .ok (.bipush 11, 2) := by decide +kernel
theorem dX4_tryApplication_12 : decode cX4_tryApplication 12 = .ok (.ireturn, 1) := by decide +kernel
theorem dX4_tryApplication_13 : decode cX4_tryApplication 13 = .ok (.aload_n 0, 1) := by decide +kernel
theorem dX4_tryApplication_14 : decode cX4_tryApplication 14 = .ok (.getfield 16, 3) := by decide +kernel
theorem dX4_tryApplication_17 : decode cX4_tryApplication 17 = .ok (.aload_n 0, 1) := by decide +kernel
theorem dX4_tryApplication_18 : decode cX4_tryApplication 18 = .ok (.getfield 30, 3) := by decide +kernel
theorem dX4_tryApplication_21 : decode cX4_tryApplication 21 = .ok (.getfield 276, 3) := by decide +kernel
theorem dX4_tryApplication_24 : decode cX4_tryApplication 24 = .ok (.invokevirtual 67, 3) := by decide +kernel
theorem dX4_tryApplication_27 : decode cX4_tryApplication 27 = .ok (.astore_n 1, 1) := by decide +kernel
theorem dX4_tryApplication_28 : decode cX4_tryApplication 28 = .ok (.aload_n 1, 1) := by decide +kernel
theorem dX4_tryApplication_29 : decode cX4_tryApplication 29 = .ok (.ifnull 30, 3) := by decide +kernel
theorem dX4_tryApplication_32 : decode cX4_tryApplication 32 = .ok (.aload_n 0, 1) := by decide +kernel
theorem dX4_tryApplication_33 : decode cX4_tryApplication 33 = .ok (.getfield 30, 3) := by decide +kernel
theorem dX4_tryApplication_36 : decode cX4_tryApplication 36 = .ok (.getfield 278, 3) := by decide +kernel
theorem dX4_tryApplication_39 : decode cX4_tryApplication 39 = .ok (.aload_n 0, 1) := by decide +kernel
theorem dX4_tryApplication_40 : decode cX4_tryApplication 40 = .ok (.getfield 30, 3) := by decide +kernel
theorem dX4_tryApplication_43 : decode cX4_tryApplication 43 = .ok (.getfield 279, 3) := by decide +kernel
theorem dX4_tryApplication_46 : decode cX4_tryApplication 46 = .ok (.aload_n 0, 1) := by decide +kernel
theorem dX4_tryApplication_47 : decode cX4_tryApplication 47 = .ok (.getfield 30, 3) := by decide +kernel
theorem dX4_tryApplication_50 : decode cX4_tryApplication 50 = .ok (.getfield 280, 3) := by decide +kernel
theorem dX4_tryApplication_53 : decode cX4_tryApplication 53 = .ok (.invokestatic 188, 3) := by decide +kernel
theorem dX4_tryApplication_56 : decode cX4_tryApplication 56 = .ok (.ifCond .ne 6, 3) := by decide +kernel
theorem dX4_tryApplication_59 : decode cX4_tryApplication 59 = .ok (.bipush 12, 2) := by decide +kernel
theorem dX4_tryApplication_61 : decode cX4_tryApplication 61 = .ok (.ireturn, 1) := by decide +kernel
theorem dX4_tryApplication_62 : decode cX4_tryApplication 62 = .ok (.aload_n 0, 1) := by decide +kernel
theorem dX4_tryApplication_63 : decode cX4_tryApplication 63 = .ok (.getfield 16, 3) := by decide +kernel
theorem dX4_tryApplication_66 : decode cX4_tryApplication 66 = .ok (.aload_n 1, 1) := by decide +kernel
theorem dX4_tryApplication_67 : decode cX4_tryApplication 67 = .ok (.aload_n 0, 1) := by decide +kernel
theorem dX4_tryApplication_68 : decode cX4_tryApplication 68 = .ok (.getfield 30, 3) := by decide +kernel
theorem dX4_tryApplication_71 : decode cX4_tryApplication 71 = .ok (.getfield 278, 3) := by decide +kernel
theorem dX4_tryApplication_74 : decode cX4_tryApplication 74 = .ok (.aload_n 0, 1) := by decide +kernel
theorem dX4_tryApplication_75 : decode cX4_tryApplication 75 = .ok (.getfield 30, 3) := by decide +kernel
theorem dX4_tryApplication_78 : decode cX4_tryApplication 78 = .ok (.getfield 279, 3) := by decide +kernel
theorem dX4_tryApplication_81 : decode cX4_tryApplication 81 = .ok (.aload_n 0, 1) := by decide +kernel
theorem dX4_tryApplication_82 : decode cX4_tryApplication 82 = .ok (.getfield 30, 3) := by decide +kernel
theorem dX4_tryApplication_85 : decode cX4_tryApplication 85 = .ok (.getfield 280, 3) := by decide +kernel
theorem dX4_tryApplication_88 : decode cX4_tryApplication 88 = .ok (.invokevirtual 191, 3) := by decide +kernel
theorem dX4_tryApplication_91 : decode cX4_tryApplication 91 = .ok (.istore_n 2, 1) := by decide +kernel
theorem dX4_tryApplication_92 : decode cX4_tryApplication 92 = .ok (.iload_n 2, 1) := by decide +kernel
theorem dX4_tryApplication_93 : decode cX4_tryApplication 93 = .ok (.ifCond .eq 5, 3) := by decide +kernel
theorem dX4_tryApplication_96 : decode cX4_tryApplication 96 = .ok (.iload_n 2, 1) := by decide +kernel
theorem dX4_tryApplication_97 : decode cX4_tryApplication 97 = .ok (.ireturn, 1) := by decide +kernel
theorem dX4_tryApplication_98 : decode cX4_tryApplication 98 = .ok (.aload_n 0, 1) := by decide +kernel
theorem dX4_tryApplication_99 : decode cX4_tryApplication 99 = .ok (.getfield 16, 3) := by decide +kernel
theorem dX4_tryApplication_102 : decode cX4_tryApplication 102 = .ok (.invokevirtual 195, 3) := by decide +kernel
theorem dX4_tryApplication_105 : decode cX4_tryApplication 105 = .ok (.ifCond .ne 5, 3) := by decide +kernel
theorem dX4_tryApplication_108 : decode cX4_tryApplication 108 = .ok (.iconst 5, 1) := by decide +kernel
theorem dX4_tryApplication_109 : decode cX4_tryApplication 109 = .ok (.ireturn, 1) := by decide +kernel
theorem dX4_tryApplication_110 : decode cX4_tryApplication 110 = .ok (.aload_n 0, 1) := by decide +kernel
theorem dX4_tryApplication_111 : decode cX4_tryApplication 111 = .ok (.getfield 16, 3) := by decide +kernel
theorem dX4_tryApplication_114 : decode cX4_tryApplication 114 = .ok (.new 199, 3) := by decide +kernel
theorem dX4_tryApplication_117 : decode cX4_tryApplication 117 = .ok (.dup, 1) := by decide +kernel
theorem dX4_tryApplication_118 : decode cX4_tryApplication 118 = .ok (.aload_n 0, 1) := by decide +kernel
theorem dX4_tryApplication_119 : decode cX4_tryApplication 119 = .ok (.getfield 16, 3) := by decide +kernel
theorem dX4_tryApplication_122 : decode cX4_tryApplication 122 = .ok (.getfield 155, 3) := by decide +kernel
theorem dX4_tryApplication_125 : decode cX4_tryApplication 125 = .ok (.aload_n 1, 1) := by decide +kernel
theorem dX4_tryApplication_126 : decode cX4_tryApplication 126 = .ok (.aload_n 0, 1) := by decide +kernel
theorem dX4_tryApplication_127 : decode cX4_tryApplication 127 = .ok (.getfield 30, 3) := by decide +kernel
theorem dX4_tryApplication_130 : decode cX4_tryApplication 130 = .ok (.getfield 278, 3) := by decide +kernel
theorem dX4_tryApplication_133 : decode cX4_tryApplication 133 = .ok (.aload_n 0, 1) := by decide +kernel
theorem dX4_tryApplication_134 : decode cX4_tryApplication 134 = .ok (.getfield 30, 3) := by decide +kernel
theorem dX4_tryApplication_137 : decode cX4_tryApplication 137 = .ok (.getfield 279, 3) := by decide +kernel
theorem dX4_tryApplication_140 : decode cX4_tryApplication 140 = .ok (.aload_n 0, 1) := by decide +kernel
theorem dX4_tryApplication_141 : decode cX4_tryApplication 141 = .ok (.getfield 30, 3) := by decide +kernel
theorem dX4_tryApplication_144 : decode cX4_tryApplication 144 = .ok (.getfield 280, 3) := by decide +kernel
theorem dX4_tryApplication_147 : decode cX4_tryApplication 147 = .ok (.invokespecial 201, 3) := by decide +kernel
theorem dX4_tryApplication_150 : decode cX4_tryApplication 150 = .ok (.invokevirtual 204, 3) := by decide +kernel
theorem dX4_tryApplication_153 : decode cX4_tryApplication 153 = .ok (.iconst 0, 1) := by decide +kernel
theorem dX4_tryApplication_154 : decode cX4_tryApplication 154 = .ok (.ireturn, 1) := by decide +kernel
theorem dX4_isIn_0 : decode cX4_isIn 0 = .ok (.iload_n 0, 1) := by decide +kernel
theorem dX4_isIn_1 : decode cX4_isIn 1 = .ok (.iload_n 1, 1) := by decide +kernel
theorem dX4_isIn_2 : decode cX4_isIn 2 = .ok (.if_icmp .lt 12, 3) := by decide +kernel
theorem dX4_isIn_5 : decode cX4_isIn 5 = .ok (.iload_n 0, 1) := by decide +kernel
theorem dX4_isIn_6 : decode cX4_isIn 6 = .ok (.iload_n 2, 1) := by decide +kernel
theorem dX4_isIn_7 : decode cX4_isIn 7 = .ok (.if_icmp .gt 7, 3) := by decide +kernel
theorem dX4_isIn_10 : decode cX4_isIn 10 = .ok (.iconst 1, 1) := by decide +kernel
theorem dX4_isIn_11 : decode cX4_isIn 11 = .ok (.goto 4, 3) := by decide +kernel
theorem dX4_isIn_14 : decode cX4_isIn 14 = .ok (.iconst 0, 1) := by decide +kernel
theorem dX4_isIn_15 : decode cX4_isIn 15 = .ok (.ireturn, 1) := by decide +kernel
set_option maxRecDepth 20000 in
theorem ggX4_isCell_X4_isIn : GoodIn wsX4_isCell wsX4_isIn := goodIn_r _ [4] (by decide +kernel) (by decide +kernel)
set_option maxRecDepth 20000 in
theorem gX4_isCell_X4_isIn : GoodIn wsX4_isCell (va_wsS RX4 38 yX4_isIn wsX4_isIn) := goodIn_app (goodIn_of _ (by decide +kernel)) ggX4_isCell_X4_isIn
theorem dX4_isCell_0 : decode cX4_isCell 0 = .ok (.iload_n 0, 1) := by decide +kernel
theorem dX4_isCell_1 : decode cX4_isCell 1 = .ok (.iconst 0, 1) := by decide +kernel
theorem dX4_isCell_2 : decode cX4_isCell 2 = .ok (.bipush 15, 2) := by decide +kernel
theorem dX4_isCell_4 : decode cX4_isCell 4 = .ok (.invokestatic 38, 3) := by decide +kernel
theorem dX4_isCell_7 : decode cX4_isCell 7 = .ok (.ifCond .eq 17, 3) := by decide +kernel
theorem dX4_isCell_10 : decode cX4_isCell 10 = .ok (.iload_n 1, 1) := by decide +kernel
theorem dX4_isCell_11 : decode cX4_isCell 11 = .ok (.iconst 0, 1) := by decide +kernel
theorem dX4_isCell_12 : decode cX4_isCell 12 = .ok (.bipush 15, 2) := by decide +kernel
theorem dX4_isCell_14 : decode cX4_isCell 14 = .ok (.invokestatic 38, 3) := by decide +kernel
theorem dX4_isCell_17 : decode cX4_isCell 17 = .ok (.ifCond .eq 7, 3) := by decide +kernel
theorem dX4_isCell_20 : decode cX4_isCell 20 = .ok (.iconst 1, 1) := by decide +kernel
theorem dX4_isCell_21 : decode cX4_isCell 21 = .ok (.goto 4, 3) := by decide +kernel
theorem dX4_isCell_24 : decode cX4_isCell 24 = .ok (.iconst 0, 1) := by decide +kernel
theorem dX4_isCell_25 : decode cX4_isCell 25 = .ok (.ireturn, 1) := by decide +kernel
set_option maxRecDepth 20000 in
theorem ggX4_isStreet_X4_isIn : GoodIn wsX4_isStreet wsX4_isIn := goodIn_r _ [4] (by decide +kernel) (by decide +kernel)
set_option maxRecDepth 20000 in
theorem gX4_isStreet_X4_isIn : GoodIn wsX4_isStreet (va_wsS RX4 38 yX4_isIn wsX4_isIn) := goodIn_app (goodIn_of _ (by decide +kernel)) ggX4_isStreet_X4_isIn
theorem dX4_isStreet_0 : decode cX4_isStreet 0 = .ok (.iload_n 0, 1) := by decide +kernel
theorem dX4_isStreet_1 : decode cX4_isStreet 1 = .ok (.iconst 0, 1) := by decide +kernel
theorem dX4_isStreet_2 : decode cX4_isStreet 2 = .ok (.iconst 3, 1) := by decide +kernel
theorem dX4_isStreet_3 : decode cX4_isStreet 3 = .ok (.invokestatic 38, 3) := by decide +kernel
theorem dX4_isStreet_6 : decode cX4_isStreet 6 = .ok (.ireturn, 1) := by decide +kernel
set_option maxRecDepth 20000 in
theorem ggX4_isNight_X4_isIn : GoodIn wsX4_isNight wsX4_isIn := goodIn_r _ [4] (by decide +kernel) (by decide +kernel)
set_option maxRecDepth 20000 in
theorem gX4_isNight_X4_isIn : GoodIn wsX4_isNight (va_wsS RX4 38 yX4_isIn wsX4_isIn) := goodIn_app (goodIn_of _ (by decide +kernel)) ggX4_isNight_X4_isIn
theorem dX4_isNight_0 : decode cX4_isNight 0 = .ok (.iload_n 0, 1) := by decide +kernel
theorem dX4_isNight_1 : decode cX4_isNight 1 = .ok (.iconst 0, 1) := by decide +kernel
theorem dX4_isNight_2 : decode cX4_isNight 2 = .ok (.bipush 29, 2) := by decide +kernel
theorem dX4_isNight_4 : decode cX4_isNight 4 = .ok (.invokestatic 38, 3) := by decide +kernel
theorem dX4_isNight_7 : decode cX4_isNight 7 = .ok (.ireturn, 1) := by decide +kernel
set_option maxRecDepth 20000 in
theorem ggX4_isSwing_X4_isIn : GoodIn wsX4_isSwing wsX4_isIn := goodIn_r _ [4] (by decide +kernel) (by decide +kernel)
set_option maxRecDepth 20000 in
theorem gX4_isSwing_X4_isIn : GoodIn wsX4_isSwing (va_wsS RX4 38 yX4_isIn wsX4_isIn) := goodIn_app (goodIn_of _ (by decide +kernel)) ggX4_isSwing_X4_isIn
theorem dX4_isSwing_0 : decode cX4_isSwing 0 = .ok (.iload_n 0, 1) := by decide +kernel
theorem dX4_isSwing_1 : decode cX4_isSwing 1 = .ok (.iconst 1, 1) := by decide +kernel
theorem dX4_isSwing_2 : decode cX4_isSwing 2 = .ok (.sipush 255, 3) := by decide +kernel
theorem dX4_isSwing_5 : decode cX4_isSwing 5 = .ok (.invokestatic 38, 3) := by decide +kernel
theorem dX4_isSwing_8 : decode cX4_isSwing 8 = .ok (.ireturn, 1) := by decide +kernel
set_option maxRecDepth 20000 in
theorem ggX4_isPlan_X4_isNight : GoodIn wsX4_isPlan wsX4_isNight := goodIn_r _ [4, 5, 6, 3, 7] (by decide +kernel) (by decide +kernel)
set_option maxRecDepth 20000 in
theorem gX4_isPlan_X4_isNight : GoodIn wsX4_isPlan (va_wsS RX4 118 yX4_isNight wsX4_isNight) := goodIn_app (goodIn_of _ (by decide +kernel)) ggX4_isPlan_X4_isNight
set_option maxRecDepth 20000 in
theorem ggX4_isPlan_X4_isIn : GoodIn wsX4_isPlan wsX4_isIn := goodIn_r _ [7] (by decide +kernel) (by decide +kernel)
set_option maxRecDepth 20000 in
theorem gX4_isPlan_X4_isIn : GoodIn wsX4_isPlan (va_wsS RX4 38 yX4_isIn wsX4_isIn) := goodIn_app (goodIn_of _ (by decide +kernel)) ggX4_isPlan_X4_isIn
set_option maxRecDepth 20000 in
theorem ggX4_isPlan_X4_isSwing : GoodIn wsX4_isPlan wsX4_isSwing := goodIn_r _ [10, 5, 6, 3, 7] (by decide +kernel) (by decide +kernel)
set_option maxRecDepth 20000 in
theorem gX4_isPlan_X4_isSwing : GoodIn wsX4_isPlan (va_wsS RX4 175 yX4_isSwing wsX4_isSwing) := goodIn_app (goodIn_of _ (by decide +kernel)) ggX4_isPlan_X4_isSwing
theorem dX4_isPlan_0 : decode cX4_isPlan 0 = .ok (.iload_n 0, 1) := by decide +kernel
theorem dX4_isPlan_1 : decode cX4_isPlan 1 = .ok (.invokestatic 118, 3) := by decide +kernel
theorem dX4_isPlan_4 : decode cX4_isPlan 4 = .ok (.ifCond .eq 35, 3) := by decide +kernel
theorem dX4_isPlan_7 : decode cX4_isPlan 7 = .ok (.iload_n 1, 1) := by decide +kernel
theorem dX4_isPlan_8 : decode cX4_isPlan 8 = .ok (.iconst 0, 1) := by decide +kernel
theorem dX4_isPlan_9 : decode cX4_isPlan 9 = .ok (.bipush 99, 2) := by decide +kernel
theorem dX4_isPlan_11 : decode cX4_isPlan 11 = .ok (.invokestatic 38, 3) := by decide +kernel
theorem dX4_isPlan_14 : decode cX4_isPlan 14 = .ok (.ifCond .eq 25, 3) := by decide +kernel
theorem dX4_isPlan_17 : decode cX4_isPlan 17 = .ok (.iload_n 1, 1) := by decide +kernel
theorem dX4_isPlan_18 : decode cX4_isPlan 18 = .ok (.bipush 10, 2) := by decide +kernel
theorem dX4_isPlan_20 : decode cX4_isPlan 20 = .ok (.idiv, 1) := by decide +kernel
theorem dX4_isPlan_21 : decode cX4_isPlan 21 = .ok (.iload_n 1, 1) := by decide +kernel
theorem dX4_isPlan_22 : decode cX4_isPlan 22 = .ok (.bipush 10, 2) := by decide +kernel
theorem dX4_isPlan_24 : decode cX4_isPlan 24 = .ok (.irem, 1) := by decide +kernel
theorem dX4_isPlan_25 : decode cX4_isPlan 25 = .ok (.if_icmp .gt 14, 3) := by decide +kernel
theorem dX4_isPlan_28 : decode cX4_isPlan 28 = .ok (.iload_n 2, 1) := by decide +kernel
theorem dX4_isPlan_29 : decode cX4_isPlan 29 = .ok (.invokestatic 175, 3) := by decide +kernel
theorem dX4_isPlan_32 : decode cX4_isPlan 32 = .ok (.ifCond .eq 7, 3) := by decide +kernel
theorem dX4_isPlan_35 : decode cX4_isPlan 35 = .ok (.iconst 1, 1) := by decide +kernel
theorem dX4_isPlan_36 : decode cX4_isPlan 36 = .ok (.goto 4, 3) := by decide +kernel
theorem dX4_isPlan_39 : decode cX4_isPlan 39 = .ok (.iconst 0, 1) := by decide +kernel
theorem dX4_isPlan_40 : decode cX4_isPlan 40 = .ok (.ireturn, 1) := by decide +kernel
theorem dX4_streetNight_0 : decode cX4_streetNight 0 = .ok (.bipush 30, 2) := by decide +kernel
theorem dX4_streetNight_2 : decode cX4_streetNight 2 = .ok (.iload_n 0, 1) := by decide +kernel
theorem dX4_streetNight_3 : decode cX4_streetNight 3 = .ok (.imul, 1) := by decide +kernel
theorem dX4_streetNight_4 : decode cX4_streetNight 4 = .ok (.iload_n 1, 1) := by decide +kernel
theorem dX4_streetNight_5 : decode cX4_streetNight 5 = .ok (.iadd, 1) := by decide +kernel
theorem dX4_streetNight_6 : decode cX4_streetNight 6 = .ok (.ireturn, 1) := by decide +kernel
theorem dX4_at_0 : decode cX4_at 0 = .ok (.iload_n 1, 1) := by decide +kernel
theorem dX4_at_1 : decode cX4_at 1 = .ok (.ifCond .lt 15, 3) := by decide +kernel
theorem dX4_at_4 : decode cX4_at 4 = .ok (.iload_n 1, 1) := by decide +kernel
theorem dX4_at_5 : decode cX4_at 5 = .ok (.aload_n 0, 1) := by decide +kernel
theorem dX4_at_6 : decode cX4_at 6 = .ok (.arraylength, 1) := by decide +kernel
theorem dX4_at_7 : decode cX4_at 7 = .ok (.if_icmp .ge 9, 3) := by decide +kernel
theorem dX4_at_10 : decode cX4_at 10 = .ok (.aload_n 0, 1) := by decide +kernel
theorem dX4_at_11 : decode cX4_at 11 = .ok (.iload_n 1, 1) := by decide +kernel
theorem dX4_at_12 : decode cX4_at 12 = .ok (.iaload, 1) := by decide +kernel
theorem dX4_at_13 : decode cX4_at 13 = .ok (.goto 4, 3) := by decide +kernel
theorem dX4_at_16 : decode cX4_at 16 = .ok (.iconst 0, 1) := by decide +kernel
theorem dX4_at_17 : decode cX4_at 17 = .ok (.ireturn, 1) := by decide +kernel
theorem dX4_put_0 : decode cX4_put 0 = .ok (.iload_n 1, 1) := by decide +kernel
theorem dX4_put_1 : decode cX4_put 1 = .ok (.ifCond .lt 13, 3) := by decide +kernel
theorem dX4_put_4 : decode cX4_put 4 = .ok (.iload_n 1, 1) := by decide +kernel
theorem dX4_put_5 : decode cX4_put 5 = .ok (.aload_n 0, 1) := by decide +kernel
theorem dX4_put_6 : decode cX4_put 6 = .ok (.arraylength, 1) := by decide +kernel
theorem dX4_put_7 : decode cX4_put 7 = .ok (.if_icmp .ge 7, 3) := by decide +kernel
theorem dX4_put_10 : decode cX4_put 10 = .ok (.aload_n 0, 1) := by decide +kernel
theorem dX4_put_11 : decode cX4_put 11 = .ok (.iload_n 1, 1) := by decide +kernel
theorem dX4_put_12 : decode cX4_put 12 = .ok (.iload_n 2, 1) := by decide +kernel
theorem dX4_put_13 : decode cX4_put 13 = .ok (.iastore, 1) := by decide +kernel
theorem dX4_put_14 : decode cX4_put 14 = .ok (.return_, 1) := by decide +kernel
theorem dX5_init_0 : decode cX5_init 0 = .ok (.aload_n 0, 1) := by decide +kernel
theorem dX5_init_1 : decode cX5_init 1 = .ok (.invokespecial 1, 3) := by decide +kernel
theorem dX5_init_4 : decode cX5_init 4 = .ok (.aload_n 0, 1) := by decide +kernel
theorem dX5_init_5 : decode cX5_init 5 = .ok (.sipush 1445, 3) := by decide +kernel
theorem dX5_init_8 : decode cX5_init 8 = .ok (.newarray .int, 2) := by decide +kernel
theorem dX5_init_10 : decode cX5_init 10 = .ok (.putfield 7, 3) := by decide +kernel
theorem dX5_init_13 : decode cX5_init 13 = .ok (.aload_n 0, 1) := by decide +kernel
theorem dX5_init_14 : decode cX5_init 14 = .ok (.sipush 5780, 3) := by decide +kernel
theorem dX5_init_17 : decode cX5_init 17 = .ok (.newarray .int, 2) := by decide +kernel
theorem dX5_init_19 : decode cX5_init 19 = .ok (.putfield 13, 3) := by decide +kernel
theorem dX5_init_22 : decode cX5_init 22 = .ok (.aload_n 0, 1) := by decide +kernel
theorem dX5_init_23 : decode cX5_init 23 = .ok (.sipush 1445, 3) := by decide +kernel
theorem dX5_init_26 : decode cX5_init 26 = .ok (.newarray .int, 2) := by decide +kernel
theorem dX5_init_28 : decode cX5_init 28 = .ok (.putfield 16, 3) := by decide +kernel
theorem dX5_init_31 : decode cX5_init 31 = .ok (.aload_n 0, 1) := by decide +kernel
theorem dX5_init_32 : decode cX5_init 32 = .ok (.bipush 80, 2) := by decide +kernel
theorem dX5_init_34 : decode cX5_init 34 = .ok (.newarray .char, 2) := by decide +kernel
theorem dX5_init_36 : decode cX5_init 36 = .ok (.putfield 19, 3) := by decide +kernel
theorem dX5_init_39 : decode cX5_init 39 = .ok (.aload_n 0, 1) := by decide +kernel
theorem dX5_init_40 : decode cX5_init 40 = .ok (.iconst 5, 1) := by decide +kernel
theorem dX5_init_41 : decode cX5_init 41 = .ok (.newarray .int, 2) := by decide +kernel
theorem dX5_init_43 : decode cX5_init 43 = .ok (.putfield 23, 3) := by decide +kernel
theorem dX5_init_46 : decode cX5_init 46 = .ok (.aload_n 0, 1) := by decide +kernel
theorem dX5_init_47 : decode cX5_init 47 = .ok (.getfield 7, 3) := by decide +kernel
theorem dX5_init_50 : decode cX5_init 50 = .ok (.iconst 1, 1) := by decide +kernel
theorem dX5_init_51 : decode cX5_init 51 = .ok (.bipush 100, 2) := by decide +kernel
theorem dX5_init_53 : decode cX5_init 53 = .ok (.iastore, 1) := by decide +kernel
theorem dX5_init_54 : decode cX5_init 54 = .ok (.aload_n 0, 1) := by decide +kernel
theorem dX5_init_55 : decode cX5_init 55 = .ok (.getfield 7, 3) := by decide +kernel
theorem dX5_init_58 : decode cX5_init 58 = .ok (.iconst 2, 1) := by decide +kernel
theorem dX5_init_59 : decode cX5_init 59 = .ok (.bipush 40, 2) := by decide +kernel
theorem dX5_init_61 : decode cX5_init 61 = .ok (.iastore, 1) := by decide +kernel
theorem dX5_init_62 : decode cX5_init 62 = .ok (.aload_n 0, 1) := by decide +kernel
theorem dX5_init_63 : decode cX5_init 63 = .ok (.getfield 7, 3) := by decide +kernel
theorem dX5_init_66 : decode cX5_init 66 = .ok (.iconst 3, 1) := by decide +kernel
theorem dX5_init_67 : decode cX5_init 67 = .ok (.iconst 5, 1) := by decide +kernel
theorem dX5_init_68 : decode cX5_init 68 = .ok (.iastore, 1) := by decide +kernel
theorem dX5_init_69 : decode cX5_init 69 = .ok (.iconst 0, 1) := by decide +kernel
theorem dX5_init_70 : decode cX5_init 70 = .ok (.istore_n 1, 1) := by decide +kernel
theorem dX5_init_71 : decode cX5_init 71 = .ok (.iload_n 1, 1) := by decide +kernel
theorem dX5_init_72 : decode cX5_init 72 = .ok (.bipush 120, 2) := by decide +kernel
theorem dX5_init_74 : decode cX5_init 74 = .ok (.if_icmp .ge 19, 3) := by decide +kernel
theorem dX5_init_77 : decode cX5_init 77 = .ok (.aload_n 0, 1) := by decide +kernel
theorem dX5_init_78 : decode cX5_init 78 = .ok (.getfield 7, 3) := by decide +kernel
theorem dX5_init_81 : decode cX5_init 81 = .ok (.bipush 82, 2) := by decide +kernel
theorem dX5_init_83 : decode cX5_init 83 = .ok (.iload_n 1, 1) := by decide +kernel
theorem dX5_init_84 : decode cX5_init 84 = .ok (.iadd, 1) := by decide +kernel
theorem dX5_init_85 : decode cX5_init 85 = .ok (.iconst (-1), 1) := by decide +kernel
theorem dX5_init_86 : decode cX5_init 86 = .ok (.iastore, 1) := by decide +kernel
theorem dX5_init_87 : decode cX5_init 87 = .ok (.iinc 1 1, 3) := by decide +kernel
theorem dX5_init_90 : decode cX5_init 90 = .ok (.goto (-19), 3) := by decide +kernel
theorem dX5_init_93 : decode cX5_init 93 = .ok (.return_, 1) := by decide +kernel
theorem dX5_in_0 : decode cX5_in 0 = .ok (.iload_n 0, 1) := by decide +kernel
theorem dX5_in_1 : decode cX5_in 1 = .ok (.iload_n 1, 1) := by decide +kernel
theorem dX5_in_2 : decode cX5_in 2 = .ok (.if_icmp .lt 12, 3) := by decide +kernel
theorem dX5_in_5 : decode cX5_in 5 = .ok (.iload_n 0, 1) := by decide +kernel
theorem dX5_in_6 : decode cX5_in 6 = .ok (.iload_n 2, 1) := by decide +kernel
theorem dX5_in_7 : decode cX5_in 7 = .ok (.if_icmp .gt 7, 3) := by decide +kernel
theorem dX5_in_10 : decode cX5_in 10 = .ok (.iconst 1, 1) := by decide +kernel
theorem dX5_in_11 : decode cX5_in 11 = .ok (.goto 4, 3) := by decide +kernel
theorem dX5_in_14 : decode cX5_in 14 = .ok (.iconst 0, 1) := by decide +kernel
theorem dX5_in_15 : decode cX5_in 15 = .ok (.ireturn, 1) := by decide +kernel
set_option maxRecDepth 20000 in
theorem ggX5_isCrane_X5_in : GoodIn wsX5_isCrane wsX5_in := goodIn_r _ [5] (by decide +kernel) (by decide +kernel)
set_option maxRecDepth 20000 in
theorem gX5_isCrane_X5_in : GoodIn wsX5_isCrane (va_wsS RX5 26 yX5_in wsX5_in) := goodIn_app (goodIn_of _ (by decide +kernel)) ggX5_isCrane_X5_in
theorem dX5_isCrane_0 : decode cX5_isCrane 0 = .ok (.iload_n 1, 1) := by decide +kernel
theorem dX5_isCrane_1 : decode cX5_isCrane 1 = .ok (.iconst 0, 1) := by decide +kernel
theorem dX5_isCrane_2 : decode cX5_isCrane 2 = .ok (.aload_n 0, 1) := by decide +kernel
theorem dX5_isCrane_3 : decode cX5_isCrane 3 = .ok (.getfield 7, 3) := by decide +kernel
theorem dX5_isCrane_6 : decode cX5_isCrane 6 = .ok (.iconst 0, 1) := by decide +kernel
theorem dX5_isCrane_7 : decode cX5_isCrane 7 = .ok (.iaload, 1) := by decide +kernel
theorem dX5_isCrane_8 : decode cX5_isCrane 8 = .ok (.iconst 1, 1) := by decide +kernel
theorem dX5_isCrane_9 : decode cX5_isCrane 9 = .ok (.isub, 1) := by decide +kernel
theorem dX5_isCrane_10 : decode cX5_isCrane 10 = .ok (.invokestatic 26, 3) := by decide +kernel
theorem dX5_isCrane_13 : decode cX5_isCrane 13 = .ok (.ireturn, 1) := by decide +kernel
set_option maxRecDepth 20000 in
theorem ggX5_isPermit_X5_in : GoodIn wsX5_isPermit wsX5_in := goodIn_r _ [5] (by decide +kernel) (by decide +kernel)
set_option maxRecDepth 20000 in
theorem gX5_isPermit_X5_in : GoodIn wsX5_isPermit (va_wsS RX5 26 yX5_in wsX5_in) := goodIn_app (goodIn_of _ (by decide +kernel)) ggX5_isPermit_X5_in
theorem dX5_isPermit_0 : decode cX5_isPermit 0 = .ok (.iload_n 1, 1) := by decide +kernel
theorem dX5_isPermit_1 : decode cX5_isPermit 1 = .ok (.iconst 0, 1) := by decide +kernel
theorem dX5_isPermit_2 : decode cX5_isPermit 2 = .ok (.aload_n 0, 1) := by decide +kernel
theorem dX5_isPermit_3 : decode cX5_isPermit 3 = .ok (.getfield 7, 3) := by decide +kernel
theorem dX5_isPermit_6 : decode cX5_isPermit 6 = .ok (.sipush 442, 3) := by decide +kernel
theorem dX5_isPermit_9 : decode cX5_isPermit 9 = .ok (.iaload, 1) := by decide +kernel
theorem dX5_isPermit_10 : decode cX5_isPermit 10 = .ok (.iconst 1, 1) := by decide +kernel
theorem dX5_isPermit_11 : decode cX5_isPermit 11 = .ok (.isub, 1) := by decide +kernel
theorem dX5_isPermit_12 : decode cX5_isPermit 12 = .ok (.invokestatic 26, 3) := by decide +kernel
theorem dX5_isPermit_15 : decode cX5_isPermit 15 = .ok (.ireturn, 1) := by decide +kernel
set_option maxRecDepth 20000 in
theorem ggX5_isNight_X5_in : GoodIn wsX5_isNight wsX5_in := goodIn_r _ [4] (by decide +kernel) (by decide +kernel)
set_option maxRecDepth 20000 in
theorem gX5_isNight_X5_in : GoodIn wsX5_isNight (va_wsS RX5 26 yX5_in wsX5_in) := goodIn_app (goodIn_of _ (by decide +kernel)) ggX5_isNight_X5_in
theorem dX5_isNight_0 : decode cX5_isNight 0 = .ok (.iload_n 0, 1) := by decide +kernel
theorem dX5_isNight_1 : decode cX5_isNight 1 = .ok (.iconst 0, 1) := by decide +kernel
theorem dX5_isNight_2 : decode cX5_isNight 2 = .ok (.bipush 29, 2) := by decide +kernel
theorem dX5_isNight_4 : decode cX5_isNight 4 = .ok (.invokestatic 26, 3) := by decide +kernel
theorem dX5_isNight_7 : decode cX5_isNight 7 = .ok (.ireturn, 1) := by decide +kernel
set_option maxRecDepth 20000 in
theorem ggX5_isStreet_X5_in : GoodIn wsX5_isStreet wsX5_in := goodIn_r _ [4] (by decide +kernel) (by decide +kernel)
set_option maxRecDepth 20000 in
theorem gX5_isStreet_X5_in : GoodIn wsX5_isStreet (va_wsS RX5 26 yX5_in wsX5_in) := goodIn_app (goodIn_of _ (by decide +kernel)) ggX5_isStreet_X5_in
theorem dX5_isStreet_0 : decode cX5_isStreet 0 = .ok (.iload_n 0, 1) := by decide +kernel
theorem dX5_isStreet_1 : decode cX5_isStreet 1 = .ok (.iconst 0, 1) := by decide +kernel
theorem dX5_isStreet_2 : decode cX5_isStreet 2 = .ok (.iconst 3, 1) := by decide +kernel
theorem dX5_isStreet_3 : decode cX5_isStreet 3 = .ok (.invokestatic 26, 3) := by decide +kernel
theorem dX5_isStreet_6 : decode cX5_isStreet 6 = .ok (.ireturn, 1) := by decide +kernel
set_option maxRecDepth 20000 in
theorem ggX5_isSwing_X5_in : GoodIn wsX5_isSwing wsX5_in := goodIn_r _ [4] (by decide +kernel) (by decide +kernel)
set_option maxRecDepth 20000 in
theorem gX5_isSwing_X5_in : GoodIn wsX5_isSwing (va_wsS RX5 26 yX5_in wsX5_in) := goodIn_app (goodIn_of _ (by decide +kernel)) ggX5_isSwing_X5_in
theorem dX5_isSwing_0 : decode cX5_isSwing 0 = .ok (.iload_n 0, 1) := by decide +kernel
theorem dX5_isSwing_1 : decode cX5_isSwing 1 = .ok (.iconst 1, 1) := by decide +kernel
theorem dX5_isSwing_2 : decode cX5_isSwing 2 = .ok (.sipush 255, 3) := by decide +kernel
theorem dX5_isSwing_5 : decode cX5_isSwing 5 = .ok (.invokestatic 26, 3) := by decide +kernel
theorem dX5_isSwing_8 : decode cX5_isSwing 8 = .ok (.ireturn, 1) := by decide +kernel
set_option maxRecDepth 20000 in
theorem ggX5_areHours_X5_in : GoodIn wsX5_areHours wsX5_in := goodIn_r _ [4] (by decide +kernel) (by decide +kernel)
set_option maxRecDepth 20000 in
theorem gX5_areHours_X5_in : GoodIn wsX5_areHours (va_wsS RX5 26 yX5_in wsX5_in) := goodIn_app (goodIn_of _ (by decide +kernel)) ggX5_areHours_X5_in
theorem dX5_areHours_0 : decode cX5_areHours 0 = .ok (.iload_n 0, 1) := by decide +kernel
theorem dX5_areHours_1 : decode cX5_areHours 1 = .ok (.iconst 0, 1) := by decide +kernel
theorem dX5_areHours_2 : decode cX5_areHours 2 = .ok (.bipush 99, 2) := by decide +kernel
theorem dX5_areHours_4 : decode cX5_areHours 4 = .ok (.invokestatic 26, 3) := by decide +kernel
theorem dX5_areHours_7 : decode cX5_areHours 7 = .ok (.ifCond .eq 18, 3) := by decide +kernel
theorem dX5_areHours_10 : decode cX5_areHours 10 = .ok (.iload_n 0, 1) := by decide +kernel
theorem dX5_areHours_11 : decode cX5_areHours 11 = .ok (.bipush 10, 2) := by decide +kernel
theorem dX5_areHours_13 : decode cX5_areHours 13 = .ok (.idiv, 1) := by decide +kernel
theorem dX5_areHours_14 : decode cX5_areHours 14 = .ok (.iload_n 0, 1) := by decide +kernel
theorem dX5_areHours_15 : decode cX5_areHours 15 = .ok (.bipush 10, 2) := by decide +kernel
theorem dX5_areHours_17 : decode cX5_areHours 17 = .ok (.irem, 1) := by decide +kernel
theorem dX5_areHours_18 : decode cX5_areHours 18 = .ok (.if_icmp .gt 7, 3) := by decide +kernel
theorem dX5_areHours_21 : decode cX5_areHours 21 = .ok (.iconst 1, 1) := by decide +kernel
theorem dX5_areHours_22 : decode cX5_areHours 22 = .ok (.goto 4, 3) := by decide +kernel
theorem dX5_areHours_25 : decode cX5_areHours 25 = .ok (.iconst 0, 1) := by decide +kernel
theorem dX5_areHours_26 : decode cX5_areHours 26 = .ok (.ireturn, 1) := by decide +kernel
theorem dX5_craned_0 : decode cX5_craned 0 = .ok (.aload_n 0, 1) := by decide +kernel
theorem dX5_craned_1 : decode cX5_craned 1 = .ok (.getfield 7, 3) := by decide +kernel
theorem dX5_craned_4 : decode cX5_craned 4 = .ok (.iconst 4, 1) := by decide +kernel
theorem dX5_craned_5 : decode cX5_craned 5 = .ok (.bipush 6, 2) := by decide +kernel
theorem dX5_craned_7 : decode cX5_craned 7 = .ok (.iload_n 1, 1) := by decide +kernel
theorem dX5_craned_8 : decode cX5_craned 8 = .ok (.imul, 1) := by decide +kernel
theorem dX5_craned_9 : decode cX5_craned 9 = .ok (.iadd, 1) := by decide +kernel
theorem dX5_craned_10 : decode cX5_craned 10 = .ok (.iload_n 2, 1) := by decide +kernel
theorem dX5_craned_11 : decode cX5_craned 11 = .ok (.iadd, 1) := by decide +kernel
theorem dX5_craned_12 : decode cX5_craned 12 = .ok (.iaload, 1) := by decide +kernel
theorem dX5_craned_13 : decode cX5_craned 13 = .ok (.ireturn, 1) := by decide +kernel
theorem dX5_of_0 : decode cX5_of 0 = .ok (.aload_n 0, 1) := by decide +kernel
theorem dX5_of_1 : decode cX5_of 1 = .ok (.getfield 7, 3) := by decide +kernel
theorem dX5_of_4 : decode cX5_of 4 = .ok (.sipush 445, 3) := by decide +kernel
theorem dX5_of_7 : decode cX5_of 7 = .ok (.iconst 5, 1) := by decide +kernel
theorem dX5_of_8 : decode cX5_of 8 = .ok (.iload_n 1, 1) := by decide +kernel
theorem dX5_of_9 : decode cX5_of 9 = .ok (.imul, 1) := by decide +kernel
theorem dX5_of_10 : decode cX5_of 10 = .ok (.iadd, 1) := by decide +kernel
theorem dX5_of_11 : decode cX5_of 11 = .ok (.iload_n 2, 1) := by decide +kernel
theorem dX5_of_12 : decode cX5_of 12 = .ok (.iadd, 1) := by decide +kernel
theorem dX5_of_13 : decode cX5_of 13 = .ok (.iaload, 1) := by decide +kernel
theorem dX5_of_14 : decode cX5_of 14 = .ok (.ireturn, 1) := by decide +kernel
theorem dX5_spot_0 : decode cX5_spot 0 = .ok (.bipush 30, 2) := by decide +kernel
theorem dX5_spot_2 : decode cX5_spot 2 = .ok (.iload_n 0, 1) := by decide +kernel
theorem dX5_spot_3 : decode cX5_spot 3 = .ok (.imul, 1) := by decide +kernel
theorem dX5_spot_4 : decode cX5_spot 4 = .ok (.iload_n 1, 1) := by decide +kernel
theorem dX5_spot_5 : decode cX5_spot 5 = .ok (.iadd, 1) := by decide +kernel
theorem dX5_spot_6 : decode cX5_spot 6 = .ok (.ireturn, 1) := by decide +kernel
theorem dX5_records_0 : decode cX5_records 0 = .ok (.aload_n 0, 1) := by decide +kernel
theorem dX5_records_1 : decode cX5_records 1 = .ok (.getfield 30, 3) := by decide +kernel
theorem dX5_records_4 : decode cX5_records 4 = .ok (.iconst 4, 1) := by decide +kernel
theorem dX5_records_5 : decode cX5_records 5 = .ok (.if_icmp .ne 44, 3) := by decide +kernel
theorem dX5_records_8 : decode cX5_records 8 = .ok (.iconst 0, 1) := by decide +kernel
theorem dX5_records_9 : decode cX5_records 9 = .ok (.istore_n 1, 1) := by decide +kernel
theorem dX5_records_10 : decode cX5_records 10 = .ok (.iload_n 1, 1) := by decide +kernel
theorem dX5_records_11 : decode cX5_records 11 = .ok (.sipush 4335, 3) := by decide +kernel
theorem dX5_records_14 : decode cX5_records 14 = .ok (.if_icmp .ge 25, 3) := by decide +kernel
theorem dX5_records_17 : decode cX5_records 17 = .ok (.aload_n 0, 1) := by decide +kernel
theorem dX5_records_18 : decode cX5_records 18 = .ok (.getfield 13, 3) := by decide +kernel
theorem dX5_records_21 : decode cX5_records 21 = .ok (.iload_n 1, 1) := by decide +kernel
theorem dX5_records_22 : decode cX5_records 22 = .ok (.aload_n 0, 1) := by decide +kernel
theorem dX5_records_23 : decode cX5_records 23 = .ok (.getfield 13, 3) := by decide +kernel
theorem dX5_records_26 : decode cX5_records 26 = .ok (.iload_n 1, 1) := by decide +kernel
theorem dX5_records_27 : decode cX5_records 27 = .ok (.sipush 1445, 3) := by decide +kernel
theorem dX5_records_30 : decode cX5_records 30 = .ok (.iadd, 1) := by decide +kernel
theorem dX5_records_31 : decode cX5_records 31 = .ok (.iaload, 1) := by decide +kernel
theorem dX5_records_32 : decode cX5_records 32 = .ok (.iastore, 1) := by decide +kernel
theorem dX5_records_33 : decode cX5_records 33 = .ok (.iinc 1 1, 3) := by decide +kernel
theorem dX5_records_36 : decode cX5_records 36 = .ok (.goto (-26), 3) := by decide +kernel
theorem dX5_records_39 : decode cX5_records 39 = .ok (.aload_n 0, 1) := by decide +kernel
theorem dX5_records_40 : decode cX5_records 40 = .ok (.dup, 1) := by decide +kernel
theorem dX5_records_41 : decode cX5_records 41 = .ok (.getfield 30, 3) := by decide +kernel
theorem dX5_records_44 : decode cX5_records 44 = .ok (.iconst 1, 1) := by decide +kernel
theorem dX5_records_45 : decode cX5_records 45 = .ok (.isub, 1) := by decide +kernel
theorem dX5_records_46 : decode cX5_records 46 = .ok (.putfield 30, 3) := by decide +kernel
theorem dX5_records_49 : decode cX5_records 49 = .ok (.iconst 0, 1) := by decide +kernel
theorem dX5_records_50 : decode cX5_records 50 = .ok (.istore_n 1, 1) := by decide +kernel
theorem dX5_records_51 : decode cX5_records 51 = .ok (.iload_n 1, 1) := by decide +kernel
theorem dX5_records_52 : decode cX5_records 52 = .ok (.sipush 1445, 3) := by decide +kernel
theorem dX5_records_55 : decode cX5_records 55 = .ok (.if_icmp .ge 30, 3) := by decide +kernel
theorem dX5_records_58 : decode cX5_records 58 = .ok (.aload_n 0, 1) := by decide +kernel
theorem dX5_records_59 : decode cX5_records 59 = .ok (.getfield 13, 3) := by decide +kernel
theorem dX5_records_62 : decode cX5_records 62 = .ok (.sipush 1445, 3) := by decide +kernel
theorem dX5_records_65 : decode cX5_records 65 = .ok (.aload_n 0, 1) := by decide +kernel
theorem dX5_records_66 : decode cX5_records 66 = .ok (.getfield 30, 3) := by decide +kernel
theorem dX5_records_69 : decode cX5_records 69 = .ok (.imul, 1) := by decide +kernel
theorem dX5_records_70 : decode cX5_records 70 = .ok (.iload_n 1, 1) := by decide +kernel
theorem dX5_records_71 : decode cX5_records 71 = .ok (.iadd, 1) := by decide +kernel
theorem dX5_records_72 : decode cX5_records 72 = .ok (.aload_n 0, 1) := by decide +kernel
theorem dX5_records_73 : decode cX5_records 73 = .ok (.getfield 7, 3) := by decide +kernel
theorem dX5_records_76 : decode cX5_records 76 = .ok (.iload_n 1, 1) := by decide +kernel
theorem dX5_records_77 : decode cX5_records 77 = .ok (.iaload, 1) := by decide +kernel
theorem dX5_records_78 : decode cX5_records 78 = .ok (.iastore, 1) := by decide +kernel
theorem dX5_records_79 : decode cX5_records 79 = .ok (.iinc 1 1, 3) := by decide +kernel
theorem dX5_records_82 : decode cX5_records 82 = .ok (.goto (-31), 3) := by decide +kernel
theorem dX5_records_85 : decode cX5_records 85 = .ok (.aload_n 0, 1) := by decide +kernel
theorem dX5_records_86 : decode cX5_records 86 = .ok (.dup, 1) := by decide +kernel
theorem dX5_records_87 : decode cX5_records 87 = .ok (.getfield 30, 3) := by decide +kernel
theorem dX5_records_90 : decode cX5_records 90 = .ok (.iconst 1, 1) := by decide +kernel
theorem dX5_records_91 : decode cX5_records 91 = .ok (.iadd, 1) := by decide +kernel
theorem dX5_records_92 : decode cX5_records 92 = .ok (.putfield 30, 3) := by decide +kernel
theorem dX5_records_95 : decode cX5_records 95 = .ok (.return_, 1) := by decide +kernel
theorem dX5_direction_0 : decode cX5_direction 0 = .ok (.iload_n 0, 1) := by decide +kernel
theorem dX5_direction_1 : decode cX5_direction 1 = .ok (.ifCond .le 18, 3) := by decide +kernel
theorem dX5_direction_4 : decode cX5_direction 4 = .ok (.iload_n 1, 1) := by decide +kernel
theorem dX5_direction_5 : decode cX5_direction 5 = .ok (.ifCond .lt 14, 3) := by decide +kernel
theorem dX5_direction_8 : decode cX5_direction 8 = .ok (.iload_n 1, 1) := by decide +kernel
theorem dX5_direction_9 : decode cX5_direction 9 = .ok (.iload_n 0, 1) := by decide +kernel
theorem dX5_direction_10 : decode cX5_direction 10 = .ok (.if_icmp .ge 7, 3) := by decide +kernel
theorem dX5_direction_13 : decode cX5_direction 13 = .ok (.iconst 0, 1) := by decide +kernel
theorem dX5_direction_14 : decode cX5_direction 14 = .ok (.goto 4, 3) := by decide +kernel
theorem dX5_direction_17 : decode cX5_direction 17 = .ok (.iconst 1, 1) := by decide +kernel
theorem dX5_direction_18 : decode cX5_direction 18 = .ok (.ireturn, 1) := by decide +kernel
theorem dX5_direction_19 : decode cX5_direction 19 = .ok (.iload_n 0, 1) := by decide +kernel
theorem dX5_direction_20 : decode cX5_direction 20 = .ok (.ifCond .gt 19, 3) := by decide +kernel
theorem dX5_direction_23 : decode cX5_direction 23 = .ok (.iload_n 1, 1) := by decide +kernel
theorem dX5_direction_24 : decode cX5_direction 24 = .ok (.ifCond .le 15, 3) := by decide +kernel
theorem dX5_direction_27 : decode cX5_direction 27 = .ok (.iload_n 0, 1) := by decide +kernel
theorem dX5_direction_28 : decode cX5_direction 28 = .ok (.ineg, 1) := by decide +kernel
theorem dX5_direction_29 : decode cX5_direction 29 = .ok (.iload_n 1, 1) := by decide +kernel
theorem dX5_direction_30 : decode cX5_direction 30 = .ok (.if_icmp .ge 7, 3) := by decide +kernel
theorem dX5_direction_33 : decode cX5_direction 33 = .ok (.iconst 2, 1) := by decide +kernel
theorem dX5_direction_34 : decode cX5_direction 34 = .ok (.goto 4, 3) := by decide +kernel
theorem dX5_direction_37 : decode cX5_direction 37 = .ok (.iconst 3, 1) := by decide +kernel
theorem dX5_direction_38 : decode cX5_direction 38 = .ok (.ireturn, 1) := by decide +kernel
theorem dX5_direction_39 : decode cX5_direction 39 = .ok (.iload_n 0, 1) := by decide +kernel
theorem dX5_direction_40 : decode cX5_direction 40 = .ok (.ifCond .ge 20, 3) := by decide +kernel
theorem dX5_direction_43 : decode cX5_direction 43 = .ok (.iload_n 1, 1) := by decide +kernel
theorem dX5_direction_44 : decode cX5_direction 44 = .ok (.ifCond .gt 16, 3) := by decide +kernel
theorem dX5_direction_47 : decode cX5_direction 47 = .ok (.iload_n 1, 1) := by decide +kernel
theorem dX5_direction_48 : decode cX5_direction 48 = .ok (.ineg, 1) := by decide +kernel
theorem dX5_direction_49 : decode cX5_direction 49 = .ok (.iload_n 0, 1) := by decide +kernel
theorem dX5_direction_50 : decode cX5_direction 50 = .ok (.ineg, 1) := by decide +kernel
theorem dX5_direction_51 : decode cX5_direction 51 = .ok (.if_icmp .ge 7, 3) := by decide +kernel
theorem dX5_direction_54 : decode cX5_direction 54 = .ok (.iconst 4, 1) := by decide +kernel
theorem dX5_direction_55 : decode cX5_direction 55 = .ok (.goto 4, 3) := by decide +kernel
theorem dX5_direction_58 : decode cX5_direction 58 = .ok (.iconst 5, 1) := by decide +kernel
theorem dX5_direction_59 : decode cX5_direction 59 = .ok (.ireturn, 1) := by decide +kernel
theorem dX5_direction_60 : decode cX5_direction 60 = .ok (.iload_n 0, 1) := by decide +kernel
theorem dX5_direction_61 : decode cX5_direction 61 = .ok (.iload_n 1, 1) := by decide +kernel
theorem dX5_direction_62 : decode cX5_direction 62 = .ok (.ineg, 1) := by decide +kernel
theorem dX5_direction_63 : decode cX5_direction 63 = .ok (.if_icmp .ge 8, 3) := by decide +kernel
theorem dX5_direction_66 : decode cX5_direction 66 = .ok (.bipush 6, 2) := by decide +kernel
theorem dX5_direction_68 : decode cX5_direction 68 = .ok (.goto 5, 3) := by decide +kernel
theorem dX5_direction_71 : decode cX5_direction 71 = .ok (.bipush 7, 2) := by decide +kernel
theorem dX5_direction_73 : decode cX5_direction 73 = .ok (.ireturn, 1) := by decide +kernel
set_option maxRecDepth 20000 in
theorem ggX5_isCovered_X5_craned : GoodIn wsX5_isCovered wsX5_craned := goodIn_r _ [5, 6, 10, 11, 12, 13, 14, 15, 16, 17, 18] (by decide +kernel) (by decide +kernel)
set_option maxRecDepth 20000 in
theorem gX5_isCovered_X5_craned : GoodIn wsX5_isCovered (wsV RX5 34 RX5 yX5_craned wsX5_craned) := goodIn_app (goodIn_of _ (by decide +kernel)) ggX5_isCovered_X5_craned
set_option maxRecDepth 20000 in
theorem ggX5_isCovered_X5_direction : GoodIn wsX5_isCovered wsX5_direction := goodIn_r _ [9] (by decide +kernel) (by decide +kernel)
set_option maxRecDepth 20000 in
theorem gX5_isCovered_X5_direction : GoodIn wsX5_isCovered (va_wsS RX5 38 yX5_direction wsX5_direction) := goodIn_app (goodIn_of _ (by decide +kernel)) ggX5_isCovered_X5_direction
theorem dX5_isCovered_0 : decode cX5_isCovered 0 = .ok (.iload_n 3, 1) := by decide +kernel
theorem dX5_isCovered_1 : decode cX5_isCovered 1 = .ok (.aload_n 0, 1) := by decide +kernel
theorem dX5_isCovered_2 : decode cX5_isCovered 2 = .ok (.iload_n 1, 1) := by decide +kernel
theorem dX5_isCovered_3 : decode cX5_isCovered 3 = .ok (.iconst 0, 1) := by decide +kernel
theorem dX5_isCovered_4 : decode cX5_isCovered 4 = .ok (.invokevirtual 34, 3) := by decide +kernel
theorem dX5_isCovered_7 : decode cX5_isCovered 7 = .ok (.isub, 1) := by decide +kernel
theorem dX5_isCovered_8 : decode cX5_isCovered 8 = .ok (.istore 5, 2) := by decide +kernel
theorem dX5_isCovered_10 : decode cX5_isCovered 10 = .ok (.iload 4, 2) := by decide +kernel
theorem dX5_isCovered_12 : decode cX5_isCovered 12 = .ok (.aload_n 0, 1) := by decide +kernel
theorem dX5_isCovered_13 : decode cX5_isCovered 13 = .ok (.iload_n 1, 1) := by decide +kernel
theorem dX5_isCovered_14 : decode cX5_isCovered 14 = .ok (.iconst 1, 1) := by decide +kernel
theorem dX5_isCovered_15 : decode cX5_isCovered 15 = .ok (.invokevirtual 34, 3) := by decide +kernel
theorem dX5_isCovered_18 : decode cX5_isCovered 18 = .ok (.isub, 1) := by decide +kernel
theorem dX5_isCovered_19 : decode cX5_isCovered 19 = .ok (.istore 6, 2) := by decide +kernel
theorem dX5_isCovered_21 : decode cX5_isCovered 21 = .ok (.iload 5, 2) := by decide +kernel
theorem dX5_isCovered_23 : decode cX5_isCovered 23 = .ok (.ifCond .ne 10, 3) := by decide +kernel
theorem dX5_isCovered_26 : decode cX5_isCovered 26 = .ok (.iload 6, 2) := by decide +kernel
theorem dX5_isCovered_28 : decode cX5_isCovered 28 = .ok (.ifCond .ne 5, 3) := by decide +kernel
theorem dX5_isCovered_31 : decode cX5_isCovered 31 = .ok (.iconst 1, 1) := by decide +kernel
theorem dX5_isCovered_32 : decode cX5_isCovered 32 = .ok (.ireturn, 1) := by decide +kernel
theorem dX5_isCovered_33 : decode cX5_isCovered 33 = .ok (.iload 5, 2) := by decide +kernel
theorem dX5_isCovered_35 : decode cX5_isCovered 35 = .ok (.iload 5, 2) := by decide +kernel
theorem dX5_isCovered_37 : decode cX5_isCovered 37 = .ok (.imul, 1) := by decide +kernel
theorem dX5_isCovered_38 : decode cX5_isCovered 38 = .ok (.iload 6, 2) := by decide +kernel
theorem dX5_isCovered_40 : decode cX5_isCovered 40 = .ok (.iload 6, 2) := by decide +kernel
theorem dX5_isCovered_42 : decode cX5_isCovered 42 = .ok (.imul, 1) := by decide +kernel
theorem dX5_isCovered_43 : decode cX5_isCovered 43 = .ok (.iadd, 1) := by decide +kernel
theorem dX5_isCovered_44 : decode cX5_isCovered 44 = .ok (.aload_n 0, 1) := by decide +kernel
theorem dX5_isCovered_45 : decode cX5_isCovered 45 = .ok (.iload_n 1, 1) := by decide +kernel
theorem dX5_isCovered_46 : decode cX5_isCovered 46 = .ok (.iconst 2, 1) := by decide +kernel
theorem dX5_isCovered_47 : decode cX5_isCovered 47 = .ok (.invokevirtual 34, 3) := by decide +kernel
theorem dX5_isCovered_50 : decode cX5_isCovered 50 = .ok (.aload_n 0, 1) := by decide +kernel
theorem dX5_isCovered_51 : decode cX5_isCovered 51 = .ok (.iload_n 1, 1) := by decide +kernel
theorem dX5_isCovered_52 : decode cX5_isCovered 52 = .ok (.iconst 2, 1) := by decide +kernel
theorem dX5_isCovered_53 : decode cX5_isCovered 53 = .ok (.invokevirtual 34, 3) := by decide +kernel
theorem dX5_isCovered_56 : decode cX5_isCovered 56 = .ok (.imul, 1) := by decide +kernel
theorem dX5_isCovered_57 : decode cX5_isCovered 57 = .ok (.if_icmp .gt 22, 3) := by decide +kernel
theorem dX5_isCovered_60 : decode cX5_isCovered 60 = .ok (.iload_n 2, 1) := by decide +kernel
theorem dX5_isCovered_61 : decode cX5_isCovered 61 = .ok (.iload 5, 2) := by decide +kernel
theorem dX5_isCovered_63 : decode cX5_isCovered 63 = .ok (.iload 6, 2) := by decide +kernel
theorem dX5_isCovered_65 : decode cX5_isCovered 65 = .ok (.invokestatic 38, 3) := by decide +kernel
theorem dX5_isCovered_68 : decode cX5_isCovered 68 = .ok (.ishr, 1) := by decide +kernel
theorem dX5_isCovered_69 : decode cX5_isCovered 69 = .ok (.iconst 1, 1) := by decide +kernel
theorem dX5_isCovered_70 : decode cX5_isCovered 70 = .ok (.iand, 1) := by decide +kernel
theorem dX5_isCovered_71 : decode cX5_isCovered 71 = .ok (.iconst 1, 1) := by decide +kernel
theorem dX5_isCovered_72 : decode cX5_isCovered 72 = .ok (.if_icmp .ne 7, 3) := by decide +kernel
theorem dX5_isCovered_75 : decode cX5_isCovered 75 = .ok (.iconst 1, 1) := by decide +kernel
theorem dX5_isCovered_76 : decode cX5_isCovered 76 = .ok (.goto 4, 3) := by decide +kernel
theorem dX5_isCovered_79 : decode cX5_isCovered 79 = .ok (.iconst 0, 1) := by decide +kernel
theorem dX5_isCovered_80 : decode cX5_isCovered 80 = .ok (.ireturn, 1) := by decide +kernel
set_option maxRecDepth 20000 in
theorem ggX5_areaMeets_X5_isCovered : GoodIn wsX5_areaMeets wsX5_isCovered := goodIn_r _ [5, 6, 7, 8, 4, 9, 10, 11, 12, 13, 14, 15, 16, 17, 18, 19, 20, 21, 22] (by decide +kernel) (by decide +kernel)
set_option maxRecDepth 20000 in
theorem gX5_areaMeets_X5_isCovered : GoodIn wsX5_areaMeets (wsV RX5 41 RX5 yX5_isCovered wsX5_isCovered) := goodIn_app (goodIn_of _ (by decide +kernel)) ggX5_areaMeets_X5_isCovered
theorem dX5_areaMeets_0 : decode cX5_areaMeets 0 = .ok (.iconst 0, 1) := by decide +kernel
theorem dX5_areaMeets_1 : decode cX5_areaMeets 1 = .ok (.istore 5, 2) := by decide +kernel
theorem dX5_areaMeets_3 : decode cX5_areaMeets 3 = .ok (.iload 5, 2) := by decide +kernel
theorem dX5_areaMeets_5 : decode cX5_areaMeets 5 = .ok (.sipush 256, 3) := by decide +kernel
theorem dX5_areaMeets_8 : decode cX5_areaMeets 8 = .ok (.if_icmp .ge 50, 3) := by decide +kernel
theorem dX5_areaMeets_11 : decode cX5_areaMeets 11 = .ok (.aload_n 0, 1) := by decide +kernel
theorem dX5_areaMeets_12 : decode cX5_areaMeets 12 = .ok (.iload_n 1, 1) := by decide +kernel
theorem dX5_areaMeets_13 : decode cX5_areaMeets 13 = .ok (.iload_n 2, 1) := by decide +kernel
theorem dX5_areaMeets_14 : decode cX5_areaMeets 14 = .ok (.iload 5, 2) := by decide +kernel
theorem dX5_areaMeets_16 : decode cX5_areaMeets 16 = .ok (.bipush 16, 2) := by decide +kernel
theorem dX5_areaMeets_18 : decode cX5_areaMeets 18 = .ok (.irem, 1) := by decide +kernel
theorem dX5_areaMeets_19 : decode cX5_areaMeets 19 = .ok (.iload 5, 2) := by decide +kernel
theorem dX5_areaMeets_21 : decode cX5_areaMeets 21 = .ok (.bipush 16, 2) := by decide +kernel
theorem dX5_areaMeets_23 : decode cX5_areaMeets 23 = .ok (.idiv, 1) := by decide +kernel
theorem dX5_areaMeets_24 : decode cX5_areaMeets 24 = .ok (.invokevirtual 41, 3) := by decide +kernel
theorem dX5_areaMeets_27 : decode cX5_areaMeets 27 = .ok (.ifCond .eq 25, 3) := by decide +kernel
theorem dX5_areaMeets_30 : decode cX5_areaMeets 30 = .ok (.aload_n 0, 1) := by decide +kernel
theorem dX5_areaMeets_31 : decode cX5_areaMeets 31 = .ok (.iload_n 3, 1) := by decide +kernel
theorem dX5_areaMeets_32 : decode cX5_areaMeets 32 = .ok (.iload 4, 2) := by decide +kernel
theorem dX5_areaMeets_34 : decode cX5_areaMeets 34 = .ok (.iload 5, 2) := by decide +kernel
theorem dX5_areaMeets_36 : decode cX5_areaMeets 36 = .ok (.bipush 16, 2) := by decide +kernel
theorem dX5_areaMeets_38 : decode cX5_areaMeets 38 = .ok (.irem, 1) := by decide +kernel
theorem dX5_areaMeets_39 : decode cX5_areaMeets 39 = .ok (.iload 5, 2) := by decide +kernel
theorem dX5_areaMeets_41 : decode cX5_areaMeets 41 = .ok (.bipush 16, 2) := by decide +kernel
theorem dX5_areaMeets_43 : decode cX5_areaMeets 43 = .ok (.idiv, 1) := by decide +kernel
theorem dX5_areaMeets_44 : decode cX5_areaMeets 44 = .ok (.invokevirtual 41, 3) := by decide +kernel
theorem dX5_areaMeets_47 : decode cX5_areaMeets 47 = .ok (.ifCond .eq 5, 3) := by decide +kernel
theorem dX5_areaMeets_50 : decode cX5_areaMeets 50 = .ok (.iconst 1, 1) := by decide +kernel
theorem dX5_areaMeets_51 : decode cX5_areaMeets 51 = .ok (.ireturn, 1) := by decide +kernel
theorem dX5_areaMeets_52 : decode cX5_areaMeets 52 = .ok (.iinc 5 1, 3) := by decide +kernel
theorem dX5_areaMeets_55 : decode cX5_areaMeets 55 = .ok (.goto (-52), 3) := by decide +kernel
theorem dX5_areaMeets_58 : decode cX5_areaMeets 58 = .ok (.iconst 0, 1) := by decide +kernel
theorem dX5_areaMeets_59 : decode cX5_areaMeets 59 = .ok (.ireturn, 1) := by decide +kernel
theorem dX5_hoursMeet_0 : decode cX5_hoursMeet 0 = .ok (.iload_n 0, 1) := by decide +kernel
theorem dX5_hoursMeet_1 : decode cX5_hoursMeet 1 = .ok (.bipush 10, 2) := by decide +kernel
theorem dX5_hoursMeet_3 : decode cX5_hoursMeet 3 = .ok (.idiv, 1) := by decide +kernel
theorem dX5_hoursMeet_4 : decode cX5_hoursMeet 4 = .ok (.iload_n 1, 1) := by decide +kernel
theorem dX5_hoursMeet_5 : decode cX5_hoursMeet 5 = .ok (.bipush 10, 2) := by decide +kernel
theorem dX5_hoursMeet_7 : decode cX5_hoursMeet 7 = .ok (.irem, 1) := by decide +kernel
theorem dX5_hoursMeet_8 : decode cX5_hoursMeet 8 = .ok (.if_icmp .gt 18, 3) := by decide +kernel
theorem dX5_hoursMeet_11 : decode cX5_hoursMeet 11 = .ok (.iload_n 1, 1) := by decide +kernel
theorem dX5_hoursMeet_12 : decode cX5_hoursMeet 12 = .ok (.bipush 10, 2) := by decide +kernel
theorem dX5_hoursMeet_14 : decode cX5_hoursMeet 14 = .ok (.idiv, 1) := by decide +kernel
theorem dX5_hoursMeet_15 : decode cX5_hoursMeet 15 = .ok (.iload_n 0, 1) := by decide +kernel
theorem dX5_hoursMeet_16 : decode cX5_hoursMeet 16 = .ok (.bipush 10, 2) := by decide +kernel
theorem dX5_hoursMeet_18 : decode cX5_hoursMeet 18 = .ok (.irem, 1) := by decide +kernel
theorem dX5_hoursMeet_19 : decode cX5_hoursMeet 19 = .ok (.if_icmp .gt 7, 3) := by decide +kernel
theorem dX5_hoursMeet_22 : decode cX5_hoursMeet 22 = .ok (.iconst 1, 1) := by decide +kernel
theorem dX5_hoursMeet_23 : decode cX5_hoursMeet 23 = .ok (.goto 4, 3) := by decide +kernel
theorem dX5_hoursMeet_26 : decode cX5_hoursMeet 26 = .ok (.iconst 0, 1) := by decide +kernel
theorem dX5_hoursMeet_27 : decode cX5_hoursMeet 27 = .ok (.ireturn, 1) := by decide +kernel
set_option maxRecDepth 20000 in
theorem ggX5_air_X5_of : GoodIn wsX5_air wsX5_of := goodIn_r _ [6, 1, 25, 26, 27, 28, 29, 30, 31, 32, 33] (by decide +kernel) (by decide +kernel)
set_option maxRecDepth 20000 in
theorem gX5_air_X5_of : GoodIn wsX5_air (wsV RX5 45 RX5 yX5_of wsX5_of) := goodIn_app (goodIn_of _ (by decide +kernel)) ggX5_air_X5_of
set_option maxRecDepth 20000 in
theorem ggX5_air_X5_craned : GoodIn wsX5_air wsX5_craned := goodIn_r _ [10, 1, 25, 26, 27, 28, 29, 30, 31, 32, 33] (by decide +kernel) (by decide +kernel)
set_option maxRecDepth 20000 in
theorem gX5_air_X5_craned : GoodIn wsX5_air (wsV RX5 34 RX5 yX5_craned wsX5_craned) := goodIn_app (goodIn_of _ (by decide +kernel)) ggX5_air_X5_craned
set_option maxRecDepth 20000 in
theorem ggX5_air_X5_hoursMeet : GoodIn wsX5_air wsX5_hoursMeet := goodIn_r _ [13] (by decide +kernel) (by decide +kernel)
set_option maxRecDepth 20000 in
theorem gX5_air_X5_hoursMeet : GoodIn wsX5_air (va_wsS RX5 48 yX5_hoursMeet wsX5_hoursMeet) := goodIn_app (goodIn_of _ (by decide +kernel)) ggX5_air_X5_hoursMeet
set_option maxRecDepth 20000 in
theorem ggX5_air_X5_areaMeets : GoodIn wsX5_air wsX5_areaMeets := goodIn_r _ [17, 18, 19, 20, 5, 21, 7, 8, 9, 10, 1, 22, 23, 24, 25, 26, 27, 28, 29, 30, 31, 32, 33] (by decide +kernel) (by decide +kernel)
set_option maxRecDepth 20000 in
theorem gX5_air_X5_areaMeets : GoodIn wsX5_air (wsV RX5 52 RX5 yX5_areaMeets wsX5_areaMeets) := goodIn_app (goodIn_of _ (by decide +kernel)) ggX5_air_X5_areaMeets
theorem dX5_air_0 : decode cX5_air 0 = .ok (.aload_n 0, 1) := by decide +kernel
theorem dX5_air_1 : decode cX5_air 1 = .ok (.iload 5, 2) := by decide +kernel
theorem dX5_air_3 : decode cX5_air 3 = .ok (.iconst 0, 1) := by decide +kernel
theorem dX5_air_4 : decode cX5_air 4 = .ok (.invokevirtual 45, 3) := by decide +kernel
theorem dX5_air_7 : decode cX5_air 7 = .ok (.istore 6, 2) := by decide +kernel
theorem dX5_air_9 : decode cX5_air 9 = .ok (.aload_n 0, 1) := by decide +kernel
theorem dX5_air_10 : decode cX5_air 10 = .ok (.iload_n 1, 1) := by decide +kernel
theorem dX5_air_11 : decode cX5_air 11 = .ok (.iconst 3, 1) := by decide +kernel
theorem dX5_air_12 : decode cX5_air 12 = .ok (.invokevirtual 34, 3) := by decide +kernel
theorem dX5_air_15 : decode cX5_air 15 = .ok (.aload_n 0, 1) := by decide +kernel
theorem dX5_air_16 : decode cX5_air 16 = .ok (.iload 6, 2) := by decide +kernel
theorem dX5_air_18 : decode cX5_air 18 = .ok (.iconst 3, 1) := by decide +kernel
theorem dX5_air_19 : decode cX5_air 19 = .ok (.invokevirtual 34, 3) := by decide +kernel
theorem dX5_air_22 : decode cX5_air 22 = .ok (.isub, 1) := by decide +kernel
theorem dX5_air_23 : decode cX5_air 23 = .ok (.istore 7, 2) := by decide +kernel
theorem dX5_air_25 : decode cX5_air 25 = .ok (.iload 7, 2) := by decide +kernel
theorem dX5_air_27 : decode cX5_air 27 = .ok (.ifCond .ge 9, 3) := by decide +kernel
theorem dX5_air_30 : decode cX5_air 30 = .ok (.iload 7, 2) := by decide +kernel
theorem dX5_air_32 : decode cX5_air 32 = .ok (.ineg, 1) := by decide +kernel
theorem dX5_air_33 : decode cX5_air 33 = .ok (.goto 5, 3) := by decide +kernel
theorem dX5_air_36 : decode cX5_air 36 = .ok (.iload 7, 2) := by decide +kernel
theorem dX5_air_38 : decode cX5_air 38 = .ok (.istore 7, 2) := by decide +kernel
theorem dX5_air_40 : decode cX5_air 40 = .ok (.iload_n 1, 1) := by decide +kernel
theorem dX5_air_41 : decode cX5_air 41 = .ok (.iload 6, 2) := by decide +kernel
theorem dX5_air_43 : decode cX5_air 43 = .ok (.if_icmp .eq 62, 3) := by decide +kernel
theorem dX5_air_46 : decode cX5_air 46 = .ok (.iload_n 2, 1) := by decide +kernel
theorem dX5_air_47 : decode cX5_air 47 = .ok (.aload_n 0, 1) := by decide +kernel
theorem dX5_air_48 : decode cX5_air 48 = .ok (.iload 5, 2) := by decide +kernel
theorem dX5_air_50 : decode cX5_air 50 = .ok (.iconst 1, 1) := by decide +kernel
theorem dX5_air_51 : decode cX5_air 51 = .ok (.invokevirtual 45, 3) := by decide +kernel
theorem dX5_air_54 : decode cX5_air 54 = .ok (.if_icmp .ne 51, 3) := by decide +kernel
theorem dX5_air_57 : decode cX5_air 57 = .ok (.iload_n 3, 1) := by decide +kernel
theorem dX5_air_58 : decode cX5_air 58 = .ok (.aload_n 0, 1) := by decide +kernel
theorem dX5_air_59 : decode cX5_air 59 = .ok (.iload 5, 2) := by decide +kernel
theorem dX5_air_61 : decode cX5_air 61 = .ok (.iconst 2, 1) := by decide +kernel
theorem dX5_air_62 : decode cX5_air 62 = .ok (.invokevirtual 45, 3) := by decide +kernel
theorem dX5_air_65 : decode cX5_air 65 = .ok (.invokestatic 48, 3) := by decide +kernel
theorem dX5_air_68 : decode cX5_air 68 = .ok (.ifCond .eq 37, 3) := by decide +kernel
theorem dX5_air_71 : decode cX5_air 71 = .ok (.iload 7, 2) := by decide +kernel
theorem dX5_air_73 : decode cX5_air 73 = .ok (.aload_n 0, 1) := by decide +kernel
theorem dX5_air_74 : decode cX5_air 74 = .ok (.getfield 7, 3) := by decide +kernel
theorem dX5_air_77 : decode cX5_air 77 = .ok (.iconst 3, 1) := by decide +kernel
theorem dX5_air_78 : decode cX5_air 78 = .ok (.iaload, 1) := by decide +kernel
theorem dX5_air_79 : decode cX5_air 79 = .ok (.if_icmp .ge 26, 3) := by decide +kernel
theorem dX5_air_82 : decode cX5_air 82 = .ok (.aload_n 0, 1) := by decide +kernel
theorem dX5_air_83 : decode cX5_air 83 = .ok (.iload_n 1, 1) := by decide +kernel
theorem dX5_air_84 : decode cX5_air 84 = .ok (.iload 4, 2) := by decide +kernel
theorem dX5_air_86 : decode cX5_air 86 = .ok (.iload 6, 2) := by decide +kernel
theorem dX5_air_88 : decode cX5_air 88 = .ok (.aload_n 0, 1) := by decide +kernel
theorem dX5_air_89 : decode cX5_air 89 = .ok (.iload 5, 2) := by decide +kernel
theorem dX5_air_91 : decode cX5_air 91 = .ok (.iconst 3, 1) := by decide +kernel
theorem dX5_air_92 : decode cX5_air 92 = .ok (.invokevirtual 45, 3) := by decide +kernel
theorem dX5_air_95 : decode cX5_air 95 = .ok (.invokevirtual 52, 3) := by decide +kernel
theorem dX5_air_98 : decode cX5_air 98 = .ok (.ifCond .eq 7, 3) := by decide +kernel
theorem dX5_air_101 : decode cX5_air 101 = .ok (.iconst 1, 1) := by decide +kernel
theorem dX5_air_102 : decode cX5_air 102 = .ok (.goto 4, 3) := by decide +kernel
theorem dX5_air_105 : decode cX5_air 105 = .ok (.iconst 0, 1) := by decide +kernel
theorem dX5_air_106 : decode cX5_air 106 = .ok (.ireturn, 1) := by decide +kernel
set_option maxRecDepth 20000 in
theorem ggX5_firstInAir_X5_of : GoodIn wsX5_firstInAir wsX5_of := goodIn_r _ [6, 1, 29, 30, 31, 32, 33, 34, 35, 36, 37] (by decide +kernel) (by decide +kernel)
set_option maxRecDepth 20000 in
theorem gX5_firstInAir_X5_of : GoodIn wsX5_firstInAir (wsV RX5 45 RX5 yX5_of wsX5_of) := goodIn_app (goodIn_of _ (by decide +kernel)) ggX5_firstInAir_X5_of
set_option maxRecDepth 20000 in
theorem ggX5_firstInAir_X5_air : GoodIn wsX5_firstInAir wsX5_air := goodIn_r _ [10, 1, 2, 3, 4, 5, 6, 11, 12, 13, 14, 15, 16, 17, 18, 19, 20, 21, 22, 23, 24, 25, 26, 27, 28, 29, 30, 31, 32, 33, 34, 35, 36, 37] (by decide +kernel) (by decide +kernel)
set_option maxRecDepth 20000 in
theorem gX5_firstInAir_X5_air : GoodIn wsX5_firstInAir (wsV RX5 55 RX5 yX5_air wsX5_air) := goodIn_app (goodIn_of _ (by decide +kernel)) ggX5_firstInAir_X5_air
theorem dX5_firstInAir_0 : decode cX5_firstInAir 0 = .ok (.iconst 0, 1) := by decide +kernel
theorem dX5_firstInAir_1 : decode cX5_firstInAir 1 = .ok (.istore 5, 2) := by decide +kernel
theorem dX5_firstInAir_3 : decode cX5_firstInAir 3 = .ok (.iload 5, 2) := by decide +kernel
theorem dX5_firstInAir_5 : decode cX5_firstInAir 5 = .ok (.aload_n 0, 1) := by decide +kernel
theorem dX5_firstInAir_6 : decode cX5_firstInAir 6 = .ok (.getfield 7, 3) := by decide +kernel
theorem dX5_firstInAir_9 : decode cX5_firstInAir 9 = .ok (.sipush 442, 3) := by decide +kernel
theorem dX5_firstInAir_12 : decode cX5_firstInAir 12 = .ok (.iaload, 1) := by decide +kernel
theorem dX5_firstInAir_13 : decode cX5_firstInAir 13 = .ok (.if_icmp .ge 37, 3) := by decide +kernel
theorem dX5_firstInAir_16 : decode cX5_firstInAir 16 = .ok (.aload_n 0, 1) := by decide +kernel
theorem dX5_firstInAir_17 : decode cX5_firstInAir 17 = .ok (.iload 5, 2) := by decide +kernel
theorem dX5_firstInAir_19 : decode cX5_firstInAir 19 = .ok (.iconst 4, 1) := by decide +kernel
theorem dX5_firstInAir_20 : decode cX5_firstInAir 20 = .ok (.invokevirtual 45, 3) := by decide +kernel
theorem dX5_firstInAir_23 : decode cX5_firstInAir 23 = .ok (.iconst 1, 1) := by decide +kernel
theorem dX5_firstInAir_24 : decode cX5_firstInAir 24 = .ok (.if_icmp .ne 20, 3) := by decide +kernel
theorem dX5_firstInAir_27 : decode cX5_firstInAir 27 = .ok (.aload_n 0, 1) := by decide +kernel
theorem dX5_firstInAir_28 : decode cX5_firstInAir 28 = .ok (.iload_n 1, 1) := by decide +kernel
theorem dX5_firstInAir_29 : decode cX5_firstInAir 29 = .ok (.iload_n 2, 1) := by decide +kernel
theorem dX5_firstInAir_30 : decode cX5_firstInAir 30 = .ok (.iload_n 3, 1) := by decide +kernel
theorem dX5_firstInAir_31 : decode cX5_firstInAir 31 = .ok (.iload 4, 2) := by decide +kernel
theorem dX5_firstInAir_33 : decode cX5_firstInAir 33 = .ok (.iload 5, 2) := by decide +kernel
theorem dX5_firstInAir_35 : decode cX5_firstInAir 35 = .ok (.invokevirtual 55, 3) := by decide +kernel
theorem dX5_firstInAir_38 : decode cX5_firstInAir 38 = .ok (.ifCond .eq 6, 3) := by decide +kernel
theorem dX5_firstInAir_41 : decode cX5_firstInAir 41 = .ok (.iload 5, 2) := by decide +kernel
theorem dX5_firstInAir_43 : decode cX5_firstInAir 43 = .ok (.ireturn, 1) := by decide +kernel
theorem dX5_firstInAir_44 : decode cX5_firstInAir 44 = .ok (.iinc 5 1, 3) := by decide +kernel
theorem dX5_firstInAir_47 : decode cX5_firstInAir 47 = .ok (.goto (-44), 3) := by decide +kernel
theorem dX5_firstInAir_50 : decode cX5_firstInAir 50 = .ok (.iconst (-1), 1) := by decide +kernel
theorem dX5_firstInAir_51 : decode cX5_firstInAir 51 = .ok (.ireturn, 1) := by decide +kernel
set_option maxRecDepth 20000 in
theorem ggX5_allowed_X5_spot : GoodIn wsX5_allowed wsX5_spot := goodIn_r _ [5] (by decide +kernel) (by decide +kernel)
set_option maxRecDepth 20000 in
theorem gX5_allowed_X5_spot : GoodIn wsX5_allowed (va_wsS RX5 59 yX5_spot wsX5_spot) := goodIn_app (goodIn_of _ (by decide +kernel)) ggX5_allowed_X5_spot
theorem dX5_allowed_0 : decode cX5_allowed 0 = .ok (.aload_n 0, 1) := by decide +kernel
theorem dX5_allowed_1 : decode cX5_allowed 1 = .ok (.getfield 7, 3) := by decide +kernel
theorem dX5_allowed_4 : decode cX5_allowed 4 = .ok (.bipush 82, 2) := by decide +kernel
theorem dX5_allowed_6 : decode cX5_allowed 6 = .ok (.iload_n 1, 1) := by decide +kernel
theorem dX5_allowed_7 : decode cX5_allowed 7 = .ok (.iload_n 2, 1) := by decide +kernel
theorem dX5_allowed_8 : decode cX5_allowed 8 = .ok (.invokestatic 59, 3) := by decide +kernel
theorem dX5_allowed_11 : decode cX5_allowed 11 = .ok (.iadd, 1) := by decide +kernel
theorem dX5_allowed_12 : decode cX5_allowed 12 = .ok (.iaload, 1) := by decide +kernel
theorem dX5_allowed_13 : decode cX5_allowed 13 = .ok (.istore_n 3, 1) := by decide +kernel
theorem dX5_allowed_14 : decode cX5_allowed 14 = .ok (.iload_n 3, 1) := by decide +kernel
theorem dX5_allowed_15 : decode cX5_allowed 15 = .ok (.iconst (-1), 1) := by decide +kernel
theorem dX5_allowed_16 : decode cX5_allowed 16 = .ok (.if_icmp .ne 12, 3) := by decide +kernel
theorem dX5_allowed_19 : decode cX5_allowed 19 = .ok (.aload_n 0, 1) := by decide +kernel
theorem dX5_allowed_20 : decode cX5_allowed 20 = .ok (.getfield 7, 3) := by decide +kernel
theorem dX5_allowed_23 : decode cX5_allowed 23 = .ok (.iconst 2, 1) := by decide +kernel
theorem dX5_allowed_24 : decode cX5_allowed 24 = .ok (.iaload, 1) := by decide +kernel
theorem dX5_allowed_25 : decode cX5_allowed 25 = .ok (.goto 4, 3) := by decide +kernel
theorem dX5_allowed_28 : decode cX5_allowed 28 = .ok (.iload_n 3, 1) := by decide +kernel
theorem dX5_allowed_29 : decode cX5_allowed 29 = .ok (.ireturn, 1) := by decide +kernel
set_option maxRecDepth 20000 in
theorem ggX5_credits_X5_spot : GoodIn wsX5_credits wsX5_spot := goodIn_r _ [5] (by decide +kernel) (by decide +kernel)
set_option maxRecDepth 20000 in
theorem gX5_credits_X5_spot : GoodIn wsX5_credits (va_wsS RX5 59 yX5_spot wsX5_spot) := goodIn_app (goodIn_of _ (by decide +kernel)) ggX5_credits_X5_spot
set_option maxRecDepth 20000 in
theorem ggX5_credits_X5_allowed : GoodIn wsX5_credits wsX5_allowed := goodIn_r _ [9, 1, 2, 3, 4, 5, 10, 11, 12, 13, 14, 15, 16, 17, 18] (by decide +kernel) (by decide +kernel)
set_option maxRecDepth 20000 in
theorem gX5_credits_X5_allowed : GoodIn wsX5_credits (wsV RX5 62 RX5 yX5_allowed wsX5_allowed) := goodIn_app (goodIn_of _ (by decide +kernel)) ggX5_credits_X5_allowed
theorem dX5_credits_0 : decode cX5_credits 0 = .ok (.iload_n 1, 1) := by decide +kernel
theorem dX5_credits_1 : decode cX5_credits 1 = .ok (.iload_n 2, 1) := by decide +kernel
theorem dX5_credits_2 : decode cX5_credits 2 = .ok (.invokestatic 59, 3) := by decide +kernel
theorem dX5_credits_5 : decode cX5_credits 5 = .ok (.istore_n 3, 1) := by decide +kernel
theorem dX5_credits_6 : decode cX5_credits 6 = .ok (.aload_n 0, 1) := by decide +kernel
theorem dX5_credits_7 : decode cX5_credits 7 = .ok (.iload_n 1, 1) := by decide +kernel
theorem dX5_credits_8 : decode cX5_credits 8 = .ok (.iload_n 2, 1) := by decide +kernel
theorem dX5_credits_9 : decode cX5_credits 9 = .ok (.invokevirtual 62, 3) := by decide +kernel
theorem dX5_credits_12 : decode cX5_credits 12 = .ok (.aload_n 0, 1) := by decide +kernel
theorem dX5_credits_13 : decode cX5_credits 13 = .ok (.getfield 7, 3) := by decide +kernel
theorem dX5_credits_16 : decode cX5_credits 16 = .ok (.sipush 202, 3) := by decide +kernel
theorem dX5_credits_19 : decode cX5_credits 19 = .ok (.iload_n 3, 1) := by decide +kernel
theorem dX5_credits_20 : decode cX5_credits 20 = .ok (.iadd, 1) := by decide +kernel
theorem dX5_credits_21 : decode cX5_credits 21 = .ok (.iaload, 1) := by decide +kernel
theorem dX5_credits_22 : decode cX5_credits 22 = .ok (.iadd, 1) := by decide +kernel
theorem dX5_credits_23 : decode cX5_credits 23 = .ok (.aload_n 0, 1) := by decide +kernel
theorem dX5_credits_24 : decode cX5_credits 24 = .ok (.getfield 7, 3) := by decide +kernel
theorem dX5_credits_27 : decode cX5_credits 27 = .ok (.sipush 322, 3) := by decide +kernel
theorem dX5_credits_30 : decode cX5_credits 30 = .ok (.iload_n 3, 1) := by decide +kernel
theorem dX5_credits_31 : decode cX5_credits 31 = .ok (.iadd, 1) := by decide +kernel
theorem dX5_credits_32 : decode cX5_credits 32 = .ok (.iaload, 1) := by decide +kernel
theorem dX5_credits_33 : decode cX5_credits 33 = .ok (.isub, 1) := by decide +kernel
theorem dX5_credits_34 : decode cX5_credits 34 = .ok (.ireturn, 1) := by decide +kernel
theorem dX5_hoursIn_0 : decode cX5_hoursIn 0 = .ok (.iload_n 0, 1) := by decide +kernel
theorem dX5_hoursIn_1 : decode cX5_hoursIn 1 = .ok (.bipush 10, 2) := by decide +kernel
theorem dX5_hoursIn_3 : decode cX5_hoursIn 3 = .ok (.irem, 1) := by decide +kernel
theorem dX5_hoursIn_4 : decode cX5_hoursIn 4 = .ok (.iload_n 0, 1) := by decide +kernel
theorem dX5_hoursIn_5 : decode cX5_hoursIn 5 = .ok (.bipush 10, 2) := by decide +kernel
theorem dX5_hoursIn_7 : decode cX5_hoursIn 7 = .ok (.idiv, 1) := by decide +kernel
theorem dX5_hoursIn_8 : decode cX5_hoursIn 8 = .ok (.isub, 1) := by decide +kernel
theorem dX5_hoursIn_9 : decode cX5_hoursIn 9 = .ok (.iconst 1, 1) := by decide +kernel
theorem dX5_hoursIn_10 : decode cX5_hoursIn 10 = .ok (.iadd, 1) := by decide +kernel
theorem dX5_hoursIn_11 : decode cX5_hoursIn 11 = .ok (.ireturn, 1) := by decide +kernel
set_option maxRecDepth 20000 in
theorem ggX5_uses_X5_of : GoodIn wsX5_uses wsX5_of := goodIn_r _ [5, 6, 14, 15, 16, 17, 18, 19, 20, 21, 22] (by decide +kernel) (by decide +kernel)
set_option maxRecDepth 20000 in
theorem gX5_uses_X5_of : GoodIn wsX5_uses (wsV RX5 45 RX5 yX5_of wsX5_of) := goodIn_app (goodIn_of _ (by decide +kernel)) ggX5_uses_X5_of
set_option maxRecDepth 20000 in
theorem ggX5_uses_X5_hoursIn : GoodIn wsX5_uses wsX5_hoursIn := goodIn_r _ [9] (by decide +kernel) (by decide +kernel)
set_option maxRecDepth 20000 in
theorem gX5_uses_X5_hoursIn : GoodIn wsX5_uses (va_wsS RX5 65 yX5_hoursIn wsX5_hoursIn) := goodIn_app (goodIn_of _ (by decide +kernel)) ggX5_uses_X5_hoursIn
set_option maxRecDepth 20000 in
theorem ggX5_uses_X5_craned : GoodIn wsX5_uses wsX5_craned := goodIn_r _ [13, 6, 14, 15, 16, 17, 18, 19, 20, 21, 22] (by decide +kernel) (by decide +kernel)
set_option maxRecDepth 20000 in
theorem gX5_uses_X5_craned : GoodIn wsX5_uses (wsV RX5 34 RX5 yX5_craned wsX5_craned) := goodIn_app (goodIn_of _ (by decide +kernel)) ggX5_uses_X5_craned
theorem dX5_uses_0 : decode cX5_uses 0 = .ok (.aload_n 0, 1) := by decide +kernel
theorem dX5_uses_1 : decode cX5_uses 1 = .ok (.iload_n 1, 1) := by decide +kernel
theorem dX5_uses_2 : decode cX5_uses 2 = .ok (.iconst 2, 1) := by decide +kernel
theorem dX5_uses_3 : decode cX5_uses 3 = .ok (.invokevirtual 45, 3) := by decide +kernel
theorem dX5_uses_6 : decode cX5_uses 6 = .ok (.invokestatic 65, 3) := by decide +kernel
theorem dX5_uses_9 : decode cX5_uses 9 = .ok (.aload_n 0, 1) := by decide +kernel
theorem dX5_uses_10 : decode cX5_uses 10 = .ok (.aload_n 0, 1) := by decide +kernel
theorem dX5_uses_11 : decode cX5_uses 11 = .ok (.iload_n 1, 1) := by decide +kernel
theorem dX5_uses_12 : decode cX5_uses 12 = .ok (.iconst 0, 1) := by decide +kernel
theorem dX5_uses_13 : decode cX5_uses 13 = .ok (.invokevirtual 45, 3) := by decide +kernel
theorem dX5_uses_16 : decode cX5_uses 16 = .ok (.iconst 5, 1) := by decide +kernel
theorem dX5_uses_17 : decode cX5_uses 17 = .ok (.invokevirtual 34, 3) := by decide +kernel
theorem dX5_uses_20 : decode cX5_uses 20 = .ok (.imul, 1) := by decide +kernel
theorem dX5_uses_21 : decode cX5_uses 21 = .ok (.ireturn, 1) := by decide +kernel
set_option maxRecDepth 20000 in
theorem ggX5_isOf_X5_of : GoodIn wsX5_isOf wsX5_of := goodIn_r _ [5, 6, 11, 12, 13, 14, 15, 16, 17, 18, 19] (by decide +kernel) (by decide +kernel)
set_option maxRecDepth 20000 in
theorem gX5_isOf_X5_of : GoodIn wsX5_isOf (wsV RX5 45 RX5 yX5_of wsX5_of) := goodIn_app (goodIn_of _ (by decide +kernel)) ggX5_isOf_X5_of
set_option maxRecDepth 20000 in
theorem ggX5_isOf_X5_craned : GoodIn wsX5_isOf wsX5_craned := goodIn_r _ [10, 6, 11, 12, 13, 14, 15, 16, 17, 18, 19] (by decide +kernel) (by decide +kernel)
set_option maxRecDepth 20000 in
theorem gX5_isOf_X5_craned : GoodIn wsX5_isOf (wsV RX5 34 RX5 yX5_craned wsX5_craned) := goodIn_app (goodIn_of _ (by decide +kernel)) ggX5_isOf_X5_craned
theorem dX5_isOf_0 : decode cX5_isOf 0 = .ok (.aload_n 0, 1) := by decide +kernel
theorem dX5_isOf_1 : decode cX5_isOf 1 = .ok (.iload_n 1, 1) := by decide +kernel
theorem dX5_isOf_2 : decode cX5_isOf 2 = .ok (.iconst 4, 1) := by decide +kernel
theorem dX5_isOf_3 : decode cX5_isOf 3 = .ok (.invokevirtual 45, 3) := by decide +kernel
theorem dX5_isOf_6 : decode cX5_isOf 6 = .ok (.iconst 1, 1) := by decide +kernel
theorem dX5_isOf_7 : decode cX5_isOf 7 = .ok (.if_icmp .ne 32, 3) := by decide +kernel
theorem dX5_isOf_10 : decode cX5_isOf 10 = .ok (.aload_n 0, 1) := by decide +kernel
theorem dX5_isOf_11 : decode cX5_isOf 11 = .ok (.iload_n 1, 1) := by decide +kernel
theorem dX5_isOf_12 : decode cX5_isOf 12 = .ok (.iconst 1, 1) := by decide +kernel
theorem dX5_isOf_13 : decode cX5_isOf 13 = .ok (.invokevirtual 45, 3) := by decide +kernel
theorem dX5_isOf_16 : decode cX5_isOf 16 = .ok (.iload_n 3, 1) := by decide +kernel
theorem dX5_isOf_17 : decode cX5_isOf 17 = .ok (.if_icmp .ne 22, 3) := by decide +kernel
theorem dX5_isOf_20 : decode cX5_isOf 20 = .ok (.aload_n 0, 1) := by decide +kernel
theorem dX5_isOf_21 : decode cX5_isOf 21 = .ok (.aload_n 0, 1) := by decide +kernel
theorem dX5_isOf_22 : decode cX5_isOf 22 = .ok (.iload_n 1, 1) := by decide +kernel
theorem dX5_isOf_23 : decode cX5_isOf 23 = .ok (.iconst 0, 1) := by decide +kernel
theorem dX5_isOf_24 : decode cX5_isOf 24 = .ok (.invokevirtual 45, 3) := by decide +kernel
theorem dX5_isOf_27 : decode cX5_isOf 27 = .ok (.iconst 4, 1) := by decide +kernel
theorem dX5_isOf_28 : decode cX5_isOf 28 = .ok (.invokevirtual 34, 3) := by decide +kernel
theorem dX5_isOf_31 : decode cX5_isOf 31 = .ok (.iload_n 2, 1) := by decide +kernel
theorem dX5_isOf_32 : decode cX5_isOf 32 = .ok (.if_icmp .ne 7, 3) := by decide +kernel
theorem dX5_isOf_35 : decode cX5_isOf 35 = .ok (.iconst 1, 1) := by decide +kernel
theorem dX5_isOf_36 : decode cX5_isOf 36 = .ok (.goto 4, 3) := by decide +kernel
theorem dX5_isOf_39 : decode cX5_isOf 39 = .ok (.iconst 0, 1) := by decide +kernel
theorem dX5_isOf_40 : decode cX5_isOf 40 = .ok (.ireturn, 1) := by decide +kernel
set_option maxRecDepth 20000 in
theorem ggX5_used_X5_isOf : GoodIn wsX5_used wsX5_isOf := goodIn_r _ [6, 7, 8, 9, 5, 10, 1, 11, 12, 13, 14, 22, 23, 24, 25, 26, 27, 28, 29, 30] (by decide +kernel) (by decide +kernel)
set_option maxRecDepth 20000 in
theorem gX5_used_X5_isOf : GoodIn wsX5_used (wsV RX5 69 RX5 yX5_isOf wsX5_isOf) := goodIn_app (goodIn_of _ (by decide +kernel)) ggX5_used_X5_isOf
set_option maxRecDepth 20000 in
theorem ggX5_used_X5_uses : GoodIn wsX5_used wsX5_uses := goodIn_r _ [18, 7, 8, 9, 5, 10, 1, 19, 20, 21, 11, 12, 13, 14, 22, 23, 24, 25, 26, 27, 28, 29, 30] (by decide +kernel) (by decide +kernel)
set_option maxRecDepth 20000 in
theorem gX5_used_X5_uses : GoodIn wsX5_used (wsV RX5 72 RX5 yX5_uses wsX5_uses) := goodIn_app (goodIn_of _ (by decide +kernel)) ggX5_used_X5_uses
theorem dX5_used_0 : decode cX5_used 0 = .ok (.iconst 0, 1) := by decide +kernel
theorem dX5_used_1 : decode cX5_used 1 = .ok (.istore_n 3, 1) := by decide +kernel
theorem dX5_used_2 : decode cX5_used 2 = .ok (.iconst 0, 1) := by decide +kernel
theorem dX5_used_3 : decode cX5_used 3 = .ok (.istore 4, 2) := by decide +kernel
theorem dX5_used_5 : decode cX5_used 5 = .ok (.iload 4, 2) := by decide +kernel
theorem dX5_used_7 : decode cX5_used 7 = .ok (.aload_n 0, 1) := by decide +kernel
theorem dX5_used_8 : decode cX5_used 8 = .ok (.getfield 7, 3) := by decide +kernel
theorem dX5_used_11 : decode cX5_used 11 = .ok (.sipush 442, 3) := by decide +kernel
theorem dX5_used_14 : decode cX5_used 14 = .ok (.iaload, 1) := by decide +kernel
theorem dX5_used_15 : decode cX5_used 15 = .ok (.if_icmp .ge 33, 3) := by decide +kernel
theorem dX5_used_18 : decode cX5_used 18 = .ok (.iload_n 3, 1) := by decide +kernel
theorem dX5_used_19 : decode cX5_used 19 = .ok (.aload_n 0, 1) := by decide +kernel
theorem dX5_used_20 : decode cX5_used 20 = .ok (.iload 4, 2) := by decide +kernel
theorem dX5_used_22 : decode cX5_used 22 = .ok (.iload_n 1, 1) := by decide +kernel
theorem dX5_used_23 : decode cX5_used 23 = .ok (.iload_n 2, 1) := by decide +kernel
theorem dX5_used_24 : decode cX5_used 24 = .ok (.invokevirtual 69, 3) := by decide +kernel
theorem dX5_used_27 : decode cX5_used 27 = .ok (.ifCond .eq 12, 3) := by decide +kernel
theorem dX5_used_30 : decode cX5_used 30 = .ok (.aload_n 0, 1) := by decide +kernel
theorem dX5_used_31 : decode cX5_used 31 = .ok (.iload 4, 2) := by decide +kernel
theorem dX5_used_33 : decode cX5_used 33 = .ok (.invokevirtual 72, 3) := by decide +kernel
theorem dX5_used_36 : decode cX5_used 36 = .ok (.goto 4, 3) := by decide +kernel
theorem dX5_used_39 : decode cX5_used 39 = .ok (.iconst 0, 1) := by decide +kernel
theorem dX5_used_40 : decode cX5_used 40 = .ok (.iadd, 1) := by decide +kernel
theorem dX5_used_41 : decode cX5_used 41 = .ok (.istore_n 3, 1) := by decide +kernel
theorem dX5_used_42 : decode cX5_used 42 = .ok (.iinc 4 1, 3) := by decide +kernel
theorem dX5_used_45 : decode cX5_used 45 = .ok (.goto (-40), 3) := by decide +kernel
theorem dX5_used_48 : decode cX5_used 48 = .ok (.iload_n 3, 1) := by decide +kernel
theorem dX5_used_49 : decode cX5_used 49 = .ok (.ireturn, 1) := by decide +kernel
set_option maxRecDepth 20000 in
theorem ggX5_stops_X5_craned : GoodIn wsX5_stops wsX5_craned := goodIn_r _ [6, 1, 7, 8, 9, 10, 11, 12, 13, 14, 15] (by decide +kernel) (by decide +kernel)
set_option maxRecDepth 20000 in
theorem gX5_stops_X5_craned : GoodIn wsX5_stops (wsV RX5 34 RX5 yX5_craned wsX5_craned) := goodIn_app (goodIn_of _ (by decide +kernel)) ggX5_stops_X5_craned
theorem dX5_stops_0 : decode cX5_stops 0 = .ok (.aload_n 0, 1) := by decide +kernel
theorem dX5_stops_1 : decode cX5_stops 1 = .ok (.getfield 7, 3) := by decide +kernel
theorem dX5_stops_4 : decode cX5_stops 4 = .ok (.bipush 52, 2) := by decide +kernel
theorem dX5_stops_6 : decode cX5_stops 6 = .ok (.iload_n 2, 1) := by decide +kernel
theorem dX5_stops_7 : decode cX5_stops 7 = .ok (.iadd, 1) := by decide +kernel
theorem dX5_stops_8 : decode cX5_stops 8 = .ok (.iaload, 1) := by decide +kernel
theorem dX5_stops_9 : decode cX5_stops 9 = .ok (.aload_n 0, 1) := by decide +kernel
theorem dX5_stops_10 : decode cX5_stops 10 = .ok (.getfield 7, 3) := by decide +kernel
theorem dX5_stops_13 : decode cX5_stops 13 = .ok (.iconst 1, 1) := by decide +kernel
theorem dX5_stops_14 : decode cX5_stops 14 = .ok (.iaload, 1) := by decide +kernel
theorem dX5_stops_15 : decode cX5_stops 15 = .ok (.aload_n 0, 1) := by decide +kernel
theorem dX5_stops_16 : decode cX5_stops 16 = .ok (.iload_n 1, 1) := by decide +kernel
theorem dX5_stops_17 : decode cX5_stops 17 = .ok (.iconst 3, 1) := by decide +kernel
theorem dX5_stops_18 : decode cX5_stops 18 = .ok (.invokevirtual 34, 3) := by decide +kernel
theorem dX5_stops_21 : decode cX5_stops 21 = .ok (.iconst 2, 1) := by decide +kernel
theorem dX5_stops_22 : decode cX5_stops 22 = .ok (.idiv, 1) := by decide +kernel
theorem dX5_stops_23 : decode cX5_stops 23 = .ok (.isub, 1) := by decide +kernel
theorem dX5_stops_24 : decode cX5_stops 24 = .ok (.if_icmp .lt 7, 3) := by decide +kernel
theorem dX5_stops_27 : decode cX5_stops 27 = .ok (.iconst 1, 1) := by decide +kernel
theorem dX5_stops_28 : decode cX5_stops 28 = .ok (.goto 4, 3) := by decide +kernel
theorem dX5_stops_31 : decode cX5_stops 31 = .ok (.iconst 0, 1) := by decide +kernel
theorem dX5_stops_32 : decode cX5_stops 32 = .ok (.ireturn, 1) := by decide +kernel
set_option maxRecDepth 20000 in
theorem ggX5_calms_X5_of : GoodIn wsX5_calms wsX5_of := goodIn_r _ [6, 1, 15, 16, 17, 18, 19, 20, 21, 22, 23] (by decide +kernel) (by decide +kernel)
set_option maxRecDepth 20000 in
theorem gX5_calms_X5_of : GoodIn wsX5_calms (wsV RX5 45 RX5 yX5_of wsX5_of) := goodIn_app (goodIn_of _ (by decide +kernel)) ggX5_calms_X5_of
set_option maxRecDepth 20000 in
theorem ggX5_calms_X5_stops : GoodIn wsX5_calms wsX5_stops := goodIn_r _ [10, 1, 11, 12, 13, 5, 14, 15, 16, 17, 18, 19, 20, 21, 22, 23] (by decide +kernel) (by decide +kernel)
set_option maxRecDepth 20000 in
theorem gX5_calms_X5_stops : GoodIn wsX5_calms (wsV RX5 75 RX5 yX5_stops wsX5_stops) := goodIn_app (goodIn_of _ (by decide +kernel)) ggX5_calms_X5_stops
theorem dX5_calms_0 : decode cX5_calms 0 = .ok (.iconst 0, 1) := by decide +kernel
theorem dX5_calms_1 : decode cX5_calms 1 = .ok (.istore_n 2, 1) := by decide +kernel
theorem dX5_calms_2 : decode cX5_calms 2 = .ok (.iconst 0, 1) := by decide +kernel
theorem dX5_calms_3 : decode cX5_calms 3 = .ok (.istore_n 3, 1) := by decide +kernel
theorem dX5_calms_4 : decode cX5_calms 4 = .ok (.iload_n 3, 1) := by decide +kernel
theorem dX5_calms_5 : decode cX5_calms 5 = .ok (.aload_n 0, 1) := by decide +kernel
theorem dX5_calms_6 : decode cX5_calms 6 = .ok (.getfield 7, 3) := by decide +kernel
theorem dX5_calms_9 : decode cX5_calms 9 = .ok (.sipush 442, 3) := by decide +kernel
theorem dX5_calms_12 : decode cX5_calms 12 = .ok (.iaload, 1) := by decide +kernel
theorem dX5_calms_13 : decode cX5_calms 13 = .ok (.if_icmp .ge 61, 3) := by decide +kernel
theorem dX5_calms_16 : decode cX5_calms 16 = .ok (.aload_n 0, 1) := by decide +kernel
theorem dX5_calms_17 : decode cX5_calms 17 = .ok (.iload_n 3, 1) := by decide +kernel
theorem dX5_calms_18 : decode cX5_calms 18 = .ok (.iconst 4, 1) := by decide +kernel
theorem dX5_calms_19 : decode cX5_calms 19 = .ok (.invokevirtual 45, 3) := by decide +kernel
theorem dX5_calms_22 : decode cX5_calms 22 = .ok (.iconst 1, 1) := by decide +kernel
theorem dX5_calms_23 : decode cX5_calms 23 = .ok (.if_icmp .ne 45, 3) := by decide +kernel
theorem dX5_calms_26 : decode cX5_calms 26 = .ok (.aload_n 0, 1) := by decide +kernel
theorem dX5_calms_27 : decode cX5_calms 27 = .ok (.iload_n 3, 1) := by decide +kernel
theorem dX5_calms_28 : decode cX5_calms 28 = .ok (.iconst 1, 1) := by decide +kernel
theorem dX5_calms_29 : decode cX5_calms 29 = .ok (.invokevirtual 45, 3) := by decide +kernel
theorem dX5_calms_32 : decode cX5_calms 32 = .ok (.iload_n 1, 1) := by decide +kernel
theorem dX5_calms_33 : decode cX5_calms 33 = .ok (.if_icmp .ne 35, 3) := by decide +kernel
theorem dX5_calms_36 : decode cX5_calms 36 = .ok (.aload_n 0, 1) := by decide +kernel
theorem dX5_calms_37 : decode cX5_calms 37 = .ok (.aload_n 0, 1) := by decide +kernel
theorem dX5_calms_38 : decode cX5_calms 38 = .ok (.iload_n 3, 1) := by decide +kernel
theorem dX5_calms_39 : decode cX5_calms 39 = .ok (.iconst 0, 1) := by decide +kernel
theorem dX5_calms_40 : decode cX5_calms 40 = .ok (.invokevirtual 45, 3) := by decide +kernel
theorem dX5_calms_43 : decode cX5_calms 43 = .ok (.iload_n 1, 1) := by decide +kernel
theorem dX5_calms_44 : decode cX5_calms 44 = .ok (.invokevirtual 75, 3) := by decide +kernel
theorem dX5_calms_47 : decode cX5_calms 47 = .ok (.ifCond .eq 21, 3) := by decide +kernel
theorem dX5_calms_50 : decode cX5_calms 50 = .ok (.aload_n 0, 1) := by decide +kernel
theorem dX5_calms_51 : decode cX5_calms 51 = .ok (.getfield 7, 3) := by decide +kernel
theorem dX5_calms_54 : decode cX5_calms 54 = .ok (.sipush 445, 3) := by decide +kernel
theorem dX5_calms_57 : decode cX5_calms 57 = .ok (.iconst 5, 1) := by decide +kernel
theorem dX5_calms_58 : decode cX5_calms 58 = .ok (.iload_n 3, 1) := by decide +kernel
theorem dX5_calms_59 : decode cX5_calms 59 = .ok (.imul, 1) := by decide +kernel
theorem dX5_calms_60 : decode cX5_calms 60 = .ok (.iadd, 1) := by decide +kernel
theorem dX5_calms_61 : decode cX5_calms 61 = .ok (.iconst 4, 1) := by decide +kernel
theorem dX5_calms_62 : decode cX5_calms 62 = .ok (.iadd, 1) := by decide +kernel
theorem dX5_calms_63 : decode cX5_calms 63 = .ok (.iconst 3, 1) := by decide +kernel
theorem dX5_calms_64 : decode cX5_calms 64 = .ok (.iastore, 1) := by decide +kernel
theorem dX5_calms_65 : decode cX5_calms 65 = .ok (.iinc 2 1, 3) := by decide +kernel
theorem dX5_calms_68 : decode cX5_calms 68 = .ok (.iinc 3 1, 3) := by decide +kernel
theorem dX5_calms_71 : decode cX5_calms 71 = .ok (.goto (-67), 3) := by decide +kernel
theorem dX5_calms_74 : decode cX5_calms 74 = .ok (.aload_n 0, 1) := by decide +kernel
theorem dX5_calms_75 : decode cX5_calms 75 = .ok (.getfield 7, 3) := by decide +kernel
theorem dX5_calms_78 : decode cX5_calms 78 = .ok (.sipush 444, 3) := by decide +kernel
theorem dX5_calms_81 : decode cX5_calms 81 = .ok (.dup2, 1) := by decide +kernel
theorem dX5_calms_82 : decode cX5_calms 82 = .ok (.iaload, 1) := by decide +kernel
theorem dX5_calms_83 : decode cX5_calms 83 = .ok (.iload_n 2, 1) := by decide +kernel
theorem dX5_calms_84 : decode cX5_calms 84 = .ok (.iadd, 1) := by decide +kernel
theorem dX5_calms_85 : decode cX5_calms 85 = .ok (.iastore, 1) := by decide +kernel
theorem dX5_calms_86 : decode cX5_calms 86 = .ok (.iload_n 2, 1) := by decide +kernel
theorem dX5_calms_87 : decode cX5_calms 87 = .ok (.ireturn, 1) := by decide +kernel
set_option maxRecDepth 20000 in
theorem ggX5_saves_X5_isOf : GoodIn wsX5_saves wsX5_isOf := goodIn_r _ [6, 7, 8, 9, 5, 10, 1, 11, 12, 13, 14, 37, 38, 39, 40, 41, 42, 43, 44, 45] (by decide +kernel) (by decide +kernel)
set_option maxRecDepth 20000 in
theorem gX5_saves_X5_isOf : GoodIn wsX5_saves (wsV RX5 69 RX5 yX5_isOf wsX5_isOf) := goodIn_app (goodIn_of _ (by decide +kernel)) ggX5_saves_X5_isOf
set_option maxRecDepth 20000 in
theorem ggX5_saves_X5_used : GoodIn wsX5_saves wsX5_used := goodIn_r _ [18, 1, 2, 3, 4, 5, 6, 7, 8, 9, 10, 11, 12, 13, 14, 19, 20, 21, 22, 23, 24, 25, 37, 38, 39, 40, 41, 42, 43, 44, 45] (by decide +kernel) (by decide +kernel)
set_option maxRecDepth 20000 in
theorem gX5_saves_X5_used : GoodIn wsX5_saves (wsV RX5 78 RX5 yX5_used wsX5_used) := goodIn_app (goodIn_of _ (by decide +kernel)) ggX5_saves_X5_used
set_option maxRecDepth 20000 in
theorem ggX5_saves_X5_credits : GoodIn wsX5_saves wsX5_credits := goodIn_r _ [29, 1, 30, 31, 5, 32, 33, 34, 35, 36, 37, 38, 39, 40, 41, 42, 43, 44, 45] (by decide +kernel) (by decide +kernel)
set_option maxRecDepth 20000 in
theorem gX5_saves_X5_credits : GoodIn wsX5_saves (wsV RX5 81 RX5 yX5_credits wsX5_credits) := goodIn_app (goodIn_of _ (by decide +kernel)) ggX5_saves_X5_credits
theorem dX5_saves_0 : decode cX5_saves 0 = .ok (.iconst 0, 1) := by decide +kernel
theorem dX5_saves_1 : decode cX5_saves 1 = .ok (.istore_n 3, 1) := by decide +kernel
theorem dX5_saves_2 : decode cX5_saves 2 = .ok (.aload_n 0, 1) := by decide +kernel
theorem dX5_saves_3 : decode cX5_saves 3 = .ok (.getfield 7, 3) := by decide +kernel
theorem dX5_saves_6 : decode cX5_saves 6 = .ok (.sipush 442, 3) := by decide +kernel
theorem dX5_saves_9 : decode cX5_saves 9 = .ok (.iaload, 1) := by decide +kernel
theorem dX5_saves_10 : decode cX5_saves 10 = .ok (.iconst 1, 1) := by decide +kernel
theorem dX5_saves_11 : decode cX5_saves 11 = .ok (.isub, 1) := by decide +kernel
theorem dX5_saves_12 : decode cX5_saves 12 = .ok (.istore 4, 2) := by decide +kernel
theorem dX5_saves_14 : decode cX5_saves 14 = .ok (.iload 4, 2) := by decide +kernel
theorem dX5_saves_16 : decode cX5_saves 16 = .ok (.ifCond .lt 54, 3) := by decide +kernel
theorem dX5_saves_19 : decode cX5_saves 19 = .ok (.aload_n 0, 1) := by decide +kernel
theorem dX5_saves_20 : decode cX5_saves 20 = .ok (.iload 4, 2) := by decide +kernel
theorem dX5_saves_22 : decode cX5_saves 22 = .ok (.iload_n 1, 1) := by decide +kernel
theorem dX5_saves_23 : decode cX5_saves 23 = .ok (.iload_n 2, 1) := by decide +kernel
theorem dX5_saves_24 : decode cX5_saves 24 = .ok (.invokevirtual 69, 3) := by decide +kernel
theorem dX5_saves_27 : decode cX5_saves 27 = .ok (.ifCond .eq 37, 3) := by decide +kernel
theorem dX5_saves_30 : decode cX5_saves 30 = .ok (.aload_n 0, 1) := by decide +kernel
theorem dX5_saves_31 : decode cX5_saves 31 = .ok (.iload_n 1, 1) := by decide +kernel
theorem dX5_saves_32 : decode cX5_saves 32 = .ok (.iload_n 2, 1) := by decide +kernel
theorem dX5_saves_33 : decode cX5_saves 33 = .ok (.invokevirtual 78, 3) := by decide +kernel
theorem dX5_saves_36 : decode cX5_saves 36 = .ok (.aload_n 0, 1) := by decide +kernel
theorem dX5_saves_37 : decode cX5_saves 37 = .ok (.iload_n 1, 1) := by decide +kernel
theorem dX5_saves_38 : decode cX5_saves 38 = .ok (.iload_n 2, 1) := by decide +kernel
theorem dX5_saves_39 : decode cX5_saves 39 = .ok (.invokevirtual 81, 3) := by decide +kernel
theorem dX5_saves_42 : decode cX5_saves 42 = .ok (.if_icmp .le 22, 3) := by decide +kernel
theorem dX5_saves_45 : decode cX5_saves 45 = .ok (.aload_n 0, 1) := by decide +kernel
theorem dX5_saves_46 : decode cX5_saves 46 = .ok (.getfield 7, 3) := by decide +kernel
theorem dX5_saves_49 : decode cX5_saves 49 = .ok (.sipush 445, 3) := by decide +kernel
theorem dX5_saves_52 : decode cX5_saves 52 = .ok (.iconst 5, 1) := by decide +kernel
theorem dX5_saves_53 : decode cX5_saves 53 = .ok (.iload 4, 2) := by decide +kernel
theorem dX5_saves_55 : decode cX5_saves 55 = .ok (.imul, 1) := by decide +kernel
theorem dX5_saves_56 : decode cX5_saves 56 = .ok (.iadd, 1) := by decide +kernel
theorem dX5_saves_57 : decode cX5_saves 57 = .ok (.iconst 4, 1) := by decide +kernel
theorem dX5_saves_58 : decode cX5_saves 58 = .ok (.iadd, 1) := by decide +kernel
theorem dX5_saves_59 : decode cX5_saves 59 = .ok (.iconst 3, 1) := by decide +kernel
theorem dX5_saves_60 : decode cX5_saves 60 = .ok (.iastore, 1) := by decide +kernel
theorem dX5_saves_61 : decode cX5_saves 61 = .ok (.iinc 3 1, 3) := by decide +kernel
theorem dX5_saves_64 : decode cX5_saves 64 = .ok (.iinc 4 (-1), 3) := by decide +kernel
theorem dX5_saves_67 : decode cX5_saves 67 = .ok (.goto (-53), 3) := by decide +kernel
theorem dX5_saves_70 : decode cX5_saves 70 = .ok (.aload_n 0, 1) := by decide +kernel
theorem dX5_saves_71 : decode cX5_saves 71 = .ok (.getfield 7, 3) := by decide +kernel
theorem dX5_saves_74 : decode cX5_saves 74 = .ok (.sipush 444, 3) := by decide +kernel
theorem dX5_saves_77 : decode cX5_saves 77 = .ok (.dup2, 1) := by decide +kernel
theorem dX5_saves_78 : decode cX5_saves 78 = .ok (.iaload, 1) := by decide +kernel
theorem dX5_saves_79 : decode cX5_saves 79 = .ok (.iload_n 3, 1) := by decide +kernel
theorem dX5_saves_80 : decode cX5_saves 80 = .ok (.iadd, 1) := by decide +kernel
theorem dX5_saves_81 : decode cX5_saves 81 = .ok (.iastore, 1) := by decide +kernel
theorem dX5_saves_82 : decode cX5_saves 82 = .ok (.iload_n 3, 1) := by decide +kernel
theorem dX5_saves_83 : decode cX5_saves 83 = .ok (.ireturn, 1) := by decide +kernel
set_option maxRecDepth 20000 in
theorem ggX5_savesAll_X5_saves : GoodIn wsX5_savesAll wsX5_saves := goodIn_r _ [5, 6, 7, 8, 9, 4, 10, 11, 12, 13, 14, 15, 16, 17, 18, 19, 20, 21, 22, 23, 24, 25, 26, 27, 28, 29, 30, 31, 32, 33, 34, 35, 36, 37, 38, 39, 40, 41, 42, 43, 44, 45, 46, 47, 48, 49] (by decide +kernel) (by decide +kernel)
set_option maxRecDepth 20000 in
theorem gX5_savesAll_X5_saves : GoodIn wsX5_savesAll (wsV RX5 84 RX5 yX5_saves wsX5_saves) := goodIn_app (goodIn_of _ (by decide +kernel)) ggX5_savesAll_X5_saves
theorem dX5_savesAll_0 : decode cX5_savesAll 0 = .ok (.iconst 0, 1) := by decide +kernel
theorem dX5_savesAll_1 : decode cX5_savesAll 1 = .ok (.istore_n 1, 1) := by decide +kernel
theorem dX5_savesAll_2 : decode cX5_savesAll 2 = .ok (.iconst 0, 1) := by decide +kernel
theorem dX5_savesAll_3 : decode cX5_savesAll 3 = .ok (.istore_n 2, 1) := by decide +kernel
theorem dX5_savesAll_4 : decode cX5_savesAll 4 = .ok (.iload_n 2, 1) := by decide +kernel
theorem dX5_savesAll_5 : decode cX5_savesAll 5 = .ok (.bipush 120, 2) := by decide +kernel
theorem dX5_savesAll_7 : decode cX5_savesAll 7 = .ok (.if_icmp .ge 24, 3) := by decide +kernel
theorem dX5_savesAll_10 : decode cX5_savesAll 10 = .ok (.iload_n 1, 1) := by decide +kernel
theorem dX5_savesAll_11 : decode cX5_savesAll 11 = .ok (.aload_n 0, 1) := by decide +kernel
theorem dX5_savesAll_12 : decode cX5_savesAll 12 = .ok (.iload_n 2, 1) := by decide +kernel
theorem dX5_savesAll_13 : decode cX5_savesAll 13 = .ok (.bipush 30, 2) := by decide +kernel
theorem dX5_savesAll_15 : decode cX5_savesAll 15 = .ok (.idiv, 1) := by decide +kernel
theorem dX5_savesAll_16 : decode cX5_savesAll 16 = .ok (.iload_n 2, 1) := by decide +kernel
theorem dX5_savesAll_17 : decode cX5_savesAll 17 = .ok (.bipush 30, 2) := by decide +kernel
theorem dX5_savesAll_19 : decode cX5_savesAll 19 = .ok (.irem, 1) := by decide +kernel
theorem dX5_savesAll_20 : decode cX5_savesAll 20 = .ok (.invokevirtual 84, 3) := by decide +kernel
theorem dX5_savesAll_23 : decode cX5_savesAll 23 = .ok (.iadd, 1) := by decide +kernel
theorem dX5_savesAll_24 : decode cX5_savesAll 24 = .ok (.istore_n 1, 1) := by decide +kernel
theorem dX5_savesAll_25 : decode cX5_savesAll 25 = .ok (.iinc 2 1, 3) := by decide +kernel
theorem dX5_savesAll_28 : decode cX5_savesAll 28 = .ok (.goto (-24), 3) := by decide +kernel
theorem dX5_savesAll_31 : decode cX5_savesAll 31 = .ok (.iload_n 1, 1) := by decide +kernel
theorem dX5_savesAll_32 : decode cX5_savesAll 32 = .ok (.ireturn, 1) := by decide +kernel
set_option maxRecDepth 20000 in
theorem ggX5_crane_X5_in : GoodIn wsX5_crane wsX5_in := goodIn_r _ [5] (by decide +kernel) (by decide +kernel)
set_option maxRecDepth 20000 in
theorem gX5_crane_X5_in : GoodIn wsX5_crane (va_wsS RX5 26 yX5_in wsX5_in) := goodIn_app (goodIn_of _ (by decide +kernel)) ggX5_crane_X5_in
set_option maxRecDepth 20000 in
theorem ggX5_crane_X5_isStreet : GoodIn wsX5_crane wsX5_isStreet := goodIn_r _ [8, 2, 3, 4, 5] (by decide +kernel) (by decide +kernel)
set_option maxRecDepth 20000 in
theorem gX5_crane_X5_isStreet : GoodIn wsX5_crane (va_wsS RX5 87 yX5_isStreet wsX5_isStreet) := goodIn_app (goodIn_of _ (by decide +kernel)) ggX5_crane_X5_isStreet
set_option maxRecDepth 20000 in
theorem ggX5_crane_X5_craned : GoodIn wsX5_crane wsX5_craned := goodIn_r _ [12, 1, 19, 20, 21, 22, 23, 24, 25, 26, 27] (by decide +kernel) (by decide +kernel)
set_option maxRecDepth 20000 in
theorem gX5_crane_X5_craned : GoodIn wsX5_crane (wsV RX5 34 RX5 yX5_craned wsX5_craned) := goodIn_app (goodIn_of _ (by decide +kernel)) ggX5_crane_X5_craned
set_option maxRecDepth 20000 in
theorem ggX5_crane_X5_records : GoodIn wsX5_crane wsX5_records := goodIn_r _ [16, 17, 18, 1, 19, 20, 21, 22, 23, 24, 25, 26, 27] (by decide +kernel) (by decide +kernel)
set_option maxRecDepth 20000 in
theorem gX5_crane_X5_records : GoodIn wsX5_crane (wsV RX5 91 RX5 yX5_records wsX5_records) := goodIn_app (goodIn_of _ (by decide +kernel)) ggX5_crane_X5_records
theorem dX5_crane_0 : decode cX5_crane 0 = .ok (.iload_n 1, 1) := by decide +kernel
theorem dX5_crane_1 : decode cX5_crane 1 = .ok (.iconst 0, 1) := by decide +kernel
theorem dX5_crane_2 : decode cX5_crane 2 = .ok (.bipush 15, 2) := by decide +kernel
theorem dX5_crane_4 : decode cX5_crane 4 = .ok (.invokestatic 26, 3) := by decide +kernel
theorem dX5_crane_7 : decode cX5_crane 7 = .ok (.ifCond .eq 54, 3) := by decide +kernel
theorem dX5_crane_10 : decode cX5_crane 10 = .ok (.iload_n 2, 1) := by decide +kernel
theorem dX5_crane_11 : decode cX5_crane 11 = .ok (.iconst 0, 1) := by decide +kernel
theorem dX5_crane_12 : decode cX5_crane 12 = .ok (.bipush 15, 2) := by decide +kernel
theorem dX5_crane_14 : decode cX5_crane 14 = .ok (.invokestatic 26, 3) := by decide +kernel
theorem dX5_crane_17 : decode cX5_crane 17 = .ok (.ifCond .eq 44, 3) := by decide +kernel
theorem dX5_crane_20 : decode cX5_crane 20 = .ok (.iload_n 3, 1) := by decide +kernel
theorem dX5_crane_21 : decode cX5_crane 21 = .ok (.iconst 1, 1) := by decide +kernel
theorem dX5_crane_22 : decode cX5_crane 22 = .ok (.bipush 8, 2) := by decide +kernel
theorem dX5_crane_24 : decode cX5_crane 24 = .ok (.invokestatic 26, 3) := by decide +kernel
theorem dX5_crane_27 : decode cX5_crane 27 = .ok (.ifCond .eq 34, 3) := by decide +kernel
theorem dX5_crane_30 : decode cX5_crane 30 = .ok (.iload 4, 2) := by decide +kernel
theorem dX5_crane_32 : decode cX5_crane 32 = .ok (.bipush 10, 2) := by decide +kernel
theorem dX5_crane_34 : decode cX5_crane 34 = .ok (.bipush 99, 2) := by decide +kernel
theorem dX5_crane_36 : decode cX5_crane 36 = .ok (.invokestatic 26, 3) := by decide +kernel
theorem dX5_crane_39 : decode cX5_crane 39 = .ok (.ifCond .eq 22, 3) := by decide +kernel
theorem dX5_crane_42 : decode cX5_crane 42 = .ok (.iload 5, 2) := by decide +kernel
theorem dX5_crane_44 : decode cX5_crane 44 = .ok (.invokestatic 87, 3) := by decide +kernel
theorem dX5_crane_47 : decode cX5_crane 47 = .ok (.ifCond .eq 14, 3) := by decide +kernel
theorem dX5_crane_50 : decode cX5_crane 50 = .ok (.iload 6, 2) := by decide +kernel
theorem dX5_crane_52 : decode cX5_crane 52 = .ok (.iconst 1, 1) := by decide +kernel
theorem dX5_crane_53 : decode cX5_crane 53 = .ok (.bipush 9, 2) := by decide +kernel
theorem dX5_crane_55 : decode cX5_crane 55 = .ok (.invokestatic 26, 3) := by decide +kernel
theorem dX5_crane_58 : decode cX5_crane 58 = .ok (.ifCond .ne 7, 3) := by decide +kernel
theorem dX5_crane_61 : decode cX5_crane 61 = .ok (.sipush (-1001), 3) := by decide +kernel
theorem dX5_crane_64 : decode cX5_crane 64 = .ok (.ireturn, 1) := by decide +kernel
theorem dX5_crane_65 : decode cX5_crane 65 = .ok (.iconst 0, 1) := by decide +kernel
theorem dX5_crane_66 : decode cX5_crane 66 = .ok (.istore 7, 2) := by decide +kernel
theorem dX5_crane_68 : decode cX5_crane 68 = .ok (.iload 7, 2) := by decide +kernel
theorem dX5_crane_70 : decode cX5_crane 70 = .ok (.aload_n 0, 1) := by decide +kernel
theorem dX5_crane_71 : decode cX5_crane 71 = .ok (.getfield 7, 3) := by decide +kernel
theorem dX5_crane_74 : decode cX5_crane 74 = .ok (.iconst 0, 1) := by decide +kernel
theorem dX5_crane_75 : decode cX5_crane 75 = .ok (.iaload, 1) := by decide +kernel
theorem dX5_crane_76 : decode cX5_crane 76 = .ok (.if_icmp .ge 35, 3) := by decide +kernel
theorem dX5_crane_79 : decode cX5_crane 79 = .ok (.aload_n 0, 1) := by decide +kernel
theorem dX5_crane_80 : decode cX5_crane 80 = .ok (.iload 7, 2) := by decide +kernel
theorem dX5_crane_82 : decode cX5_crane 82 = .ok (.iconst 0, 1) := by decide +kernel
theorem dX5_crane_83 : decode cX5_crane 83 = .ok (.invokevirtual 34, 3) := by decide +kernel
theorem dX5_crane_86 : decode cX5_crane 86 = .ok (.iload_n 1, 1) := by decide +kernel
theorem dX5_crane_87 : decode cX5_crane 87 = .ok (.if_icmp .ne 18, 3) := by decide +kernel
theorem dX5_crane_90 : decode cX5_crane 90 = .ok (.aload_n 0, 1) := by decide +kernel
theorem dX5_crane_91 : decode cX5_crane 91 = .ok (.iload 7, 2) := by decide +kernel
theorem dX5_crane_93 : decode cX5_crane 93 = .ok (.iconst 1, 1) := by decide +kernel
theorem dX5_crane_94 : decode cX5_crane 94 = .ok (.invokevirtual 34, 3) := by decide +kernel
theorem dX5_crane_97 : decode cX5_crane 97 = .ok (.iload_n 2, 1) := by decide +kernel
theorem dX5_crane_98 : decode cX5_crane 98 = .ok (.if_icmp .ne 7, 3) := by decide +kernel
theorem dX5_crane_101 : decode cX5_crane 101 = .ok (.sipush (-1002), 3) := by decide +kernel
theorem dX5_crane_104 : decode cX5_crane 104 = .ok (.ireturn, 1) := by decide +kernel
theorem dX5_crane_105 : decode cX5_crane 105 = .ok (.iinc 7 1, 3) := by decide +kernel
theorem dX5_crane_108 : decode cX5_crane 108 = .ok (.goto (-40), 3) := by decide +kernel
theorem dX5_crane_111 : decode cX5_crane 111 = .ok (.aload_n 0, 1) := by decide +kernel
theorem dX5_crane_112 : decode cX5_crane 112 = .ok (.getfield 7, 3) := by decide +kernel
theorem dX5_crane_115 : decode cX5_crane 115 = .ok (.iconst 0, 1) := by decide +kernel
theorem dX5_crane_116 : decode cX5_crane 116 = .ok (.iaload, 1) := by decide +kernel
theorem dX5_crane_117 : decode cX5_crane 117 = .ok (.bipush 8, 2) := by decide +kernel
theorem dX5_crane_119 : decode cX5_crane 119 = .ok (.if_icmp .ne 7, 3) := by decide +kernel
theorem dX5_crane_122 : decode cX5_crane 122 = .ok (.sipush (-1003), 3) := by decide +kernel
theorem dX5_crane_125 : decode cX5_crane 125 = .ok (.ireturn, 1) := by decide +kernel
theorem dX5_crane_126 : decode cX5_crane 126 = .ok (.aload_n 0, 1) := by decide +kernel
theorem dX5_crane_127 : decode cX5_crane 127 = .ok (.invokevirtual 91, 3) := by decide +kernel
theorem dX5_crane_130 : decode cX5_crane 130 = .ok (.iconst 4, 1) := by decide +kernel
theorem dX5_crane_131 : decode cX5_crane 131 = .ok (.bipush 6, 2) := by decide +kernel
theorem dX5_crane_133 : decode cX5_crane 133 = .ok (.aload_n 0, 1) := by decide +kernel
theorem dX5_crane_134 : decode cX5_crane 134 = .ok (.getfield 7, 3) := by decide +kernel
theorem dX5_crane_137 : decode cX5_crane 137 = .ok (.iconst 0, 1) := by decide +kernel
theorem dX5_crane_138 : decode cX5_crane 138 = .ok (.iaload, 1) := by decide +kernel
theorem dX5_crane_139 : decode cX5_crane 139 = .ok (.imul, 1) := by decide +kernel
theorem dX5_crane_140 : decode cX5_crane 140 = .ok (.iadd, 1) := by decide +kernel
theorem dX5_crane_141 : decode cX5_crane 141 = .ok (.istore 7, 2) := by decide +kernel
theorem dX5_crane_143 : decode cX5_crane 143 = .ok (.aload_n 0, 1) := by decide +kernel
theorem dX5_crane_144 : decode cX5_crane 144 = .ok (.getfield 7, 3) := by decide +kernel
theorem dX5_crane_147 : decode cX5_crane 147 = .ok (.iload 7, 2) := by decide +kernel
theorem dX5_crane_149 : decode cX5_crane 149 = .ok (.iload_n 1, 1) := by decide +kernel
theorem dX5_crane_150 : decode cX5_crane 150 = .ok (.iastore, 1) := by decide +kernel
theorem dX5_crane_151 : decode cX5_crane 151 = .ok (.aload_n 0, 1) := by decide +kernel
theorem dX5_crane_152 : decode cX5_crane 152 = .ok (.getfield 7, 3) := by decide +kernel
theorem dX5_crane_155 : decode cX5_crane 155 = .ok (.iload 7, 2) := by decide +kernel
theorem dX5_crane_157 : decode cX5_crane 157 = .ok (.iconst 1, 1) := by decide +kernel
theorem dX5_crane_158 : decode cX5_crane 158 = .ok (.iadd, 1) := by decide +kernel
theorem dX5_crane_159 : decode cX5_crane 159 = .ok (.iload_n 2, 1) := by decide +kernel
theorem dX5_crane_160 : decode cX5_crane 160 = .ok (.iastore, 1) := by decide +kernel
theorem dX5_crane_161 : decode cX5_crane 161 = .ok (.aload_n 0, 1) := by decide +kernel
theorem dX5_crane_162 : decode cX5_crane 162 = .ok (.getfield 7, 3) := by decide +kernel
theorem dX5_crane_165 : decode cX5_crane 165 = .ok (.iload 7, 2) := by decide +kernel
theorem dX5_crane_167 : decode cX5_crane 167 = .ok (.iconst 2, 1) := by decide +kernel
theorem dX5_crane_168 : decode cX5_crane 168 = .ok (.iadd, 1) := by decide +kernel
theorem dX5_crane_169 : decode cX5_crane 169 = .ok (.iload_n 3, 1) := by decide +kernel
theorem dX5_crane_170 : decode cX5_crane 170 = .ok (.iastore, 1) := by decide +kernel
theorem dX5_crane_171 : decode cX5_crane 171 = .ok (.aload_n 0, 1) := by decide +kernel
theorem dX5_crane_172 : decode cX5_crane 172 = .ok (.getfield 7, 3) := by decide +kernel
theorem dX5_crane_175 : decode cX5_crane 175 = .ok (.iload 7, 2) := by decide +kernel
theorem dX5_crane_177 : decode cX5_crane 177 = .ok (.iconst 3, 1) := by decide +kernel
theorem dX5_crane_178 : decode cX5_crane 178 = .ok (.iadd, 1) := by decide +kernel
theorem dX5_crane_179 : decode cX5_crane 179 = .ok (.iload 4, 2) := by decide +kernel
theorem dX5_crane_181 : decode cX5_crane 181 = .ok (.iastore, 1) := by decide +kernel
theorem dX5_crane_182 : decode cX5_crane 182 = .ok (.aload_n 0, 1) := by decide +kernel
theorem dX5_crane_183 : decode cX5_crane 183 = .ok (.getfield 7, 3) := by decide +kernel
theorem dX5_crane_186 : decode cX5_crane 186 = .ok (.iload 7, 2) := by decide +kernel
theorem dX5_crane_188 : decode cX5_crane 188 = .ok (.iconst 4, 1) := by decide +kernel
theorem dX5_crane_189 : decode cX5_crane 189 = .ok (.iadd, 1) := by decide +kernel
theorem dX5_crane_190 : decode cX5_crane 190 = .ok (.iload 5, 2) := by decide +kernel
theorem dX5_crane_192 : decode cX5_crane 192 = .ok (.iastore, 1) := by decide +kernel
theorem dX5_crane_193 : decode cX5_crane 193 = .ok (.aload_n 0, 1) := by decide +kernel
theorem dX5_crane_194 : decode cX5_crane 194 = .ok (.getfield 7, 3) := by decide +kernel
theorem dX5_crane_197 : decode cX5_crane 197 = .ok (.iload 7, 2) := by decide +kernel
theorem dX5_crane_199 : decode cX5_crane 199 = .ok (.iconst 5, 1) := by decide +kernel
theorem dX5_crane_200 : decode cX5_crane 200 = .ok (.iadd, 1) := by decide +kernel
theorem dX5_crane_201 : decode cX5_crane 201 = .ok (.iload 6, 2) := by decide +kernel
theorem dX5_crane_203 : decode cX5_crane 203 = .ok (.iastore, 1) := by decide +kernel
theorem dX5_crane_204 : decode cX5_crane 204 = .ok (.aload_n 0, 1) := by decide +kernel
theorem dX5_crane_205 : decode cX5_crane 205 = .ok (.getfield 7, 3) := by decide +kernel
theorem dX5_crane_208 : decode cX5_crane 208 = .ok (.iconst 0, 1) := by decide +kernel
theorem dX5_crane_209 : decode cX5_crane 209 = .ok (.dup2, 1) := by decide +kernel
theorem dX5_crane_210 : decode cX5_crane 210 = .ok (.iaload, 1) := by decide +kernel
theorem dX5_crane_211 : decode cX5_crane 211 = .ok (.iconst 1, 1) := by decide +kernel
theorem dX5_crane_212 : decode cX5_crane 212 = .ok (.iadd, 1) := by decide +kernel
theorem dX5_crane_213 : decode cX5_crane 213 = .ok (.iastore, 1) := by decide +kernel
theorem dX5_crane_214 : decode cX5_crane 214 = .ok (.aload_n 0, 1) := by decide +kernel
theorem dX5_crane_215 : decode cX5_crane 215 = .ok (.getfield 7, 3) := by decide +kernel
theorem dX5_crane_218 : decode cX5_crane 218 = .ok (.iconst 0, 1) := by decide +kernel
theorem dX5_crane_219 : decode cX5_crane 219 = .ok (.iaload, 1) := by decide +kernel
theorem dX5_crane_220 : decode cX5_crane 220 = .ok (.iconst 1, 1) := by decide +kernel
theorem dX5_crane_221 : decode cX5_crane 221 = .ok (.isub, 1) := by decide +kernel
theorem dX5_crane_222 : decode cX5_crane 222 = .ok (.ireturn, 1) := by decide +kernel
set_option maxRecDepth 20000 in
theorem ggX5_noise_X5_isCrane : GoodIn wsX5_noise wsX5_isCrane := goodIn_r _ [6, 1, 7, 8, 5, 9, 58, 59, 60, 61, 62, 63, 64, 65, 66] (by decide +kernel) (by decide +kernel)
set_option maxRecDepth 20000 in
theorem gX5_noise_X5_isCrane : GoodIn wsX5_noise (wsV RX5 94 RX5 yX5_isCrane wsX5_isCrane) := goodIn_app (goodIn_of _ (by decide +kernel)) ggX5_noise_X5_isCrane
set_option maxRecDepth 20000 in
theorem ggX5_noise_X5_in : GoodIn wsX5_noise wsX5_in := goodIn_r _ [9] (by decide +kernel) (by decide +kernel)
set_option maxRecDepth 20000 in
theorem gX5_noise_X5_in : GoodIn wsX5_noise (va_wsS RX5 26 yX5_in wsX5_in) := goodIn_app (goodIn_of _ (by decide +kernel)) ggX5_noise_X5_in
set_option maxRecDepth 20000 in
theorem ggX5_noise_X5_records : GoodIn wsX5_noise wsX5_records := goodIn_r _ [13, 14, 15, 1, 58, 59, 60, 61, 62, 63, 64, 65, 66] (by decide +kernel) (by decide +kernel)
set_option maxRecDepth 20000 in
theorem gX5_noise_X5_records : GoodIn wsX5_noise (wsV RX5 91 RX5 yX5_records wsX5_records) := goodIn_app (goodIn_of _ (by decide +kernel)) ggX5_noise_X5_records
set_option maxRecDepth 20000 in
theorem ggX5_noise_X5_savesAll : GoodIn wsX5_noise wsX5_savesAll := goodIn_r _ [19, 20, 21, 22, 5, 23, 1, 24, 25, 26, 27, 28, 29, 30, 31, 32, 33, 34, 35, 36, 37, 38, 39, 40, 41, 42, 43, 44, 45, 46, 47, 48, 49, 50, 51, 52, 53, 54, 55, 56, 57, 58, 59, 60, 61, 62, 63, 64, 65, 66] (by decide +kernel) (by decide +kernel)
set_option maxRecDepth 20000 in
theorem gX5_noise_X5_savesAll : GoodIn wsX5_noise (wsV RX5 97 RX5 yX5_savesAll wsX5_savesAll) := goodIn_app (goodIn_of _ (by decide +kernel)) ggX5_noise_X5_savesAll
theorem dX5_noise_0 : decode cX5_noise 0 = .ok (.aload_n 0, 1) := by decide +kernel
theorem dX5_noise_1 : decode cX5_noise 1 = .ok (.iload_n 1, 1) := by decide +kernel
theorem dX5_noise_2 : decode cX5_noise 2 = .ok (.invokevirtual 94, 3) := by decide +kernel
theorem dX5_noise_5 : decode cX5_noise 5 = .ok (.ifCond .eq 13, 3) := by decide +kernel
theorem dX5_noise_8 : decode cX5_noise 8 = .ok (.iload_n 2, 1) := by decide +kernel
theorem dX5_noise_9 : decode cX5_noise 9 = .ok (.iconst 1, 1) := by decide +kernel
theorem dX5_noise_10 : decode cX5_noise 10 = .ok (.bipush 9, 2) := by decide +kernel
theorem dX5_noise_12 : decode cX5_noise 12 = .ok (.invokestatic 26, 3) := by decide +kernel
theorem dX5_noise_15 : decode cX5_noise 15 = .ok (.ifCond .ne 7, 3) := by decide +kernel
theorem dX5_noise_18 : decode cX5_noise 18 = .ok (.sipush (-1001), 3) := by decide +kernel
theorem dX5_noise_21 : decode cX5_noise 21 = .ok (.ireturn, 1) := by decide +kernel
theorem dX5_noise_22 : decode cX5_noise 22 = .ok (.aload_n 0, 1) := by decide +kernel
theorem dX5_noise_23 : decode cX5_noise 23 = .ok (.invokevirtual 91, 3) := by decide +kernel
theorem dX5_noise_26 : decode cX5_noise 26 = .ok (.aload_n 0, 1) := by decide +kernel
theorem dX5_noise_27 : decode cX5_noise 27 = .ok (.getfield 7, 3) := by decide +kernel
theorem dX5_noise_30 : decode cX5_noise 30 = .ok (.iconst 4, 1) := by decide +kernel
theorem dX5_noise_31 : decode cX5_noise 31 = .ok (.bipush 6, 2) := by decide +kernel
theorem dX5_noise_33 : decode cX5_noise 33 = .ok (.iload_n 1, 1) := by decide +kernel
theorem dX5_noise_34 : decode cX5_noise 34 = .ok (.imul, 1) := by decide +kernel
theorem dX5_noise_35 : decode cX5_noise 35 = .ok (.iadd, 1) := by decide +kernel
theorem dX5_noise_36 : decode cX5_noise 36 = .ok (.iconst 5, 1) := by decide +kernel
theorem dX5_noise_37 : decode cX5_noise 37 = .ok (.iadd, 1) := by decide +kernel
theorem dX5_noise_38 : decode cX5_noise 38 = .ok (.iload_n 2, 1) := by decide +kernel
theorem dX5_noise_39 : decode cX5_noise 39 = .ok (.iastore, 1) := by decide +kernel
theorem dX5_noise_40 : decode cX5_noise 40 = .ok (.aload_n 0, 1) := by decide +kernel
theorem dX5_noise_41 : decode cX5_noise 41 = .ok (.invokevirtual 97, 3) := by decide +kernel
theorem dX5_noise_44 : decode cX5_noise 44 = .ok (.ireturn, 1) := by decide +kernel
set_option maxRecDepth 20000 in
theorem ggX5_valid_X5_of : GoodIn wsX5_valid wsX5_of := goodIn_r _ [6, 1, 7, 8, 9, 10, 11, 12, 13, 14, 15] (by decide +kernel) (by decide +kernel)
set_option maxRecDepth 20000 in
theorem gX5_valid_X5_of : GoodIn wsX5_valid (wsV RX5 45 RX5 yX5_of wsX5_of) := goodIn_app (goodIn_of _ (by decide +kernel)) ggX5_valid_X5_of
theorem dX5_valid_0 : decode cX5_valid 0 = .ok (.iconst 0, 1) := by decide +kernel
theorem dX5_valid_1 : decode cX5_valid 1 = .ok (.istore_n 2, 1) := by decide +kernel
theorem dX5_valid_2 : decode cX5_valid 2 = .ok (.iconst 0, 1) := by decide +kernel
theorem dX5_valid_3 : decode cX5_valid 3 = .ok (.istore_n 3, 1) := by decide +kernel
theorem dX5_valid_4 : decode cX5_valid 4 = .ok (.iload_n 3, 1) := by decide +kernel
theorem dX5_valid_5 : decode cX5_valid 5 = .ok (.aload_n 0, 1) := by decide +kernel
theorem dX5_valid_6 : decode cX5_valid 6 = .ok (.getfield 7, 3) := by decide +kernel
theorem dX5_valid_9 : decode cX5_valid 9 = .ok (.sipush 442, 3) := by decide +kernel
theorem dX5_valid_12 : decode cX5_valid 12 = .ok (.iaload, 1) := by decide +kernel
theorem dX5_valid_13 : decode cX5_valid 13 = .ok (.if_icmp .ge 42, 3) := by decide +kernel
theorem dX5_valid_16 : decode cX5_valid 16 = .ok (.iload_n 2, 1) := by decide +kernel
theorem dX5_valid_17 : decode cX5_valid 17 = .ok (.aload_n 0, 1) := by decide +kernel
theorem dX5_valid_18 : decode cX5_valid 18 = .ok (.iload_n 3, 1) := by decide +kernel
theorem dX5_valid_19 : decode cX5_valid 19 = .ok (.iconst 4, 1) := by decide +kernel
theorem dX5_valid_20 : decode cX5_valid 20 = .ok (.invokevirtual 45, 3) := by decide +kernel
theorem dX5_valid_23 : decode cX5_valid 23 = .ok (.iconst 1, 1) := by decide +kernel
theorem dX5_valid_24 : decode cX5_valid 24 = .ok (.if_icmp .ne 22, 3) := by decide +kernel
theorem dX5_valid_27 : decode cX5_valid 27 = .ok (.iload_n 1, 1) := by decide +kernel
theorem dX5_valid_28 : decode cX5_valid 28 = .ok (.iconst (-1), 1) := by decide +kernel
theorem dX5_valid_29 : decode cX5_valid 29 = .ok (.if_icmp .eq 13, 3) := by decide +kernel
theorem dX5_valid_32 : decode cX5_valid 32 = .ok (.aload_n 0, 1) := by decide +kernel
theorem dX5_valid_33 : decode cX5_valid 33 = .ok (.iload_n 3, 1) := by decide +kernel
theorem dX5_valid_34 : decode cX5_valid 34 = .ok (.iconst 0, 1) := by decide +kernel
theorem dX5_valid_35 : decode cX5_valid 35 = .ok (.invokevirtual 45, 3) := by decide +kernel
theorem dX5_valid_38 : decode cX5_valid 38 = .ok (.iload_n 1, 1) := by decide +kernel
theorem dX5_valid_39 : decode cX5_valid 39 = .ok (.if_icmp .ne 7, 3) := by decide +kernel
theorem dX5_valid_42 : decode cX5_valid 42 = .ok (.iconst 1, 1) := by decide +kernel
theorem dX5_valid_43 : decode cX5_valid 43 = .ok (.goto 4, 3) := by decide +kernel
theorem dX5_valid_46 : decode cX5_valid 46 = .ok (.iconst 0, 1) := by decide +kernel
theorem dX5_valid_47 : decode cX5_valid 47 = .ok (.iadd, 1) := by decide +kernel
theorem dX5_valid_48 : decode cX5_valid 48 = .ok (.istore_n 2, 1) := by decide +kernel
theorem dX5_valid_49 : decode cX5_valid 49 = .ok (.iinc 3 1, 3) := by decide +kernel
theorem dX5_valid_52 : decode cX5_valid 52 = .ok (.goto (-48), 3) := by decide +kernel
theorem dX5_valid_55 : decode cX5_valid 55 = .ok (.iload_n 2, 1) := by decide +kernel
theorem dX5_valid_56 : decode cX5_valid 56 = .ok (.ireturn, 1) := by decide +kernel
set_option maxRecDepth 20000 in
theorem ggX5_craneOf_X5_isCrane : GoodIn wsX5_craneOf wsX5_isCrane := goodIn_r _ [6, 1, 7, 8, 5, 9, 22, 23, 24, 25, 26, 27, 28, 29, 30] (by decide +kernel) (by decide +kernel)
set_option maxRecDepth 20000 in
theorem gX5_craneOf_X5_isCrane : GoodIn wsX5_craneOf (wsV RX5 94 RX5 yX5_isCrane wsX5_isCrane) := goodIn_app (goodIn_of _ (by decide +kernel)) ggX5_craneOf_X5_isCrane
set_option maxRecDepth 20000 in
theorem ggX5_craneOf_X5_in : GoodIn wsX5_craneOf wsX5_in := goodIn_r _ [9] (by decide +kernel) (by decide +kernel)
set_option maxRecDepth 20000 in
theorem gX5_craneOf_X5_in : GoodIn wsX5_craneOf (va_wsS RX5 26 yX5_in wsX5_in) := goodIn_app (goodIn_of _ (by decide +kernel)) ggX5_craneOf_X5_in
set_option maxRecDepth 20000 in
theorem ggX5_craneOf_X5_craned : GoodIn wsX5_craneOf wsX5_craned := goodIn_r _ [13, 1, 22, 23, 24, 25, 26, 27, 28, 29, 30] (by decide +kernel) (by decide +kernel)
set_option maxRecDepth 20000 in
theorem gX5_craneOf_X5_craned : GoodIn wsX5_craneOf (wsV RX5 34 RX5 yX5_craned wsX5_craned) := goodIn_app (goodIn_of _ (by decide +kernel)) ggX5_craneOf_X5_craned
set_option maxRecDepth 20000 in
theorem ggX5_craneOf_X5_valid : GoodIn wsX5_craneOf wsX5_valid := goodIn_r _ [17, 1, 18, 19, 20, 5, 21, 22, 23, 24, 25, 26, 27, 28, 29, 30] (by decide +kernel) (by decide +kernel)
set_option maxRecDepth 20000 in
theorem gX5_craneOf_X5_valid : GoodIn wsX5_craneOf (wsV RX5 101 RX5 yX5_valid wsX5_valid) := goodIn_app (goodIn_of _ (by decide +kernel)) ggX5_craneOf_X5_valid
theorem dX5_craneOf_0 : decode cX5_craneOf 0 = .ok (.aload_n 0, 1) := by decide +kernel
theorem dX5_craneOf_1 : decode cX5_craneOf 1 = .ok (.iload_n 1, 1) := by decide +kernel
theorem dX5_craneOf_2 : decode cX5_craneOf 2 = .ok (.invokevirtual 94, 3) := by decide +kernel
theorem dX5_craneOf_5 : decode cX5_craneOf 5 = .ok (.ifCond .eq 13, 3) := by decide +kernel
theorem dX5_craneOf_8 : decode cX5_craneOf 8 = .ok (.iload_n 2, 1) := by decide +kernel
theorem dX5_craneOf_9 : decode cX5_craneOf 9 = .ok (.iconst 0, 1) := by decide +kernel
theorem dX5_craneOf_10 : decode cX5_craneOf 10 = .ok (.bipush 7, 2) := by decide +kernel
theorem dX5_craneOf_12 : decode cX5_craneOf 12 = .ok (.invokestatic 26, 3) := by decide +kernel
theorem dX5_craneOf_15 : decode cX5_craneOf 15 = .ok (.ifCond .ne 7, 3) := by decide +kernel
theorem dX5_craneOf_18 : decode cX5_craneOf 18 = .ok (.sipush (-1001), 3) := by decide +kernel
theorem dX5_craneOf_21 : decode cX5_craneOf 21 = .ok (.ireturn, 1) := by decide +kernel
theorem dX5_craneOf_22 : decode cX5_craneOf 22 = .ok (.iload_n 2, 1) := by decide +kernel
theorem dX5_craneOf_23 : decode cX5_craneOf 23 = .ok (.bipush 6, 2) := by decide +kernel
theorem dX5_craneOf_25 : decode cX5_craneOf 25 = .ok (.if_icmp .ge 12, 3) := by decide +kernel
theorem dX5_craneOf_28 : decode cX5_craneOf 28 = .ok (.aload_n 0, 1) := by decide +kernel
theorem dX5_craneOf_29 : decode cX5_craneOf 29 = .ok (.iload_n 1, 1) := by decide +kernel
theorem dX5_craneOf_30 : decode cX5_craneOf 30 = .ok (.iload_n 2, 1) := by decide +kernel
theorem dX5_craneOf_31 : decode cX5_craneOf 31 = .ok (.invokevirtual 34, 3) := by decide +kernel
theorem dX5_craneOf_34 : decode cX5_craneOf 34 = .ok (.goto 32, 3) := by decide +kernel
theorem dX5_craneOf_37 : decode cX5_craneOf 37 = .ok (.iload_n 2, 1) := by decide +kernel
theorem dX5_craneOf_38 : decode cX5_craneOf 38 = .ok (.bipush 6, 2) := by decide +kernel
theorem dX5_craneOf_40 : decode cX5_craneOf 40 = .ok (.if_icmp .ne 11, 3) := by decide +kernel
theorem dX5_craneOf_43 : decode cX5_craneOf 43 = .ok (.aload_n 0, 1) := by decide +kernel
theorem dX5_craneOf_44 : decode cX5_craneOf 44 = .ok (.iload_n 1, 1) := by decide +kernel
theorem dX5_craneOf_45 : decode cX5_craneOf 45 = .ok (.invokevirtual 101, 3) := by decide +kernel
theorem dX5_craneOf_48 : decode cX5_craneOf 48 = .ok (.goto 18, 3) := by decide +kernel
theorem dX5_craneOf_51 : decode cX5_craneOf 51 = .ok (.aload_n 0, 1) := by decide +kernel
theorem dX5_craneOf_52 : decode cX5_craneOf 52 = .ok (.getfield 7, 3) := by decide +kernel
theorem dX5_craneOf_55 : decode cX5_craneOf 55 = .ok (.iconst 1, 1) := by decide +kernel
theorem dX5_craneOf_56 : decode cX5_craneOf 56 = .ok (.iaload, 1) := by decide +kernel
theorem dX5_craneOf_57 : decode cX5_craneOf 57 = .ok (.aload_n 0, 1) := by decide +kernel
theorem dX5_craneOf_58 : decode cX5_craneOf 58 = .ok (.iload_n 1, 1) := by decide +kernel
theorem dX5_craneOf_59 : decode cX5_craneOf 59 = .ok (.iconst 3, 1) := by decide +kernel
theorem dX5_craneOf_60 : decode cX5_craneOf 60 = .ok (.invokevirtual 34, 3) := by decide +kernel
theorem dX5_craneOf_63 : decode cX5_craneOf 63 = .ok (.iconst 2, 1) := by decide +kernel
theorem dX5_craneOf_64 : decode cX5_craneOf 64 = .ok (.idiv, 1) := by decide +kernel
theorem dX5_craneOf_65 : decode cX5_craneOf 65 = .ok (.isub, 1) := by decide +kernel
theorem dX5_craneOf_66 : decode cX5_craneOf 66 = .ok (.ireturn, 1) := by decide +kernel
set_option maxRecDepth 20000 in
theorem ggX5_set_X5_in : GoodIn wsX5_set wsX5_in := goodIn_r _ [5] (by decide +kernel) (by decide +kernel)
set_option maxRecDepth 20000 in
theorem gX5_set_X5_in : GoodIn wsX5_set (va_wsS RX5 26 yX5_in wsX5_in) := goodIn_app (goodIn_of _ (by decide +kernel)) ggX5_set_X5_in
set_option maxRecDepth 20000 in
theorem ggX5_set_X5_records : GoodIn wsX5_set wsX5_records := goodIn_r _ [9, 10, 11, 1, 62, 63, 64, 65, 66, 67, 68, 69, 70] (by decide +kernel) (by decide +kernel)
set_option maxRecDepth 20000 in
theorem gX5_set_X5_records : GoodIn wsX5_set (wsV RX5 91 RX5 yX5_records wsX5_records) := goodIn_app (goodIn_of _ (by decide +kernel)) ggX5_set_X5_records
set_option maxRecDepth 20000 in
theorem ggX5_set_X5_savesAll : GoodIn wsX5_set wsX5_savesAll := goodIn_r _ [15, 16, 17, 18, 4, 19, 1, 20, 21, 22, 23, 24, 25, 26, 27, 28, 29, 30, 31, 32, 33, 34, 35, 36, 37, 38, 39, 40, 41, 42, 43, 44, 45, 46, 47, 48, 49, 50, 51, 52, 53, 62, 63, 64, 65, 66, 67, 68, 69, 70] (by decide +kernel) (by decide +kernel)
set_option maxRecDepth 20000 in
theorem gX5_set_X5_savesAll : GoodIn wsX5_set (wsV RX5 97 RX5 yX5_savesAll wsX5_savesAll) := goodIn_app (goodIn_of _ (by decide +kernel)) ggX5_set_X5_savesAll
set_option maxRecDepth 20000 in
theorem ggX5_set_X5_calms : GoodIn wsX5_set wsX5_calms := goodIn_r _ [57, 1, 24, 25, 26, 4, 27, 58, 59, 60, 61, 28, 29, 30, 31, 62, 63, 64, 65, 66, 67, 68, 69, 70] (by decide +kernel) (by decide +kernel)
set_option maxRecDepth 20000 in
theorem gX5_set_X5_calms : GoodIn wsX5_set (wsV RX5 104 RX5 yX5_calms wsX5_calms) := goodIn_app (goodIn_of _ (by decide +kernel)) ggX5_set_X5_calms
theorem dX5_set_0 : decode cX5_set 0 = .ok (.iload_n 1, 1) := by decide +kernel
theorem dX5_set_1 : decode cX5_set 1 = .ok (.ifCond .ne 15, 3) := by decide +kernel
theorem dX5_set_4 : decode cX5_set 4 = .ok (.iload_n 2, 1) := by decide +kernel
theorem dX5_set_5 : decode cX5_set 5 = .ok (.bipush 50, 2) := by decide +kernel
theorem dX5_set_7 : decode cX5_set 7 = .ok (.sipush 150, 3) := by decide +kernel
theorem dX5_set_10 : decode cX5_set 10 = .ok (.invokestatic 26, 3) := by decide +kernel
theorem dX5_set_13 : decode cX5_set 13 = .ok (.goto 39, 3) := by decide +kernel
theorem dX5_set_16 : decode cX5_set 16 = .ok (.iload_n 1, 1) := by decide +kernel
theorem dX5_set_17 : decode cX5_set 17 = .ok (.iconst 1, 1) := by decide +kernel
theorem dX5_set_18 : decode cX5_set 18 = .ok (.if_icmp .ne 14, 3) := by decide +kernel
theorem dX5_set_21 : decode cX5_set 21 = .ok (.iload_n 2, 1) := by decide +kernel
theorem dX5_set_22 : decode cX5_set 22 = .ok (.iconst 0, 1) := by decide +kernel
theorem dX5_set_23 : decode cX5_set 23 = .ok (.sipush 200, 3) := by decide +kernel
theorem dX5_set_26 : decode cX5_set 26 = .ok (.invokestatic 26, 3) := by decide +kernel
theorem dX5_set_29 : decode cX5_set 29 = .ok (.goto 23, 3) := by decide +kernel
theorem dX5_set_32 : decode cX5_set 32 = .ok (.iload_n 1, 1) := by decide +kernel
theorem dX5_set_33 : decode cX5_set 33 = .ok (.iconst 2, 1) := by decide +kernel
theorem dX5_set_34 : decode cX5_set 34 = .ok (.if_icmp .ne 17, 3) := by decide +kernel
theorem dX5_set_37 : decode cX5_set 37 = .ok (.iload_n 2, 1) := by decide +kernel
theorem dX5_set_38 : decode cX5_set 38 = .ok (.iconst 0, 1) := by decide +kernel
theorem dX5_set_39 : decode cX5_set 39 = .ok (.bipush 50, 2) := by decide +kernel
theorem dX5_set_41 : decode cX5_set 41 = .ok (.invokestatic 26, 3) := by decide +kernel
theorem dX5_set_44 : decode cX5_set 44 = .ok (.ifCond .eq 7, 3) := by decide +kernel
theorem dX5_set_47 : decode cX5_set 47 = .ok (.iconst 1, 1) := by decide +kernel
theorem dX5_set_48 : decode cX5_set 48 = .ok (.goto 4, 3) := by decide +kernel
theorem dX5_set_51 : decode cX5_set 51 = .ok (.iconst 0, 1) := by decide +kernel
theorem dX5_set_52 : decode cX5_set 52 = .ok (.istore_n 3, 1) := by decide +kernel
theorem dX5_set_53 : decode cX5_set 53 = .ok (.iload_n 3, 1) := by decide +kernel
theorem dX5_set_54 : decode cX5_set 54 = .ok (.ifCond .ne 7, 3) := by decide +kernel
theorem dX5_set_57 : decode cX5_set 57 = .ok (.sipush (-1001), 3) := by decide +kernel
theorem dX5_set_60 : decode cX5_set 60 = .ok (.ireturn, 1) := by decide +kernel
theorem dX5_set_61 : decode cX5_set 61 = .ok (.aload_n 0, 1) := by decide +kernel
theorem dX5_set_62 : decode cX5_set 62 = .ok (.invokevirtual 91, 3) := by decide +kernel
theorem dX5_set_65 : decode cX5_set 65 = .ok (.aload_n 0, 1) := by decide +kernel
theorem dX5_set_66 : decode cX5_set 66 = .ok (.getfield 7, 3) := by decide +kernel
theorem dX5_set_69 : decode cX5_set 69 = .ok (.iconst 1, 1) := by decide +kernel
theorem dX5_set_70 : decode cX5_set 70 = .ok (.iload_n 1, 1) := by decide +kernel
theorem dX5_set_71 : decode cX5_set 71 = .ok (.iadd, 1) := by decide +kernel
theorem dX5_set_72 : decode cX5_set 72 = .ok (.iload_n 2, 1) := by decide +kernel
theorem dX5_set_73 : decode cX5_set 73 = .ok (.iastore, 1) := by decide +kernel
theorem dX5_set_74 : decode cX5_set 74 = .ok (.iload_n 1, 1) := by decide +kernel
theorem dX5_set_75 : decode cX5_set 75 = .ok (.iconst 1, 1) := by decide +kernel
theorem dX5_set_76 : decode cX5_set 76 = .ok (.if_icmp .ne 10, 3) := by decide +kernel
theorem dX5_set_79 : decode cX5_set 79 = .ok (.aload_n 0, 1) := by decide +kernel
theorem dX5_set_80 : decode cX5_set 80 = .ok (.invokevirtual 97, 3) := by decide +kernel
theorem dX5_set_83 : decode cX5_set 83 = .ok (.goto 4, 3) := by decide +kernel
theorem dX5_set_86 : decode cX5_set 86 = .ok (.iconst 0, 1) := by decide +kernel
theorem dX5_set_87 : decode cX5_set 87 = .ok (.istore 4, 2) := by decide +kernel
theorem dX5_set_89 : decode cX5_set 89 = .ok (.iconst 0, 1) := by decide +kernel
theorem dX5_set_90 : decode cX5_set 90 = .ok (.istore 5, 2) := by decide +kernel
theorem dX5_set_92 : decode cX5_set 92 = .ok (.iload 5, 2) := by decide +kernel
theorem dX5_set_94 : decode cX5_set 94 = .ok (.bipush 30, 2) := by decide +kernel
theorem dX5_set_96 : decode cX5_set 96 = .ok (.if_icmp .ge 24, 3) := by decide +kernel
theorem dX5_set_99 : decode cX5_set 99 = .ok (.iload_n 1, 1) := by decide +kernel
theorem dX5_set_100 : decode cX5_set 100 = .ok (.ifCond .ne 20, 3) := by decide +kernel
theorem dX5_set_103 : decode cX5_set 103 = .ok (.iload 4, 2) := by decide +kernel
theorem dX5_set_105 : decode cX5_set 105 = .ok (.aload_n 0, 1) := by decide +kernel
theorem dX5_set_106 : decode cX5_set 106 = .ok (.iload 5, 2) := by decide +kernel
theorem dX5_set_108 : decode cX5_set 108 = .ok (.invokevirtual 104, 3) := by decide +kernel
theorem dX5_set_111 : decode cX5_set 111 = .ok (.iadd, 1) := by decide +kernel
theorem dX5_set_112 : decode cX5_set 112 = .ok (.istore 4, 2) := by decide +kernel
theorem dX5_set_114 : decode cX5_set 114 = .ok (.iinc 5 1, 3) := by decide +kernel
theorem dX5_set_117 : decode cX5_set 117 = .ok (.goto (-25), 3) := by decide +kernel
theorem dX5_set_120 : decode cX5_set 120 = .ok (.iload 4, 2) := by decide +kernel
theorem dX5_set_122 : decode cX5_set 122 = .ok (.ireturn, 1) := by decide +kernel
set_option maxRecDepth 20000 in
theorem ggX5_wind_X5_isNight : GoodIn wsX5_wind wsX5_isNight := goodIn_r _ [5, 6, 7, 4, 8] (by decide +kernel) (by decide +kernel)
set_option maxRecDepth 20000 in
theorem gX5_wind_X5_isNight : GoodIn wsX5_wind (va_wsS RX5 107 yX5_isNight wsX5_isNight) := goodIn_app (goodIn_of _ (by decide +kernel)) ggX5_wind_X5_isNight
set_option maxRecDepth 20000 in
theorem ggX5_wind_X5_in : GoodIn wsX5_wind wsX5_in := goodIn_r _ [8] (by decide +kernel) (by decide +kernel)
set_option maxRecDepth 20000 in
theorem gX5_wind_X5_in : GoodIn wsX5_wind (va_wsS RX5 26 yX5_in wsX5_in) := goodIn_app (goodIn_of _ (by decide +kernel)) ggX5_wind_X5_in
set_option maxRecDepth 20000 in
theorem ggX5_wind_X5_records : GoodIn wsX5_wind wsX5_records := goodIn_r _ [12, 13, 14, 1, 31, 32, 33, 34, 35, 36, 37, 38, 39] (by decide +kernel) (by decide +kernel)
set_option maxRecDepth 20000 in
theorem gX5_wind_X5_records : GoodIn wsX5_wind (wsV RX5 91 RX5 yX5_records wsX5_records) := goodIn_app (goodIn_of _ (by decide +kernel)) ggX5_wind_X5_records
set_option maxRecDepth 20000 in
theorem ggX5_wind_X5_calms : GoodIn wsX5_wind wsX5_calms := goodIn_r _ [18, 1, 19, 20, 21, 4, 22, 23, 24, 25, 26, 27, 28, 29, 30, 31, 32, 33, 34, 35, 36, 37, 38, 39] (by decide +kernel) (by decide +kernel)
set_option maxRecDepth 20000 in
theorem gX5_wind_X5_calms : GoodIn wsX5_wind (wsV RX5 104 RX5 yX5_calms wsX5_calms) := goodIn_app (goodIn_of _ (by decide +kernel)) ggX5_wind_X5_calms
theorem dX5_wind_0 : decode cX5_wind 0 = .ok (.iload_n 1, 1) := by decide +kernel
theorem dX5_wind_1 : decode cX5_wind 1 = .ok (.invokestatic 107, 3) := by decide +kernel
theorem dX5_wind_4 : decode cX5_wind 4 = .ok (.ifCond .eq 13, 3) := by decide +kernel
theorem dX5_wind_7 : decode cX5_wind 7 = .ok (.iload_n 2, 1) := by decide +kernel
theorem dX5_wind_8 : decode cX5_wind 8 = .ok (.iconst 0, 1) := by decide +kernel
theorem dX5_wind_9 : decode cX5_wind 9 = .ok (.bipush 99, 2) := by decide +kernel
theorem dX5_wind_11 : decode cX5_wind 11 = .ok (.invokestatic 26, 3) := by decide +kernel
theorem dX5_wind_14 : decode cX5_wind 14 = .ok (.ifCond .ne 7, 3) := by decide +kernel
theorem dX5_wind_17 : decode cX5_wind 17 = .ok (.sipush (-1001), 3) := by decide +kernel
theorem dX5_wind_20 : decode cX5_wind 20 = .ok (.ireturn, 1) := by decide +kernel
theorem dX5_wind_21 : decode cX5_wind 21 = .ok (.aload_n 0, 1) := by decide +kernel
theorem dX5_wind_22 : decode cX5_wind 22 = .ok (.invokevirtual 91, 3) := by decide +kernel
theorem dX5_wind_25 : decode cX5_wind 25 = .ok (.aload_n 0, 1) := by decide +kernel
theorem dX5_wind_26 : decode cX5_wind 26 = .ok (.getfield 7, 3) := by decide +kernel
theorem dX5_wind_29 : decode cX5_wind 29 = .ok (.bipush 52, 2) := by decide +kernel
theorem dX5_wind_31 : decode cX5_wind 31 = .ok (.iload_n 1, 1) := by decide +kernel
theorem dX5_wind_32 : decode cX5_wind 32 = .ok (.iadd, 1) := by decide +kernel
theorem dX5_wind_33 : decode cX5_wind 33 = .ok (.iload_n 2, 1) := by decide +kernel
theorem dX5_wind_34 : decode cX5_wind 34 = .ok (.iastore, 1) := by decide +kernel
theorem dX5_wind_35 : decode cX5_wind 35 = .ok (.aload_n 0, 1) := by decide +kernel
theorem dX5_wind_36 : decode cX5_wind 36 = .ok (.iload_n 1, 1) := by decide +kernel
theorem dX5_wind_37 : decode cX5_wind 37 = .ok (.invokevirtual 104, 3) := by decide +kernel
theorem dX5_wind_40 : decode cX5_wind 40 = .ok (.ireturn, 1) := by decide +kernel
set_option maxRecDepth 20000 in
theorem ggX5_allow_X5_isStreet : GoodIn wsX5_allow wsX5_isStreet := goodIn_r _ [5, 6, 7, 4, 8] (by decide +kernel) (by decide +kernel)
set_option maxRecDepth 20000 in
theorem gX5_allow_X5_isStreet : GoodIn wsX5_allow (va_wsS RX5 87 yX5_isStreet wsX5_isStreet) := goodIn_app (goodIn_of _ (by decide +kernel)) ggX5_allow_X5_isStreet
set_option maxRecDepth 20000 in
theorem ggX5_allow_X5_isNight : GoodIn wsX5_allow wsX5_isNight := goodIn_r _ [11, 6, 7, 4, 8] (by decide +kernel) (by decide +kernel)
set_option maxRecDepth 20000 in
theorem gX5_allow_X5_isNight : GoodIn wsX5_allow (va_wsS RX5 107 yX5_isNight wsX5_isNight) := goodIn_app (goodIn_of _ (by decide +kernel)) ggX5_allow_X5_isNight
set_option maxRecDepth 20000 in
theorem ggX5_allow_X5_in : GoodIn wsX5_allow wsX5_in := goodIn_r _ [8] (by decide +kernel) (by decide +kernel)
set_option maxRecDepth 20000 in
theorem gX5_allow_X5_in : GoodIn wsX5_allow (va_wsS RX5 26 yX5_in wsX5_in) := goodIn_app (goodIn_of _ (by decide +kernel)) ggX5_allow_X5_in
set_option maxRecDepth 20000 in
theorem ggX5_allow_X5_records : GoodIn wsX5_allow wsX5_records := goodIn_r _ [15, 16, 17, 1, 56, 57, 58, 59, 60, 61, 62, 63, 64] (by decide +kernel) (by decide +kernel)
set_option maxRecDepth 20000 in
theorem gX5_allow_X5_records : GoodIn wsX5_allow (wsV RX5 91 RX5 yX5_records wsX5_records) := goodIn_app (goodIn_of _ (by decide +kernel)) ggX5_allow_X5_records
set_option maxRecDepth 20000 in
theorem ggX5_allow_X5_spot : GoodIn wsX5_allow wsX5_spot := goodIn_r _ [20] (by decide +kernel) (by decide +kernel)
set_option maxRecDepth 20000 in
theorem gX5_allow_X5_spot : GoodIn wsX5_allow (va_wsS RX5 59 yX5_spot wsX5_spot) := goodIn_app (goodIn_of _ (by decide +kernel)) ggX5_allow_X5_spot
set_option maxRecDepth 20000 in
theorem ggX5_allow_X5_saves : GoodIn wsX5_allow wsX5_saves := goodIn_r _ [24, 1, 25, 26, 27, 4, 28, 29, 30, 31, 32, 33, 34, 35, 36, 37, 38, 39, 40, 41, 42, 43, 44, 45, 46, 47, 48, 49, 50, 51, 18, 19, 20, 52, 53, 54, 55, 56, 57, 58, 59, 60, 61, 62, 63, 64] (by decide +kernel) (by decide +kernel)
set_option maxRecDepth 20000 in
theorem gX5_allow_X5_saves : GoodIn wsX5_allow (wsV RX5 84 RX5 yX5_saves wsX5_saves) := goodIn_app (goodIn_of _ (by decide +kernel)) ggX5_allow_X5_saves
theorem dX5_allow_0 : decode cX5_allow 0 = .ok (.iload_n 1, 1) := by decide +kernel
theorem dX5_allow_1 : decode cX5_allow 1 = .ok (.invokestatic 87, 3) := by decide +kernel
theorem dX5_allow_4 : decode cX5_allow 4 = .ok (.ifCond .eq 21, 3) := by decide +kernel
theorem dX5_allow_7 : decode cX5_allow 7 = .ok (.iload_n 2, 1) := by decide +kernel
theorem dX5_allow_8 : decode cX5_allow 8 = .ok (.invokestatic 107, 3) := by decide +kernel
theorem dX5_allow_11 : decode cX5_allow 11 = .ok (.ifCond .eq 14, 3) := by decide +kernel
theorem dX5_allow_14 : decode cX5_allow 14 = .ok (.iload_n 3, 1) := by decide +kernel
theorem dX5_allow_15 : decode cX5_allow 15 = .ok (.iconst 0, 1) := by decide +kernel
theorem dX5_allow_16 : decode cX5_allow 16 = .ok (.sipush 200, 3) := by decide +kernel
theorem dX5_allow_19 : decode cX5_allow 19 = .ok (.invokestatic 26, 3) := by decide +kernel
theorem dX5_allow_22 : decode cX5_allow 22 = .ok (.ifCond .ne 7, 3) := by decide +kernel
theorem dX5_allow_25 : decode cX5_allow 25 = .ok (.sipush (-1001), 3) := by decide +kernel
theorem dX5_allow_28 : decode cX5_allow 28 = .ok (.ireturn, 1) := by decide +kernel
theorem dX5_allow_29 : decode cX5_allow 29 = .ok (.aload_n 0, 1) := by decide +kernel
theorem dX5_allow_30 : decode cX5_allow 30 = .ok (.invokevirtual 91, 3) := by decide +kernel
theorem dX5_allow_33 : decode cX5_allow 33 = .ok (.aload_n 0, 1) := by decide +kernel
theorem dX5_allow_34 : decode cX5_allow 34 = .ok (.getfield 7, 3) := by decide +kernel
theorem dX5_allow_37 : decode cX5_allow 37 = .ok (.bipush 82, 2) := by decide +kernel
theorem dX5_allow_39 : decode cX5_allow 39 = .ok (.iload_n 1, 1) := by decide +kernel
theorem dX5_allow_40 : decode cX5_allow 40 = .ok (.iload_n 2, 1) := by decide +kernel
theorem dX5_allow_41 : decode cX5_allow 41 = .ok (.invokestatic 59, 3) := by decide +kernel
theorem dX5_allow_44 : decode cX5_allow 44 = .ok (.iadd, 1) := by decide +kernel
theorem dX5_allow_45 : decode cX5_allow 45 = .ok (.iload_n 3, 1) := by decide +kernel
theorem dX5_allow_46 : decode cX5_allow 46 = .ok (.iastore, 1) := by decide +kernel
theorem dX5_allow_47 : decode cX5_allow 47 = .ok (.aload_n 0, 1) := by decide +kernel
theorem dX5_allow_48 : decode cX5_allow 48 = .ok (.iload_n 1, 1) := by decide +kernel
theorem dX5_allow_49 : decode cX5_allow 49 = .ok (.iload_n 2, 1) := by decide +kernel
theorem dX5_allow_50 : decode cX5_allow 50 = .ok (.invokevirtual 84, 3) := by decide +kernel
theorem dX5_allow_53 : decode cX5_allow 53 = .ok (.ireturn, 1) := by decide +kernel
set_option maxRecDepth 20000 in
theorem ggX5_transfer_X5_isStreet : GoodIn wsX5_transfer wsX5_isStreet := goodIn_r _ [5, 6, 7, 4, 8] (by decide +kernel) (by decide +kernel)
set_option maxRecDepth 20000 in
theorem gX5_transfer_X5_isStreet : GoodIn wsX5_transfer (va_wsS RX5 87 yX5_isStreet wsX5_isStreet) := goodIn_app (goodIn_of _ (by decide +kernel)) ggX5_transfer_X5_isStreet
set_option maxRecDepth 20000 in
theorem ggX5_transfer_X5_isNight : GoodIn wsX5_transfer wsX5_isNight := goodIn_r _ [11, 6, 7, 4, 8] (by decide +kernel) (by decide +kernel)
set_option maxRecDepth 20000 in
theorem gX5_transfer_X5_isNight : GoodIn wsX5_transfer (va_wsS RX5 107 yX5_isNight wsX5_isNight) := goodIn_app (goodIn_of _ (by decide +kernel)) ggX5_transfer_X5_isNight
set_option maxRecDepth 20000 in
theorem ggX5_transfer_X5_in : GoodIn wsX5_transfer wsX5_in := goodIn_r _ [8] (by decide +kernel) (by decide +kernel)
set_option maxRecDepth 20000 in
theorem gX5_transfer_X5_in : GoodIn wsX5_transfer (va_wsS RX5 26 yX5_in wsX5_in) := goodIn_app (goodIn_of _ (by decide +kernel)) ggX5_transfer_X5_in
set_option maxRecDepth 20000 in
theorem ggX5_transfer_X5_credits : GoodIn wsX5_transfer wsX5_credits := goodIn_r _ [15, 1, 16, 17, 4, 18, 19, 20, 21, 22, 52, 53, 54, 55, 56, 57, 58, 59, 60] (by decide +kernel) (by decide +kernel)
set_option maxRecDepth 20000 in
theorem gX5_transfer_X5_credits : GoodIn wsX5_transfer (wsV RX5 81 RX5 yX5_credits wsX5_credits) := goodIn_app (goodIn_of _ (by decide +kernel)) ggX5_transfer_X5_credits
set_option maxRecDepth 20000 in
theorem ggX5_transfer_X5_used : GoodIn wsX5_transfer wsX5_used := goodIn_r _ [26, 1, 27, 28, 29, 4, 30, 31, 32, 33, 34, 35, 36, 37, 38, 39, 40, 41, 42, 43, 44, 45, 52, 53, 54, 55, 56, 57, 58, 59, 60] (by decide +kernel) (by decide +kernel)
set_option maxRecDepth 20000 in
theorem gX5_transfer_X5_used : GoodIn wsX5_transfer (wsV RX5 78 RX5 yX5_used wsX5_used) := goodIn_app (goodIn_of _ (by decide +kernel)) ggX5_transfer_X5_used
set_option maxRecDepth 20000 in
theorem ggX5_transfer_X5_records : GoodIn wsX5_transfer wsX5_records := goodIn_r _ [49, 50, 51, 1, 52, 53, 54, 55, 56, 57, 58, 59, 60] (by decide +kernel) (by decide +kernel)
set_option maxRecDepth 20000 in
theorem gX5_transfer_X5_records : GoodIn wsX5_transfer (wsV RX5 91 RX5 yX5_records wsX5_records) := goodIn_app (goodIn_of _ (by decide +kernel)) ggX5_transfer_X5_records
set_option maxRecDepth 20000 in
theorem ggX5_transfer_X5_spot : GoodIn wsX5_transfer wsX5_spot := goodIn_r _ [18] (by decide +kernel) (by decide +kernel)
set_option maxRecDepth 20000 in
theorem gX5_transfer_X5_spot : GoodIn wsX5_transfer (va_wsS RX5 59 yX5_spot wsX5_spot) := goodIn_app (goodIn_of _ (by decide +kernel)) ggX5_transfer_X5_spot
theorem dX5_transfer_0 : decode cX5_transfer 0 = .ok (.iload_n 1, 1) := by decide +kernel
theorem dX5_transfer_1 : decode cX5_transfer 1 = .ok (.invokestatic 87, 3) := by decide +kernel
theorem dX5_transfer_4 : decode cX5_transfer 4 = .ok (.ifCond .eq 34, 3) := by decide +kernel
theorem dX5_transfer_7 : decode cX5_transfer 7 = .ok (.iload_n 2, 1) := by decide +kernel
theorem dX5_transfer_8 : decode cX5_transfer 8 = .ok (.invokestatic 87, 3) := by decide +kernel
theorem dX5_transfer_11 : decode cX5_transfer 11 = .ok (.ifCond .eq 27, 3) := by decide +kernel
theorem dX5_transfer_14 : decode cX5_transfer 14 = .ok (.iload_n 1, 1) := by decide +kernel
theorem dX5_transfer_15 : decode cX5_transfer 15 = .ok (.iload_n 2, 1) := by decide +kernel
theorem dX5_transfer_16 : decode cX5_transfer 16 = .ok (.if_icmp .eq 22, 3) := by decide +kernel
theorem dX5_transfer_19 : decode cX5_transfer 19 = .ok (.iload_n 3, 1) := by decide +kernel
theorem dX5_transfer_20 : decode cX5_transfer 20 = .ok (.invokestatic 107, 3) := by decide +kernel
theorem dX5_transfer_23 : decode cX5_transfer 23 = .ok (.ifCond .eq 15, 3) := by decide +kernel
theorem dX5_transfer_26 : decode cX5_transfer 26 = .ok (.iload 4, 2) := by decide +kernel
theorem dX5_transfer_28 : decode cX5_transfer 28 = .ok (.iconst 1, 1) := by decide +kernel
theorem dX5_transfer_29 : decode cX5_transfer 29 = .ok (.sipush 200, 3) := by decide +kernel
theorem dX5_transfer_32 : decode cX5_transfer 32 = .ok (.invokestatic 26, 3) := by decide +kernel
theorem dX5_transfer_35 : decode cX5_transfer 35 = .ok (.ifCond .ne 7, 3) := by decide +kernel
theorem dX5_transfer_38 : decode cX5_transfer 38 = .ok (.sipush (-1001), 3) := by decide +kernel
theorem dX5_transfer_41 : decode cX5_transfer 41 = .ok (.ireturn, 1) := by decide +kernel
theorem dX5_transfer_42 : decode cX5_transfer 42 = .ok (.aload_n 0, 1) := by decide +kernel
theorem dX5_transfer_43 : decode cX5_transfer 43 = .ok (.iload_n 1, 1) := by decide +kernel
theorem dX5_transfer_44 : decode cX5_transfer 44 = .ok (.iload_n 3, 1) := by decide +kernel
theorem dX5_transfer_45 : decode cX5_transfer 45 = .ok (.invokevirtual 81, 3) := by decide +kernel
theorem dX5_transfer_48 : decode cX5_transfer 48 = .ok (.aload_n 0, 1) := by decide +kernel
theorem dX5_transfer_49 : decode cX5_transfer 49 = .ok (.iload_n 1, 1) := by decide +kernel
theorem dX5_transfer_50 : decode cX5_transfer 50 = .ok (.iload_n 3, 1) := by decide +kernel
theorem dX5_transfer_51 : decode cX5_transfer 51 = .ok (.invokevirtual 78, 3) := by decide +kernel
theorem dX5_transfer_54 : decode cX5_transfer 54 = .ok (.isub, 1) := by decide +kernel
theorem dX5_transfer_55 : decode cX5_transfer 55 = .ok (.istore 5, 2) := by decide +kernel
theorem dX5_transfer_57 : decode cX5_transfer 57 = .ok (.iload 5, 2) := by decide +kernel
theorem dX5_transfer_59 : decode cX5_transfer 59 = .ok (.iload 4, 2) := by decide +kernel
theorem dX5_transfer_61 : decode cX5_transfer 61 = .ok (.if_icmp .ge 7, 3) := by decide +kernel
theorem dX5_transfer_64 : decode cX5_transfer 64 = .ok (.sipush (-1002), 3) := by decide +kernel
theorem dX5_transfer_67 : decode cX5_transfer 67 = .ok (.ireturn, 1) := by decide +kernel
theorem dX5_transfer_68 : decode cX5_transfer 68 = .ok (.aload_n 0, 1) := by decide +kernel
theorem dX5_transfer_69 : decode cX5_transfer 69 = .ok (.invokevirtual 91, 3) := by decide +kernel
theorem dX5_transfer_72 : decode cX5_transfer 72 = .ok (.aload_n 0, 1) := by decide +kernel
theorem dX5_transfer_73 : decode cX5_transfer 73 = .ok (.getfield 7, 3) := by decide +kernel
theorem dX5_transfer_76 : decode cX5_transfer 76 = .ok (.sipush 322, 3) := by decide +kernel
theorem dX5_transfer_79 : decode cX5_transfer 79 = .ok (.iload_n 1, 1) := by decide +kernel
theorem dX5_transfer_80 : decode cX5_transfer 80 = .ok (.iload_n 3, 1) := by decide +kernel
theorem dX5_transfer_81 : decode cX5_transfer 81 = .ok (.invokestatic 59, 3) := by decide +kernel
theorem dX5_transfer_84 : decode cX5_transfer 84 = .ok (.iadd, 1) := by decide +kernel
theorem dX5_transfer_85 : decode cX5_transfer 85 = .ok (.dup2, 1) := by decide +kernel
theorem dX5_transfer_86 : decode cX5_transfer 86 = .ok (.iaload, 1) := by decide +kernel
theorem dX5_transfer_87 : decode cX5_transfer 87 = .ok (.iload 4, 2) := by decide +kernel
theorem dX5_transfer_89 : decode cX5_transfer 89 = .ok (.iadd, 1) := by decide +kernel
theorem dX5_transfer_90 : decode cX5_transfer 90 = .ok (.iastore, 1) := by decide +kernel
theorem dX5_transfer_91 : decode cX5_transfer 91 = .ok (.aload_n 0, 1) := by decide +kernel
theorem dX5_transfer_92 : decode cX5_transfer 92 = .ok (.getfield 7, 3) := by decide +kernel
theorem dX5_transfer_95 : decode cX5_transfer 95 = .ok (.sipush 202, 3) := by decide +kernel
theorem dX5_transfer_98 : decode cX5_transfer 98 = .ok (.iload_n 2, 1) := by decide +kernel
theorem dX5_transfer_99 : decode cX5_transfer 99 = .ok (.iload_n 3, 1) := by decide +kernel
theorem dX5_transfer_100 : decode cX5_transfer 100 = .ok (.invokestatic 59, 3) := by decide +kernel
theorem dX5_transfer_103 : decode cX5_transfer 103 = .ok (.iadd, 1) := by decide +kernel
theorem dX5_transfer_104 : decode cX5_transfer 104 = .ok (.dup2, 1) := by decide +kernel
theorem dX5_transfer_105 : decode cX5_transfer 105 = .ok (.iaload, 1) := by decide +kernel
theorem dX5_transfer_106 : decode cX5_transfer 106 = .ok (.iload 4, 2) := by decide +kernel
theorem dX5_transfer_108 : decode cX5_transfer 108 = .ok (.iadd, 1) := by decide +kernel
theorem dX5_transfer_109 : decode cX5_transfer 109 = .ok (.iastore, 1) := by decide +kernel
theorem dX5_transfer_110 : decode cX5_transfer 110 = .ok (.iload 5, 2) := by decide +kernel
theorem dX5_transfer_112 : decode cX5_transfer 112 = .ok (.iload 4, 2) := by decide +kernel
theorem dX5_transfer_114 : decode cX5_transfer 114 = .ok (.isub, 1) := by decide +kernel
theorem dX5_transfer_115 : decode cX5_transfer 115 = .ok (.ireturn, 1) := by decide +kernel
set_option maxRecDepth 20000 in
theorem ggX5_validOf_X5_isOf : GoodIn wsX5_validOf wsX5_isOf := goodIn_r _ [6, 7, 8, 9, 5, 10, 1, 11, 12, 13, 14, 15, 16, 17, 18, 19, 20, 21, 22, 23] (by decide +kernel) (by decide +kernel)
set_option maxRecDepth 20000 in
theorem gX5_validOf_X5_isOf : GoodIn wsX5_validOf (wsV RX5 69 RX5 yX5_isOf wsX5_isOf) := goodIn_app (goodIn_of _ (by decide +kernel)) ggX5_validOf_X5_isOf
theorem dX5_validOf_0 : decode cX5_validOf 0 = .ok (.iconst 0, 1) := by decide +kernel
theorem dX5_validOf_1 : decode cX5_validOf 1 = .ok (.istore_n 3, 1) := by decide +kernel
theorem dX5_validOf_2 : decode cX5_validOf 2 = .ok (.iconst 0, 1) := by decide +kernel
theorem dX5_validOf_3 : decode cX5_validOf 3 = .ok (.istore 4, 2) := by decide +kernel
theorem dX5_validOf_5 : decode cX5_validOf 5 = .ok (.iload 4, 2) := by decide +kernel
theorem dX5_validOf_7 : decode cX5_validOf 7 = .ok (.aload_n 0, 1) := by decide +kernel
theorem dX5_validOf_8 : decode cX5_validOf 8 = .ok (.getfield 7, 3) := by decide +kernel
theorem dX5_validOf_11 : decode cX5_validOf 11 = .ok (.sipush 442, 3) := by decide +kernel
theorem dX5_validOf_14 : decode cX5_validOf 14 = .ok (.iaload, 1) := by decide +kernel
theorem dX5_validOf_15 : decode cX5_validOf 15 = .ok (.if_icmp .ge 28, 3) := by decide +kernel
theorem dX5_validOf_18 : decode cX5_validOf 18 = .ok (.iload_n 3, 1) := by decide +kernel
theorem dX5_validOf_19 : decode cX5_validOf 19 = .ok (.aload_n 0, 1) := by decide +kernel
theorem dX5_validOf_20 : decode cX5_validOf 20 = .ok (.iload 4, 2) := by decide +kernel
theorem dX5_validOf_22 : decode cX5_validOf 22 = .ok (.iload_n 1, 1) := by decide +kernel
theorem dX5_validOf_23 : decode cX5_validOf 23 = .ok (.iload_n 2, 1) := by decide +kernel
theorem dX5_validOf_24 : decode cX5_validOf 24 = .ok (.invokevirtual 69, 3) := by decide +kernel
theorem dX5_validOf_27 : decode cX5_validOf 27 = .ok (.ifCond .eq 7, 3) := by decide +kernel
theorem dX5_validOf_30 : decode cX5_validOf 30 = .ok (.iconst 1, 1) := by decide +kernel
theorem dX5_validOf_31 : decode cX5_validOf 31 = .ok (.goto 4, 3) := by decide +kernel
theorem dX5_validOf_34 : decode cX5_validOf 34 = .ok (.iconst 0, 1) := by decide +kernel
theorem dX5_validOf_35 : decode cX5_validOf 35 = .ok (.iadd, 1) := by decide +kernel
theorem dX5_validOf_36 : decode cX5_validOf 36 = .ok (.istore_n 3, 1) := by decide +kernel
theorem dX5_validOf_37 : decode cX5_validOf 37 = .ok (.iinc 4 1, 3) := by decide +kernel
theorem dX5_validOf_40 : decode cX5_validOf 40 = .ok (.goto (-35), 3) := by decide +kernel
theorem dX5_validOf_43 : decode cX5_validOf 43 = .ok (.iload_n 3, 1) := by decide +kernel
theorem dX5_validOf_44 : decode cX5_validOf 44 = .ok (.ireturn, 1) := by decide +kernel
set_option maxRecDepth 20000 in
theorem ggX5_street_X5_isStreet : GoodIn wsX5_street wsX5_isStreet := goodIn_r _ [5, 6, 7, 4, 8] (by decide +kernel) (by decide +kernel)
set_option maxRecDepth 20000 in
theorem gX5_street_X5_isStreet : GoodIn wsX5_street (va_wsS RX5 87 yX5_isStreet wsX5_isStreet) := goodIn_app (goodIn_of _ (by decide +kernel)) ggX5_street_X5_isStreet
set_option maxRecDepth 20000 in
theorem ggX5_street_X5_isNight : GoodIn wsX5_street wsX5_isNight := goodIn_r _ [11, 6, 7, 4, 8] (by decide +kernel) (by decide +kernel)
set_option maxRecDepth 20000 in
theorem gX5_street_X5_isNight : GoodIn wsX5_street (va_wsS RX5 107 yX5_isNight wsX5_isNight) := goodIn_app (goodIn_of _ (by decide +kernel)) ggX5_street_X5_isNight
set_option maxRecDepth 20000 in
theorem ggX5_street_X5_in : GoodIn wsX5_street wsX5_in := goodIn_r _ [8] (by decide +kernel) (by decide +kernel)
set_option maxRecDepth 20000 in
theorem gX5_street_X5_in : GoodIn wsX5_street (va_wsS RX5 26 yX5_in wsX5_in) := goodIn_app (goodIn_of _ (by decide +kernel)) ggX5_street_X5_in
set_option maxRecDepth 20000 in
theorem ggX5_street_X5_allowed : GoodIn wsX5_street wsX5_allowed := goodIn_r _ [15, 1, 16, 17, 4, 18, 50, 51, 52, 53, 54, 55, 56, 57, 58] (by decide +kernel) (by decide +kernel)
set_option maxRecDepth 20000 in
theorem gX5_street_X5_allowed : GoodIn wsX5_street (wsV RX5 62 RX5 yX5_allowed wsX5_allowed) := goodIn_app (goodIn_of _ (by decide +kernel)) ggX5_street_X5_allowed
set_option maxRecDepth 20000 in
theorem ggX5_street_X5_spot : GoodIn wsX5_street wsX5_spot := goodIn_r _ [18] (by decide +kernel) (by decide +kernel)
set_option maxRecDepth 20000 in
theorem gX5_street_X5_spot : GoodIn wsX5_street (va_wsS RX5 59 yX5_spot wsX5_spot) := goodIn_app (goodIn_of _ (by decide +kernel)) ggX5_street_X5_spot
set_option maxRecDepth 20000 in
theorem ggX5_street_X5_credits : GoodIn wsX5_street wsX5_credits := goodIn_r _ [22, 1, 16, 17, 4, 18, 12, 13, 14, 15, 50, 51, 52, 53, 54, 55, 56, 57, 58] (by decide +kernel) (by decide +kernel)
set_option maxRecDepth 20000 in
theorem gX5_street_X5_credits : GoodIn wsX5_street (wsV RX5 81 RX5 yX5_credits wsX5_credits) := goodIn_app (goodIn_of _ (by decide +kernel)) ggX5_street_X5_credits
set_option maxRecDepth 20000 in
theorem ggX5_street_X5_used : GoodIn wsX5_street wsX5_used := goodIn_r _ [26, 1, 27, 28, 29, 4, 30, 31, 32, 33, 34, 35, 36, 37, 38, 39, 40, 41, 42, 43, 44, 45, 50, 51, 52, 53, 54, 55, 56, 57, 58] (by decide +kernel) (by decide +kernel)
set_option maxRecDepth 20000 in
theorem gX5_street_X5_used : GoodIn wsX5_street (wsV RX5 78 RX5 yX5_used wsX5_used) := goodIn_app (goodIn_of _ (by decide +kernel)) ggX5_street_X5_used
set_option maxRecDepth 20000 in
theorem ggX5_street_X5_validOf : GoodIn wsX5_street wsX5_validOf := goodIn_r _ [49, 1, 27, 28, 29, 4, 30, 31, 32, 33, 34, 35, 36, 37, 38, 50, 51, 52, 53, 54, 55, 56, 57, 58] (by decide +kernel) (by decide +kernel)
set_option maxRecDepth 20000 in
theorem gX5_street_X5_validOf : GoodIn wsX5_street (wsV RX5 110 RX5 yX5_validOf wsX5_validOf) := goodIn_app (goodIn_of _ (by decide +kernel)) ggX5_street_X5_validOf
theorem dX5_street_0 : decode cX5_street 0 = .ok (.iload_n 1, 1) := by decide +kernel
theorem dX5_street_1 : decode cX5_street 1 = .ok (.invokestatic 87, 3) := by decide +kernel
theorem dX5_street_4 : decode cX5_street 4 = .ok (.ifCond .eq 20, 3) := by decide +kernel
theorem dX5_street_7 : decode cX5_street 7 = .ok (.iload_n 2, 1) := by decide +kernel
theorem dX5_street_8 : decode cX5_street 8 = .ok (.invokestatic 107, 3) := by decide +kernel
theorem dX5_street_11 : decode cX5_street 11 = .ok (.ifCond .eq 13, 3) := by decide +kernel
theorem dX5_street_14 : decode cX5_street 14 = .ok (.iload_n 3, 1) := by decide +kernel
theorem dX5_street_15 : decode cX5_street 15 = .ok (.iconst 0, 1) := by decide +kernel
theorem dX5_street_16 : decode cX5_street 16 = .ok (.bipush 6, 2) := by decide +kernel
theorem dX5_street_18 : decode cX5_street 18 = .ok (.invokestatic 26, 3) := by decide +kernel
theorem dX5_street_21 : decode cX5_street 21 = .ok (.ifCond .ne 7, 3) := by decide +kernel
theorem dX5_street_24 : decode cX5_street 24 = .ok (.sipush (-1001), 3) := by decide +kernel
theorem dX5_street_27 : decode cX5_street 27 = .ok (.ireturn, 1) := by decide +kernel
theorem dX5_street_28 : decode cX5_street 28 = .ok (.iload_n 3, 1) := by decide +kernel
theorem dX5_street_29 : decode cX5_street 29 = .ok (.tableswitch 97 0 5 #[39, 46, 61, 76, 83, 90], 39) := by decide +kernel
theorem dX5_street_68 : decode cX5_street 68 = .ok (.aload_n 0, 1) := by decide +kernel
theorem dX5_street_69 : decode cX5_street 69 = .ok (.iload_n 1, 1) := by decide +kernel
theorem dX5_street_70 : decode cX5_street 70 = .ok (.iload_n 2, 1) := by decide +kernel
theorem dX5_street_71 : decode cX5_street 71 = .ok (.invokevirtual 62, 3) := by decide +kernel
theorem dX5_street_74 : decode cX5_street 74 = .ok (.ireturn, 1) := by decide +kernel
theorem dX5_street_75 : decode cX5_street 75 = .ok (.aload_n 0, 1) := by decide +kernel
theorem dX5_street_76 : decode cX5_street 76 = .ok (.getfield 7, 3) := by decide +kernel
theorem dX5_street_79 : decode cX5_street 79 = .ok (.sipush 202, 3) := by decide +kernel
theorem dX5_street_82 : decode cX5_street 82 = .ok (.iload_n 1, 1) := by decide +kernel
theorem dX5_street_83 : decode cX5_street 83 = .ok (.iload_n 2, 1) := by decide +kernel
theorem dX5_street_84 : decode cX5_street 84 = .ok (.invokestatic 59, 3) := by decide +kernel
theorem dX5_street_87 : decode cX5_street 87 = .ok (.iadd, 1) := by decide +kernel
theorem dX5_street_88 : decode cX5_street 88 = .ok (.iaload, 1) := by decide +kernel
theorem dX5_street_89 : decode cX5_street 89 = .ok (.ireturn, 1) := by decide +kernel
theorem dX5_street_90 : decode cX5_street 90 = .ok (.aload_n 0, 1) := by decide +kernel
theorem dX5_street_91 : decode cX5_street 91 = .ok (.getfield 7, 3) := by decide +kernel
theorem dX5_street_94 : decode cX5_street 94 = .ok (.sipush 322, 3) := by decide +kernel
theorem dX5_street_97 : decode cX5_street 97 = .ok (.iload_n 1, 1) := by decide +kernel
theorem dX5_street_98 : decode cX5_street 98 = .ok (.iload_n 2, 1) := by decide +kernel
theorem dX5_street_99 : decode cX5_street 99 = .ok (.invokestatic 59, 3) := by decide +kernel
theorem dX5_street_102 : decode cX5_street 102 = .ok (.iadd, 1) := by decide +kernel
theorem dX5_street_103 : decode cX5_street 103 = .ok (.iaload, 1) := by decide +kernel
theorem dX5_street_104 : decode cX5_street 104 = .ok (.ireturn, 1) := by decide +kernel
theorem dX5_street_105 : decode cX5_street 105 = .ok (.aload_n 0, 1) := by decide +kernel
theorem dX5_street_106 : decode cX5_street 106 = .ok (.iload_n 1, 1) := by decide +kernel
theorem dX5_street_107 : decode cX5_street 107 = .ok (.iload_n 2, 1) := by decide +kernel
theorem dX5_street_108 : decode cX5_street 108 = .ok (.invokevirtual 81, 3) := by decide +kernel
theorem dX5_street_111 : decode cX5_street 111 = .ok (.ireturn, 1) := by decide +kernel
theorem dX5_street_112 : decode cX5_street 112 = .ok (.aload_n 0, 1) := by decide +kernel
theorem dX5_street_113 : decode cX5_street 113 = .ok (.iload_n 1, 1) := by decide +kernel
theorem dX5_street_114 : decode cX5_street 114 = .ok (.iload_n 2, 1) := by decide +kernel
theorem dX5_street_115 : decode cX5_street 115 = .ok (.invokevirtual 78, 3) := by decide +kernel
theorem dX5_street_118 : decode cX5_street 118 = .ok (.ireturn, 1) := by decide +kernel
theorem dX5_street_119 : decode cX5_street 119 = .ok (.aload_n 0, 1) := by decide +kernel
theorem dX5_street_120 : decode cX5_street 120 = .ok (.iload_n 1, 1) := by decide +kernel
theorem dX5_street_121 : decode cX5_street 121 = .ok (.iload_n 2, 1) := by decide +kernel
theorem dX5_street_122 : decode cX5_street 122 = .ok (.invokevirtual 110, 3) := by decide +kernel
theorem dX5_street_125 : decode cX5_street 125 = .ok (.ireturn, 1) := by decide +kernel
theorem dX5_street_126 : decode cX5_street 126 = .ok (.aload_n 0, 1) := by decide +kernel
theorem dX5_street_127 : decode cX5_street 127 = .ok (.getfield 7, 3) := by decide +kernel
theorem dX5_street_130 : decode cX5_street 130 = .ok (.bipush 52, 2) := by decide +kernel
theorem dX5_street_132 : decode cX5_street 132 = .ok (.iload_n 2, 1) := by decide +kernel
theorem dX5_street_133 : decode cX5_street 133 = .ok (.iadd, 1) := by decide +kernel
theorem dX5_street_134 : decode cX5_street 134 = .ok (.iaload, 1) := by decide +kernel
theorem dX5_street_135 : decode cX5_street 135 = .ok (.ireturn, 1) := by decide +kernel
set_option maxRecDepth 20000 in
theorem ggX5_together_X5_of : GoodIn wsX5_together wsX5_of := goodIn_r _ [6, 1, 36, 37, 38, 39, 40, 41, 42, 43, 44] (by decide +kernel) (by decide +kernel)
set_option maxRecDepth 20000 in
theorem gX5_together_X5_of : GoodIn wsX5_together (wsV RX5 45 RX5 yX5_of wsX5_of) := goodIn_app (goodIn_of _ (by decide +kernel)) ggX5_together_X5_of
set_option maxRecDepth 20000 in
theorem ggX5_together_X5_uses : GoodIn wsX5_together wsX5_uses := goodIn_r _ [10, 2, 3, 4, 5, 6, 1, 11, 12, 13, 14, 15, 16, 17, 36, 37, 38, 39, 40, 41, 42, 43, 44] (by decide +kernel) (by decide +kernel)
set_option maxRecDepth 20000 in
theorem gX5_together_X5_uses : GoodIn wsX5_together (wsV RX5 72 RX5 yX5_uses wsX5_uses) := goodIn_app (goodIn_of _ (by decide +kernel)) ggX5_together_X5_uses
set_option maxRecDepth 20000 in
theorem ggX5_together_X5_air : GoodIn wsX5_together wsX5_air := goodIn_r _ [21, 1, 2, 3, 4, 5, 6, 14, 15, 16, 17, 22, 23, 24, 25, 26, 27, 28, 29, 30, 31, 32, 33, 34, 35, 36, 37, 38, 39, 40, 41, 42, 43, 44] (by decide +kernel) (by decide +kernel)
set_option maxRecDepth 20000 in
theorem gX5_together_X5_air : GoodIn wsX5_together (wsV RX5 55 RX5 yX5_air wsX5_air) := goodIn_app (goodIn_of _ (by decide +kernel)) ggX5_together_X5_air
theorem dX5_together_0 : decode cX5_together 0 = .ok (.iconst 0, 1) := by decide +kernel
theorem dX5_together_1 : decode cX5_together 1 = .ok (.istore_n 2, 1) := by decide +kernel
theorem dX5_together_2 : decode cX5_together 2 = .ok (.iconst 0, 1) := by decide +kernel
theorem dX5_together_3 : decode cX5_together 3 = .ok (.istore_n 3, 1) := by decide +kernel
theorem dX5_together_4 : decode cX5_together 4 = .ok (.iload_n 3, 1) := by decide +kernel
theorem dX5_together_5 : decode cX5_together 5 = .ok (.aload_n 0, 1) := by decide +kernel
theorem dX5_together_6 : decode cX5_together 6 = .ok (.getfield 7, 3) := by decide +kernel
theorem dX5_together_9 : decode cX5_together 9 = .ok (.sipush 442, 3) := by decide +kernel
theorem dX5_together_12 : decode cX5_together 12 = .ok (.iaload, 1) := by decide +kernel
theorem dX5_together_13 : decode cX5_together 13 = .ok (.if_icmp .ge 116, 3) := by decide +kernel
theorem dX5_together_16 : decode cX5_together 16 = .ok (.iload_n 2, 1) := by decide +kernel
theorem dX5_together_17 : decode cX5_together 17 = .ok (.iload_n 1, 1) := by decide +kernel
theorem dX5_together_18 : decode cX5_together 18 = .ok (.ifCond .ne 21, 3) := by decide +kernel
theorem dX5_together_21 : decode cX5_together 21 = .ok (.aload_n 0, 1) := by decide +kernel
theorem dX5_together_22 : decode cX5_together 22 = .ok (.iload_n 3, 1) := by decide +kernel
theorem dX5_together_23 : decode cX5_together 23 = .ok (.iconst 4, 1) := by decide +kernel
theorem dX5_together_24 : decode cX5_together 24 = .ok (.invokevirtual 45, 3) := by decide +kernel
theorem dX5_together_27 : decode cX5_together 27 = .ok (.iconst 1, 1) := by decide +kernel
theorem dX5_together_28 : decode cX5_together 28 = .ok (.if_icmp .ne 11, 3) := by decide +kernel
theorem dX5_together_31 : decode cX5_together 31 = .ok (.aload_n 0, 1) := by decide +kernel
theorem dX5_together_32 : decode cX5_together 32 = .ok (.iload_n 3, 1) := by decide +kernel
theorem dX5_together_33 : decode cX5_together 33 = .ok (.invokevirtual 72, 3) := by decide +kernel
theorem dX5_together_36 : decode cX5_together 36 = .ok (.goto 4, 3) := by decide +kernel
theorem dX5_together_39 : decode cX5_together 39 = .ok (.iconst 0, 1) := by decide +kernel
theorem dX5_together_40 : decode cX5_together 40 = .ok (.iadd, 1) := by decide +kernel
theorem dX5_together_41 : decode cX5_together 41 = .ok (.istore_n 2, 1) := by decide +kernel
theorem dX5_together_42 : decode cX5_together 42 = .ok (.iconst 0, 1) := by decide +kernel
theorem dX5_together_43 : decode cX5_together 43 = .ok (.istore 4, 2) := by decide +kernel
theorem dX5_together_45 : decode cX5_together 45 = .ok (.iload 4, 2) := by decide +kernel
theorem dX5_together_47 : decode cX5_together 47 = .ok (.iload_n 3, 1) := by decide +kernel
theorem dX5_together_48 : decode cX5_together 48 = .ok (.if_icmp .ge 75, 3) := by decide +kernel
theorem dX5_together_51 : decode cX5_together 51 = .ok (.iload_n 1, 1) := by decide +kernel
theorem dX5_together_52 : decode cX5_together 52 = .ok (.ifCond .eq 71, 3) := by decide +kernel
theorem dX5_together_55 : decode cX5_together 55 = .ok (.aload_n 0, 1) := by decide +kernel
theorem dX5_together_56 : decode cX5_together 56 = .ok (.iload_n 3, 1) := by decide +kernel
theorem dX5_together_57 : decode cX5_together 57 = .ok (.iconst 4, 1) := by decide +kernel
theorem dX5_together_58 : decode cX5_together 58 = .ok (.invokevirtual 45, 3) := by decide +kernel
theorem dX5_together_61 : decode cX5_together 61 = .ok (.iconst 1, 1) := by decide +kernel
theorem dX5_together_62 : decode cX5_together 62 = .ok (.if_icmp .ne 61, 3) := by decide +kernel
theorem dX5_together_65 : decode cX5_together 65 = .ok (.iload_n 2, 1) := by decide +kernel
theorem dX5_together_66 : decode cX5_together 66 = .ok (.aload_n 0, 1) := by decide +kernel
theorem dX5_together_67 : decode cX5_together 67 = .ok (.iload 4, 2) := by decide +kernel
theorem dX5_together_69 : decode cX5_together 69 = .ok (.iconst 4, 1) := by decide +kernel
theorem dX5_together_70 : decode cX5_together 70 = .ok (.invokevirtual 45, 3) := by decide +kernel
theorem dX5_together_73 : decode cX5_together 73 = .ok (.iconst 1, 1) := by decide +kernel
theorem dX5_together_74 : decode cX5_together 74 = .ok (.if_icmp .ne 40, 3) := by decide +kernel
theorem dX5_together_77 : decode cX5_together 77 = .ok (.aload_n 0, 1) := by decide +kernel
theorem dX5_together_78 : decode cX5_together 78 = .ok (.aload_n 0, 1) := by decide +kernel
theorem dX5_together_79 : decode cX5_together 79 = .ok (.iload_n 3, 1) := by decide +kernel
theorem dX5_together_80 : decode cX5_together 80 = .ok (.iconst 0, 1) := by decide +kernel
theorem dX5_together_81 : decode cX5_together 81 = .ok (.invokevirtual 45, 3) := by decide +kernel
theorem dX5_together_84 : decode cX5_together 84 = .ok (.aload_n 0, 1) := by decide +kernel
theorem dX5_together_85 : decode cX5_together 85 = .ok (.iload_n 3, 1) := by decide +kernel
theorem dX5_together_86 : decode cX5_together 86 = .ok (.iconst 1, 1) := by decide +kernel
theorem dX5_together_87 : decode cX5_together 87 = .ok (.invokevirtual 45, 3) := by decide +kernel
theorem dX5_together_90 : decode cX5_together 90 = .ok (.aload_n 0, 1) := by decide +kernel
theorem dX5_together_91 : decode cX5_together 91 = .ok (.iload_n 3, 1) := by decide +kernel
theorem dX5_together_92 : decode cX5_together 92 = .ok (.iconst 2, 1) := by decide +kernel
theorem dX5_together_93 : decode cX5_together 93 = .ok (.invokevirtual 45, 3) := by decide +kernel
theorem dX5_together_96 : decode cX5_together 96 = .ok (.aload_n 0, 1) := by decide +kernel
theorem dX5_together_97 : decode cX5_together 97 = .ok (.iload_n 3, 1) := by decide +kernel
theorem dX5_together_98 : decode cX5_together 98 = .ok (.iconst 3, 1) := by decide +kernel
theorem dX5_together_99 : decode cX5_together 99 = .ok (.invokevirtual 45, 3) := by decide +kernel
theorem dX5_together_102 : decode cX5_together 102 = .ok (.iload 4, 2) := by decide +kernel
theorem dX5_together_104 : decode cX5_together 104 = .ok (.invokevirtual 55, 3) := by decide +kernel
theorem dX5_together_107 : decode cX5_together 107 = .ok (.ifCond .eq 7, 3) := by decide +kernel
theorem dX5_together_110 : decode cX5_together 110 = .ok (.iconst 1, 1) := by decide +kernel
theorem dX5_together_111 : decode cX5_together 111 = .ok (.goto 4, 3) := by decide +kernel
theorem dX5_together_114 : decode cX5_together 114 = .ok (.iconst 0, 1) := by decide +kernel
theorem dX5_together_115 : decode cX5_together 115 = .ok (.iadd, 1) := by decide +kernel
theorem dX5_together_116 : decode cX5_together 116 = .ok (.istore_n 2, 1) := by decide +kernel
theorem dX5_together_117 : decode cX5_together 117 = .ok (.iinc 4 1, 3) := by decide +kernel
theorem dX5_together_120 : decode cX5_together 120 = .ok (.goto (-75), 3) := by decide +kernel
theorem dX5_together_123 : decode cX5_together 123 = .ok (.iinc 3 1, 3) := by decide +kernel
theorem dX5_together_126 : decode cX5_together 126 = .ok (.goto (-122), 3) := by decide +kernel
theorem dX5_together_129 : decode cX5_together 129 = .ok (.iload_n 2, 1) := by decide +kernel
theorem dX5_together_130 : decode cX5_together 130 = .ok (.ireturn, 1) := by decide +kernel
set_option maxRecDepth 20000 in
theorem ggX5_count_X5_valid : GoodIn wsX5_count wsX5_valid := goodIn_r _ [8, 1, 9, 10, 11, 7, 12, 46, 47, 48, 49, 50, 51, 52, 53, 54] (by decide +kernel) (by decide +kernel)
set_option maxRecDepth 20000 in
theorem gX5_count_X5_valid : GoodIn wsX5_count (wsV RX5 101 RX5 yX5_valid wsX5_valid) := goodIn_app (goodIn_of _ (by decide +kernel)) ggX5_count_X5_valid
set_option maxRecDepth 20000 in
theorem ggX5_count_X5_together : GoodIn wsX5_count wsX5_together := goodIn_r _ [16, 1, 9, 10, 11, 7, 12, 17, 18, 19, 20, 21, 22, 23, 24, 25, 26, 27, 28, 29, 30, 31, 32, 33, 34, 35, 36, 37, 38, 39, 40, 41, 42, 43, 44, 45, 46, 47, 48, 49, 50, 51, 52, 53, 54] (by decide +kernel) (by decide +kernel)
set_option maxRecDepth 20000 in
theorem gX5_count_X5_together : GoodIn wsX5_count (wsV RX5 113 RX5 yX5_together wsX5_together) := goodIn_app (goodIn_of _ (by decide +kernel)) ggX5_count_X5_together
theorem dX5_count_0 : decode cX5_count 0 = .ok (.iload_n 1, 1) := by decide +kernel
theorem dX5_count_1 : decode cX5_count 1 = .ok (.tableswitch 127 0 12 #[67, 74, 80, 80, 80, 93, 99, 105, 110, 127, 115, 115, 115], 67) := by decide +kernel
theorem dX5_count_68 : decode cX5_count 68 = .ok (.aload_n 0, 1) := by decide +kernel
theorem dX5_count_69 : decode cX5_count 69 = .ok (.getfield 7, 3) := by decide +kernel
theorem dX5_count_72 : decode cX5_count 72 = .ok (.iconst 0, 1) := by decide +kernel
theorem dX5_count_73 : decode cX5_count 73 = .ok (.iaload, 1) := by decide +kernel
theorem dX5_count_74 : decode cX5_count 74 = .ok (.ireturn, 1) := by decide +kernel
theorem dX5_count_75 : decode cX5_count 75 = .ok (.aload_n 0, 1) := by decide +kernel
theorem dX5_count_76 : decode cX5_count 76 = .ok (.iconst (-1), 1) := by decide +kernel
theorem dX5_count_77 : decode cX5_count 77 = .ok (.invokevirtual 101, 3) := by decide +kernel
theorem dX5_count_80 : decode cX5_count 80 = .ok (.ireturn, 1) := by decide +kernel
theorem dX5_count_81 : decode cX5_count 81 = .ok (.aload_n 0, 1) := by decide +kernel
theorem dX5_count_82 : decode cX5_count 82 = .ok (.getfield 7, 3) := by decide +kernel
theorem dX5_count_85 : decode cX5_count 85 = .ok (.sipush 442, 3) := by decide +kernel
theorem dX5_count_88 : decode cX5_count 88 = .ok (.iload_n 1, 1) := by decide +kernel
theorem dX5_count_89 : decode cX5_count 89 = .ok (.iadd, 1) := by decide +kernel
theorem dX5_count_90 : decode cX5_count 90 = .ok (.iconst 2, 1) := by decide +kernel
theorem dX5_count_91 : decode cX5_count 91 = .ok (.isub, 1) := by decide +kernel
theorem dX5_count_92 : decode cX5_count 92 = .ok (.iaload, 1) := by decide +kernel
theorem dX5_count_93 : decode cX5_count 93 = .ok (.ireturn, 1) := by decide +kernel
theorem dX5_count_94 : decode cX5_count 94 = .ok (.aload_n 0, 1) := by decide +kernel
theorem dX5_count_95 : decode cX5_count 95 = .ok (.iconst 0, 1) := by decide +kernel
theorem dX5_count_96 : decode cX5_count 96 = .ok (.invokevirtual 113, 3) := by decide +kernel
theorem dX5_count_99 : decode cX5_count 99 = .ok (.ireturn, 1) := by decide +kernel
theorem dX5_count_100 : decode cX5_count 100 = .ok (.aload_n 0, 1) := by decide +kernel
theorem dX5_count_101 : decode cX5_count 101 = .ok (.iconst 1, 1) := by decide +kernel
theorem dX5_count_102 : decode cX5_count 102 = .ok (.invokevirtual 113, 3) := by decide +kernel
theorem dX5_count_105 : decode cX5_count 105 = .ok (.ireturn, 1) := by decide +kernel
theorem dX5_count_106 : decode cX5_count 106 = .ok (.aload_n 0, 1) := by decide +kernel
theorem dX5_count_107 : decode cX5_count 107 = .ok (.getfield 30, 3) := by decide +kernel
theorem dX5_count_110 : decode cX5_count 110 = .ok (.ireturn, 1) := by decide +kernel
theorem dX5_count_111 : decode cX5_count 111 = .ok (.aload_n 0, 1) := by decide +kernel
theorem dX5_count_112 : decode cX5_count 112 = .ok (.getfield 117, 3) := by decide +kernel
theorem dX5_count_115 : decode cX5_count 115 = .ok (.ireturn, 1) := by decide +kernel
theorem dX5_count_116 : decode cX5_count 116 = .ok (.aload_n 0, 1) := by decide +kernel
theorem dX5_count_117 : decode cX5_count 117 = .ok (.getfield 7, 3) := by decide +kernel
theorem dX5_count_120 : decode cX5_count 120 = .ok (.iconst 1, 1) := by decide +kernel
theorem dX5_count_121 : decode cX5_count 121 = .ok (.iload_n 1, 1) := by decide +kernel
theorem dX5_count_122 : decode cX5_count 122 = .ok (.iadd, 1) := by decide +kernel
theorem dX5_count_123 : decode cX5_count 123 = .ok (.bipush 10, 2) := by decide +kernel
theorem dX5_count_125 : decode cX5_count 125 = .ok (.isub, 1) := by decide +kernel
theorem dX5_count_126 : decode cX5_count 126 = .ok (.iaload, 1) := by decide +kernel
theorem dX5_count_127 : decode cX5_count 127 = .ok (.ireturn, 1) := by decide +kernel
theorem dX5_count_128 : decode cX5_count 128 = .ok (.sipush (-1001), 3) := by decide +kernel
theorem dX5_count_131 : decode cX5_count 131 = .ok (.ireturn, 1) := by decide +kernel
theorem dX5_undo_0 : decode cX5_undo 0 = .ok (.aload_n 0, 1) := by decide +kernel
theorem dX5_undo_1 : decode cX5_undo 1 = .ok (.getfield 30, 3) := by decide +kernel
theorem dX5_undo_4 : decode cX5_undo 4 = .ok (.ifCond .ne 7, 3) := by decide +kernel
theorem dX5_undo_7 : decode cX5_undo 7 = .ok (.sipush (-1002), 3) := by decide +kernel
theorem dX5_undo_10 : decode cX5_undo 10 = .ok (.ireturn, 1) := by decide +kernel
theorem dX5_undo_11 : decode cX5_undo 11 = .ok (.aload_n 0, 1) := by decide +kernel
theorem dX5_undo_12 : decode cX5_undo 12 = .ok (.dup, 1) := by decide +kernel
theorem dX5_undo_13 : decode cX5_undo 13 = .ok (.getfield 30, 3) := by decide +kernel
theorem dX5_undo_16 : decode cX5_undo 16 = .ok (.iconst 1, 1) := by decide +kernel
theorem dX5_undo_17 : decode cX5_undo 17 = .ok (.isub, 1) := by decide +kernel
theorem dX5_undo_18 : decode cX5_undo 18 = .ok (.putfield 30, 3) := by decide +kernel
theorem dX5_undo_21 : decode cX5_undo 21 = .ok (.iconst 0, 1) := by decide +kernel
theorem dX5_undo_22 : decode cX5_undo 22 = .ok (.istore_n 1, 1) := by decide +kernel
theorem dX5_undo_23 : decode cX5_undo 23 = .ok (.iload_n 1, 1) := by decide +kernel
theorem dX5_undo_24 : decode cX5_undo 24 = .ok (.sipush 1445, 3) := by decide +kernel
theorem dX5_undo_27 : decode cX5_undo 27 = .ok (.if_icmp .ge 30, 3) := by decide +kernel
theorem dX5_undo_30 : decode cX5_undo 30 = .ok (.aload_n 0, 1) := by decide +kernel
theorem dX5_undo_31 : decode cX5_undo 31 = .ok (.getfield 7, 3) := by decide +kernel
theorem dX5_undo_34 : decode cX5_undo 34 = .ok (.iload_n 1, 1) := by decide +kernel
theorem dX5_undo_35 : decode cX5_undo 35 = .ok (.aload_n 0, 1) := by decide +kernel
theorem dX5_undo_36 : decode cX5_undo 36 = .ok (.getfield 13, 3) := by decide +kernel
theorem dX5_undo_39 : decode cX5_undo 39 = .ok (.sipush 1445, 3) := by decide +kernel
theorem dX5_undo_42 : decode cX5_undo 42 = .ok (.aload_n 0, 1) := by decide +kernel
theorem dX5_undo_43 : decode cX5_undo 43 = .ok (.getfield 30, 3) := by decide +kernel
theorem dX5_undo_46 : decode cX5_undo 46 = .ok (.imul, 1) := by decide +kernel
theorem dX5_undo_47 : decode cX5_undo 47 = .ok (.iload_n 1, 1) := by decide +kernel
theorem dX5_undo_48 : decode cX5_undo 48 = .ok (.iadd, 1) := by decide +kernel
theorem dX5_undo_49 : decode cX5_undo 49 = .ok (.iaload, 1) := by decide +kernel
theorem dX5_undo_50 : decode cX5_undo 50 = .ok (.iastore, 1) := by decide +kernel
theorem dX5_undo_51 : decode cX5_undo 51 = .ok (.iinc 1 1, 3) := by decide +kernel
theorem dX5_undo_54 : decode cX5_undo 54 = .ok (.goto (-31), 3) := by decide +kernel
theorem dX5_undo_57 : decode cX5_undo 57 = .ok (.aload_n 0, 1) := by decide +kernel
theorem dX5_undo_58 : decode cX5_undo 58 = .ok (.getfield 30, 3) := by decide +kernel
theorem dX5_undo_61 : decode cX5_undo 61 = .ok (.ireturn, 1) := by decide +kernel
set_option maxRecDepth 20000 in
theorem ggX5_covers_X5_isCrane : GoodIn wsX5_covers wsX5_isCrane := goodIn_r _ [5, 6, 7, 8, 4, 9, 24, 25, 26, 27, 28, 29, 30, 31, 32] (by decide +kernel) (by decide +kernel)
set_option maxRecDepth 20000 in
theorem gX5_covers_X5_isCrane : GoodIn wsX5_covers (wsV RX5 94 RX5 yX5_isCrane wsX5_isCrane) := goodIn_app (goodIn_of _ (by decide +kernel)) ggX5_covers_X5_isCrane
set_option maxRecDepth 20000 in
theorem ggX5_covers_X5_isSwing : GoodIn wsX5_covers wsX5_isSwing := goodIn_r _ [12, 7, 8, 4, 9] (by decide +kernel) (by decide +kernel)
set_option maxRecDepth 20000 in
theorem gX5_covers_X5_isSwing : GoodIn wsX5_covers (va_wsS RX5 120 yX5_isSwing wsX5_isSwing) := goodIn_app (goodIn_of _ (by decide +kernel)) ggX5_covers_X5_isSwing
set_option maxRecDepth 20000 in
theorem ggX5_covers_X5_in : GoodIn wsX5_covers wsX5_in := goodIn_r _ [9] (by decide +kernel) (by decide +kernel)
set_option maxRecDepth 20000 in
theorem gX5_covers_X5_in : GoodIn wsX5_covers (va_wsS RX5 26 yX5_in wsX5_in) := goodIn_app (goodIn_of _ (by decide +kernel)) ggX5_covers_X5_in
set_option maxRecDepth 20000 in
theorem ggX5_covers_X5_isCovered : GoodIn wsX5_covers wsX5_isCovered := goodIn_r _ [16, 17, 18, 19, 4, 20, 6, 21, 22, 23, 24, 25, 26, 27, 28, 29, 30, 31, 32] (by decide +kernel) (by decide +kernel)
set_option maxRecDepth 20000 in
theorem gX5_covers_X5_isCovered : GoodIn wsX5_covers (wsV RX5 41 RX5 yX5_isCovered wsX5_isCovered) := goodIn_app (goodIn_of _ (by decide +kernel)) ggX5_covers_X5_isCovered
theorem dX5_covers_0 : decode cX5_covers 0 = .ok (.aload_n 0, 1) := by decide +kernel
theorem dX5_covers_1 : decode cX5_covers 1 = .ok (.iload_n 1, 1) := by decide +kernel
theorem dX5_covers_2 : decode cX5_covers 2 = .ok (.invokevirtual 94, 3) := by decide +kernel
theorem dX5_covers_5 : decode cX5_covers 5 = .ok (.ifCond .eq 31, 3) := by decide +kernel
theorem dX5_covers_8 : decode cX5_covers 8 = .ok (.iload_n 2, 1) := by decide +kernel
theorem dX5_covers_9 : decode cX5_covers 9 = .ok (.invokestatic 120, 3) := by decide +kernel
theorem dX5_covers_12 : decode cX5_covers 12 = .ok (.ifCond .eq 24, 3) := by decide +kernel
theorem dX5_covers_15 : decode cX5_covers 15 = .ok (.iload_n 3, 1) := by decide +kernel
theorem dX5_covers_16 : decode cX5_covers 16 = .ok (.iconst 0, 1) := by decide +kernel
theorem dX5_covers_17 : decode cX5_covers 17 = .ok (.bipush 15, 2) := by decide +kernel
theorem dX5_covers_19 : decode cX5_covers 19 = .ok (.invokestatic 26, 3) := by decide +kernel
theorem dX5_covers_22 : decode cX5_covers 22 = .ok (.ifCond .eq 14, 3) := by decide +kernel
theorem dX5_covers_25 : decode cX5_covers 25 = .ok (.iload 4, 2) := by decide +kernel
theorem dX5_covers_27 : decode cX5_covers 27 = .ok (.iconst 0, 1) := by decide +kernel
theorem dX5_covers_28 : decode cX5_covers 28 = .ok (.bipush 15, 2) := by decide +kernel
theorem dX5_covers_30 : decode cX5_covers 30 = .ok (.invokestatic 26, 3) := by decide +kernel
theorem dX5_covers_33 : decode cX5_covers 33 = .ok (.ifCond .ne 7, 3) := by decide +kernel
theorem dX5_covers_36 : decode cX5_covers 36 = .ok (.sipush (-1001), 3) := by decide +kernel
theorem dX5_covers_39 : decode cX5_covers 39 = .ok (.ireturn, 1) := by decide +kernel
theorem dX5_covers_40 : decode cX5_covers 40 = .ok (.aload_n 0, 1) := by decide +kernel
theorem dX5_covers_41 : decode cX5_covers 41 = .ok (.iload_n 1, 1) := by decide +kernel
theorem dX5_covers_42 : decode cX5_covers 42 = .ok (.iload_n 2, 1) := by decide +kernel
theorem dX5_covers_43 : decode cX5_covers 43 = .ok (.iload_n 3, 1) := by decide +kernel
theorem dX5_covers_44 : decode cX5_covers 44 = .ok (.iload 4, 2) := by decide +kernel
theorem dX5_covers_46 : decode cX5_covers 46 = .ok (.invokevirtual 41, 3) := by decide +kernel
theorem dX5_covers_49 : decode cX5_covers 49 = .ok (.ifCond .eq 7, 3) := by decide +kernel
theorem dX5_covers_52 : decode cX5_covers 52 = .ok (.iconst 1, 1) := by decide +kernel
theorem dX5_covers_53 : decode cX5_covers 53 = .ok (.goto 4, 3) := by decide +kernel
theorem dX5_covers_56 : decode cX5_covers 56 = .ok (.iconst 0, 1) := by decide +kernel
theorem dX5_covers_57 : decode cX5_covers 57 = .ok (.ireturn, 1) := by decide +kernel
set_option maxRecDepth 20000 in
theorem ggX5_area_X5_isCrane : GoodIn wsX5_area wsX5_isCrane := goodIn_r _ [5, 6, 7, 8, 4, 9, 24, 25, 26, 27, 28, 29, 30, 31, 32] (by decide +kernel) (by decide +kernel)
set_option maxRecDepth 20000 in
theorem gX5_area_X5_isCrane : GoodIn wsX5_area (wsV RX5 94 RX5 yX5_isCrane wsX5_isCrane) := goodIn_app (goodIn_of _ (by decide +kernel)) ggX5_area_X5_isCrane
set_option maxRecDepth 20000 in
theorem ggX5_area_X5_isSwing : GoodIn wsX5_area wsX5_isSwing := goodIn_r _ [12, 7, 8, 4, 9] (by decide +kernel) (by decide +kernel)
set_option maxRecDepth 20000 in
theorem gX5_area_X5_isSwing : GoodIn wsX5_area (va_wsS RX5 120 yX5_isSwing wsX5_isSwing) := goodIn_app (goodIn_of _ (by decide +kernel)) ggX5_area_X5_isSwing
set_option maxRecDepth 20000 in
theorem ggX5_area_X5_isCovered : GoodIn wsX5_area wsX5_isCovered := goodIn_r _ [16, 17, 18, 19, 4, 20, 6, 21, 22, 23, 24, 25, 26, 27, 28, 29, 30, 31, 32] (by decide +kernel) (by decide +kernel)
set_option maxRecDepth 20000 in
theorem gX5_area_X5_isCovered : GoodIn wsX5_area (wsV RX5 41 RX5 yX5_isCovered wsX5_isCovered) := goodIn_app (goodIn_of _ (by decide +kernel)) ggX5_area_X5_isCovered
theorem dX5_area_0 : decode cX5_area 0 = .ok (.aload_n 0, 1) := by decide +kernel
theorem dX5_area_1 : decode cX5_area 1 = .ok (.iload_n 1, 1) := by decide +kernel
theorem dX5_area_2 : decode cX5_area 2 = .ok (.invokevirtual 94, 3) := by decide +kernel
theorem dX5_area_5 : decode cX5_area 5 = .ok (.ifCond .eq 10, 3) := by decide +kernel
theorem dX5_area_8 : decode cX5_area 8 = .ok (.iload_n 2, 1) := by decide +kernel
theorem dX5_area_9 : decode cX5_area 9 = .ok (.invokestatic 120, 3) := by decide +kernel
theorem dX5_area_12 : decode cX5_area 12 = .ok (.ifCond .ne 7, 3) := by decide +kernel
theorem dX5_area_15 : decode cX5_area 15 = .ok (.sipush (-1001), 3) := by decide +kernel
theorem dX5_area_18 : decode cX5_area 18 = .ok (.ireturn, 1) := by decide +kernel
theorem dX5_area_19 : decode cX5_area 19 = .ok (.iconst 0, 1) := by decide +kernel
theorem dX5_area_20 : decode cX5_area 20 = .ok (.istore_n 3, 1) := by decide +kernel
theorem dX5_area_21 : decode cX5_area 21 = .ok (.iconst 0, 1) := by decide +kernel
theorem dX5_area_22 : decode cX5_area 22 = .ok (.istore 4, 2) := by decide +kernel
theorem dX5_area_24 : decode cX5_area 24 = .ok (.iload 4, 2) := by decide +kernel
theorem dX5_area_26 : decode cX5_area 26 = .ok (.sipush 256, 3) := by decide +kernel
theorem dX5_area_29 : decode cX5_area 29 = .ok (.if_icmp .ge 36, 3) := by decide +kernel
theorem dX5_area_32 : decode cX5_area 32 = .ok (.iload_n 3, 1) := by decide +kernel
theorem dX5_area_33 : decode cX5_area 33 = .ok (.aload_n 0, 1) := by decide +kernel
theorem dX5_area_34 : decode cX5_area 34 = .ok (.iload_n 1, 1) := by decide +kernel
theorem dX5_area_35 : decode cX5_area 35 = .ok (.iload_n 2, 1) := by decide +kernel
theorem dX5_area_36 : decode cX5_area 36 = .ok (.iload 4, 2) := by decide +kernel
theorem dX5_area_38 : decode cX5_area 38 = .ok (.bipush 16, 2) := by decide +kernel
theorem dX5_area_40 : decode cX5_area 40 = .ok (.irem, 1) := by decide +kernel
theorem dX5_area_41 : decode cX5_area 41 = .ok (.iload 4, 2) := by decide +kernel
theorem dX5_area_43 : decode cX5_area 43 = .ok (.bipush 16, 2) := by decide +kernel
theorem dX5_area_45 : decode cX5_area 45 = .ok (.idiv, 1) := by decide +kernel
theorem dX5_area_46 : decode cX5_area 46 = .ok (.invokevirtual 41, 3) := by decide +kernel
theorem dX5_area_49 : decode cX5_area 49 = .ok (.ifCond .eq 7, 3) := by decide +kernel
theorem dX5_area_52 : decode cX5_area 52 = .ok (.iconst 1, 1) := by decide +kernel
theorem dX5_area_53 : decode cX5_area 53 = .ok (.goto 4, 3) := by decide +kernel
theorem dX5_area_56 : decode cX5_area 56 = .ok (.iconst 0, 1) := by decide +kernel
theorem dX5_area_57 : decode cX5_area 57 = .ok (.iadd, 1) := by decide +kernel
theorem dX5_area_58 : decode cX5_area 58 = .ok (.istore_n 3, 1) := by decide +kernel
theorem dX5_area_59 : decode cX5_area 59 = .ok (.iinc 4 1, 3) := by decide +kernel
theorem dX5_area_62 : decode cX5_area 62 = .ok (.goto (-38), 3) := by decide +kernel
theorem dX5_area_65 : decode cX5_area 65 = .ok (.iload_n 3, 1) := by decide +kernel
theorem dX5_area_66 : decode cX5_area 66 = .ok (.ireturn, 1) := by decide +kernel
set_option maxRecDepth 20000 in
theorem ggX5_isApplication_X5_isCrane : GoodIn wsX5_isApplication wsX5_isCrane := goodIn_r _ [5, 6, 7, 8, 4, 9, 19, 20, 21, 22, 23, 24, 25, 26, 27] (by decide +kernel) (by decide +kernel)
set_option maxRecDepth 20000 in
theorem gX5_isApplication_X5_isCrane : GoodIn wsX5_isApplication (wsV RX5 94 RX5 yX5_isCrane wsX5_isCrane) := goodIn_app (goodIn_of _ (by decide +kernel)) ggX5_isApplication_X5_isCrane
set_option maxRecDepth 20000 in
theorem ggX5_isApplication_X5_isNight : GoodIn wsX5_isApplication wsX5_isNight := goodIn_r _ [12, 7, 8, 4, 9] (by decide +kernel) (by decide +kernel)
set_option maxRecDepth 20000 in
theorem gX5_isApplication_X5_isNight : GoodIn wsX5_isApplication (va_wsS RX5 107 yX5_isNight wsX5_isNight) := goodIn_app (goodIn_of _ (by decide +kernel)) ggX5_isApplication_X5_isNight
set_option maxRecDepth 20000 in
theorem ggX5_isApplication_X5_areHours : GoodIn wsX5_isApplication wsX5_areHours := goodIn_r _ [15, 7, 8, 4, 9] (by decide +kernel) (by decide +kernel)
set_option maxRecDepth 20000 in
theorem gX5_isApplication_X5_areHours : GoodIn wsX5_isApplication (va_wsS RX5 123 yX5_areHours wsX5_areHours) := goodIn_app (goodIn_of _ (by decide +kernel)) ggX5_isApplication_X5_areHours
set_option maxRecDepth 20000 in
theorem ggX5_isApplication_X5_isSwing : GoodIn wsX5_isApplication wsX5_isSwing := goodIn_r _ [18, 7, 8, 4, 9] (by decide +kernel) (by decide +kernel)
set_option maxRecDepth 20000 in
theorem gX5_isApplication_X5_isSwing : GoodIn wsX5_isApplication (va_wsS RX5 120 yX5_isSwing wsX5_isSwing) := goodIn_app (goodIn_of _ (by decide +kernel)) ggX5_isApplication_X5_isSwing
theorem dX5_isApplication_0 : decode cX5_isApplication 0 = .ok (.aload_n 0, 1) := by decide +kernel
theorem dX5_isApplication_1 : decode cX5_isApplication 1 = .ok (.iload_n 1, 1) := by decide +kernel
theorem dX5_isApplication_2 : decode cX5_isApplication 2 = .ok (.invokevirtual 94, 3) := by decide +kernel
theorem dX5_isApplication_5 : decode cX5_isApplication 5 = .ok (.ifCond .eq 29, 3) := by decide +kernel
theorem dX5_isApplication_8 : decode cX5_isApplication 8 = .ok (.iload_n 2, 1) := by decide +kernel
theorem dX5_isApplication_9 : decode cX5_isApplication 9 = .ok (.invokestatic 107, 3) := by decide +kernel
theorem dX5_isApplication_12 : decode cX5_isApplication 12 = .ok (.ifCond .eq 22, 3) := by decide +kernel
theorem dX5_isApplication_15 : decode cX5_isApplication 15 = .ok (.iload_n 3, 1) := by decide +kernel
theorem dX5_isApplication_16 : decode cX5_isApplication 16 = .ok (.invokestatic 123, 3) := by decide +kernel
theorem dX5_isApplication_19 : decode cX5_isApplication 19 = .ok (.ifCond .eq 15, 3) := by decide +kernel
theorem dX5_isApplication_22 : decode cX5_isApplication 22 = .ok (.iload 4, 2) := by decide +kernel
theorem dX5_isApplication_24 : decode cX5_isApplication 24 = .ok (.invokestatic 120, 3) := by decide +kernel
theorem dX5_isApplication_27 : decode cX5_isApplication 27 = .ok (.ifCond .eq 7, 3) := by decide +kernel
theorem dX5_isApplication_30 : decode cX5_isApplication 30 = .ok (.iconst 1, 1) := by decide +kernel
theorem dX5_isApplication_31 : decode cX5_isApplication 31 = .ok (.goto 4, 3) := by decide +kernel
theorem dX5_isApplication_34 : decode cX5_isApplication 34 = .ok (.iconst 0, 1) := by decide +kernel
theorem dX5_isApplication_35 : decode cX5_isApplication 35 = .ok (.ireturn, 1) := by decide +kernel
set_option maxRecDepth 20000 in
theorem ggX5_refuses_X5_of : GoodIn wsX5_refuses wsX5_of := goodIn_r _ [6, 1, 63, 64, 65, 66, 67, 68, 69, 70, 71] (by decide +kernel) (by decide +kernel)
set_option maxRecDepth 20000 in
theorem gX5_refuses_X5_of : GoodIn wsX5_refuses (wsV RX5 45 RX5 yX5_of wsX5_of) := goodIn_app (goodIn_of _ (by decide +kernel)) ggX5_refuses_X5_of
set_option maxRecDepth 20000 in
theorem ggX5_refuses_X5_hoursMeet : GoodIn wsX5_refuses wsX5_hoursMeet := goodIn_r _ [9] (by decide +kernel) (by decide +kernel)
set_option maxRecDepth 20000 in
theorem gX5_refuses_X5_hoursMeet : GoodIn wsX5_refuses (va_wsS RX5 48 yX5_hoursMeet wsX5_hoursMeet) := goodIn_app (goodIn_of _ (by decide +kernel)) ggX5_refuses_X5_hoursMeet
set_option maxRecDepth 20000 in
theorem ggX5_refuses_X5_stops : GoodIn wsX5_refuses wsX5_stops := goodIn_r _ [13, 1, 14, 15, 16, 5, 17, 63, 64, 65, 66, 67, 68, 69, 70, 71] (by decide +kernel) (by decide +kernel)
set_option maxRecDepth 20000 in
theorem gX5_refuses_X5_stops : GoodIn wsX5_refuses (wsV RX5 75 RX5 yX5_stops wsX5_stops) := goodIn_app (goodIn_of _ (by decide +kernel)) ggX5_refuses_X5_stops
set_option maxRecDepth 20000 in
theorem ggX5_refuses_X5_firstInAir : GoodIn wsX5_refuses wsX5_firstInAir := goodIn_r _ [21, 1, 2, 3, 4, 5, 6, 22, 23, 24, 25, 14, 15, 16, 17, 7, 8, 9, 26, 27, 28, 29, 30, 31, 32, 33, 34, 35, 36, 63, 64, 65, 66, 67, 68, 69, 70, 71] (by decide +kernel) (by decide +kernel)
set_option maxRecDepth 20000 in
theorem gX5_refuses_X5_firstInAir : GoodIn wsX5_refuses (wsV RX5 126 RX5 yX5_firstInAir wsX5_firstInAir) := goodIn_app (goodIn_of _ (by decide +kernel)) ggX5_refuses_X5_firstInAir
set_option maxRecDepth 20000 in
theorem ggX5_refuses_X5_craned : GoodIn wsX5_refuses wsX5_craned := goodIn_r _ [17, 1, 63, 64, 65, 66, 67, 68, 69, 70, 71] (by decide +kernel) (by decide +kernel)
set_option maxRecDepth 20000 in
theorem gX5_refuses_X5_craned : GoodIn wsX5_refuses (wsV RX5 34 RX5 yX5_craned wsX5_craned) := goodIn_app (goodIn_of _ (by decide +kernel)) ggX5_refuses_X5_craned
set_option maxRecDepth 20000 in
theorem ggX5_refuses_X5_used : GoodIn wsX5_refuses wsX5_used := goodIn_r _ [40, 1, 41, 42, 43, 5, 44, 2, 3, 4, 6, 14, 15, 16, 17, 45, 46, 47, 48, 49, 50, 51, 63, 64, 65, 66, 67, 68, 69, 70, 71] (by decide +kernel) (by decide +kernel)
set_option maxRecDepth 20000 in
theorem gX5_refuses_X5_used : GoodIn wsX5_refuses (wsV RX5 78 RX5 yX5_used wsX5_used) := goodIn_app (goodIn_of _ (by decide +kernel)) ggX5_refuses_X5_used
set_option maxRecDepth 20000 in
theorem ggX5_refuses_X5_hoursIn : GoodIn wsX5_refuses wsX5_hoursIn := goodIn_r _ [51] (by decide +kernel) (by decide +kernel)
set_option maxRecDepth 20000 in
theorem gX5_refuses_X5_hoursIn : GoodIn wsX5_refuses (va_wsS RX5 65 yX5_hoursIn wsX5_hoursIn) := goodIn_app (goodIn_of _ (by decide +kernel)) ggX5_refuses_X5_hoursIn
set_option maxRecDepth 20000 in
theorem ggX5_refuses_X5_credits : GoodIn wsX5_refuses wsX5_credits := goodIn_r _ [55, 1, 56, 57, 5, 58, 59, 60, 61, 62, 63, 64, 65, 66, 67, 68, 69, 70, 71] (by decide +kernel) (by decide +kernel)
set_option maxRecDepth 20000 in
theorem gX5_refuses_X5_credits : GoodIn wsX5_refuses (wsV RX5 81 RX5 yX5_credits wsX5_credits) := goodIn_app (goodIn_of _ (by decide +kernel)) ggX5_refuses_X5_credits
theorem dX5_refuses_0 : decode cX5_refuses 0 = .ok (.iconst 0, 1) := by decide +kernel
theorem dX5_refuses_1 : decode cX5_refuses 1 = .ok (.istore 5, 2) := by decide +kernel
theorem dX5_refuses_3 : decode cX5_refuses 3 = .ok (.iload 5, 2) := by decide +kernel
theorem dX5_refuses_5 : decode cX5_refuses 5 = .ok (.aload_n 0, 1) := by decide +kernel
theorem dX5_refuses_6 : decode cX5_refuses 6 = .ok (.getfield 7, 3) := by decide +kernel
theorem dX5_refuses_9 : decode cX5_refuses 9 = .ok (.sipush 442, 3) := by decide +kernel
theorem dX5_refuses_12 : decode cX5_refuses 12 = .ok (.iaload, 1) := by decide +kernel
theorem dX5_refuses_13 : decode cX5_refuses 13 = .ok (.if_icmp .ge 58, 3) := by decide +kernel
theorem dX5_refuses_16 : decode cX5_refuses 16 = .ok (.aload_n 0, 1) := by decide +kernel
theorem dX5_refuses_17 : decode cX5_refuses 17 = .ok (.iload 5, 2) := by decide +kernel
theorem dX5_refuses_19 : decode cX5_refuses 19 = .ok (.iconst 4, 1) := by decide +kernel
theorem dX5_refuses_20 : decode cX5_refuses 20 = .ok (.invokevirtual 45, 3) := by decide +kernel
theorem dX5_refuses_23 : decode cX5_refuses 23 = .ok (.iconst 1, 1) := by decide +kernel
theorem dX5_refuses_24 : decode cX5_refuses 24 = .ok (.if_icmp .ne 41, 3) := by decide +kernel
theorem dX5_refuses_27 : decode cX5_refuses 27 = .ok (.aload_n 0, 1) := by decide +kernel
theorem dX5_refuses_28 : decode cX5_refuses 28 = .ok (.iload 5, 2) := by decide +kernel
theorem dX5_refuses_30 : decode cX5_refuses 30 = .ok (.iconst 0, 1) := by decide +kernel
theorem dX5_refuses_31 : decode cX5_refuses 31 = .ok (.invokevirtual 45, 3) := by decide +kernel
theorem dX5_refuses_34 : decode cX5_refuses 34 = .ok (.iload_n 1, 1) := by decide +kernel
theorem dX5_refuses_35 : decode cX5_refuses 35 = .ok (.if_icmp .ne 30, 3) := by decide +kernel
theorem dX5_refuses_38 : decode cX5_refuses 38 = .ok (.aload_n 0, 1) := by decide +kernel
theorem dX5_refuses_39 : decode cX5_refuses 39 = .ok (.iload 5, 2) := by decide +kernel
theorem dX5_refuses_41 : decode cX5_refuses 41 = .ok (.iconst 1, 1) := by decide +kernel
theorem dX5_refuses_42 : decode cX5_refuses 42 = .ok (.invokevirtual 45, 3) := by decide +kernel
theorem dX5_refuses_45 : decode cX5_refuses 45 = .ok (.iload_n 2, 1) := by decide +kernel
theorem dX5_refuses_46 : decode cX5_refuses 46 = .ok (.if_icmp .ne 19, 3) := by decide +kernel
theorem dX5_refuses_49 : decode cX5_refuses 49 = .ok (.iload_n 3, 1) := by decide +kernel
theorem dX5_refuses_50 : decode cX5_refuses 50 = .ok (.aload_n 0, 1) := by decide +kernel
theorem dX5_refuses_51 : decode cX5_refuses 51 = .ok (.iload 5, 2) := by decide +kernel
theorem dX5_refuses_53 : decode cX5_refuses 53 = .ok (.iconst 2, 1) := by decide +kernel
theorem dX5_refuses_54 : decode cX5_refuses 54 = .ok (.invokevirtual 45, 3) := by decide +kernel
theorem dX5_refuses_57 : decode cX5_refuses 57 = .ok (.invokestatic 48, 3) := by decide +kernel
theorem dX5_refuses_60 : decode cX5_refuses 60 = .ok (.ifCond .eq 5, 3) := by decide +kernel
theorem dX5_refuses_63 : decode cX5_refuses 63 = .ok (.iconst 1, 1) := by decide +kernel
theorem dX5_refuses_64 : decode cX5_refuses 64 = .ok (.ireturn, 1) := by decide +kernel
theorem dX5_refuses_65 : decode cX5_refuses 65 = .ok (.iinc 5 1, 3) := by decide +kernel
theorem dX5_refuses_68 : decode cX5_refuses 68 = .ok (.goto (-65), 3) := by decide +kernel
theorem dX5_refuses_71 : decode cX5_refuses 71 = .ok (.aload_n 0, 1) := by decide +kernel
theorem dX5_refuses_72 : decode cX5_refuses 72 = .ok (.iload_n 1, 1) := by decide +kernel
theorem dX5_refuses_73 : decode cX5_refuses 73 = .ok (.iload_n 2, 1) := by decide +kernel
theorem dX5_refuses_74 : decode cX5_refuses 74 = .ok (.invokevirtual 75, 3) := by decide +kernel
theorem dX5_refuses_77 : decode cX5_refuses 77 = .ok (.ifCond .eq 5, 3) := by decide +kernel
theorem dX5_refuses_80 : decode cX5_refuses 80 = .ok (.iconst 2, 1) := by decide +kernel
theorem dX5_refuses_81 : decode cX5_refuses 81 = .ok (.ireturn, 1) := by decide +kernel
theorem dX5_refuses_82 : decode cX5_refuses 82 = .ok (.aload_n 0, 1) := by decide +kernel
theorem dX5_refuses_83 : decode cX5_refuses 83 = .ok (.iload_n 1, 1) := by decide +kernel
theorem dX5_refuses_84 : decode cX5_refuses 84 = .ok (.iload_n 2, 1) := by decide +kernel
theorem dX5_refuses_85 : decode cX5_refuses 85 = .ok (.iload_n 3, 1) := by decide +kernel
theorem dX5_refuses_86 : decode cX5_refuses 86 = .ok (.iload 4, 2) := by decide +kernel
theorem dX5_refuses_88 : decode cX5_refuses 88 = .ok (.invokevirtual 126, 3) := by decide +kernel
theorem dX5_refuses_91 : decode cX5_refuses 91 = .ok (.iconst (-1), 1) := by decide +kernel
theorem dX5_refuses_92 : decode cX5_refuses 92 = .ok (.if_icmp .eq 5, 3) := by decide +kernel
theorem dX5_refuses_95 : decode cX5_refuses 95 = .ok (.iconst 3, 1) := by decide +kernel
theorem dX5_refuses_96 : decode cX5_refuses 96 = .ok (.ireturn, 1) := by decide +kernel
theorem dX5_refuses_97 : decode cX5_refuses 97 = .ok (.aload_n 0, 1) := by decide +kernel
theorem dX5_refuses_98 : decode cX5_refuses 98 = .ok (.iload_n 1, 1) := by decide +kernel
theorem dX5_refuses_99 : decode cX5_refuses 99 = .ok (.iconst 4, 1) := by decide +kernel
theorem dX5_refuses_100 : decode cX5_refuses 100 = .ok (.invokevirtual 34, 3) := by decide +kernel
theorem dX5_refuses_103 : decode cX5_refuses 103 = .ok (.istore 5, 2) := by decide +kernel
theorem dX5_refuses_105 : decode cX5_refuses 105 = .ok (.aload_n 0, 1) := by decide +kernel
theorem dX5_refuses_106 : decode cX5_refuses 106 = .ok (.iload 5, 2) := by decide +kernel
theorem dX5_refuses_108 : decode cX5_refuses 108 = .ok (.iload_n 2, 1) := by decide +kernel
theorem dX5_refuses_109 : decode cX5_refuses 109 = .ok (.invokevirtual 78, 3) := by decide +kernel
theorem dX5_refuses_112 : decode cX5_refuses 112 = .ok (.iload_n 3, 1) := by decide +kernel
theorem dX5_refuses_113 : decode cX5_refuses 113 = .ok (.invokestatic 65, 3) := by decide +kernel
theorem dX5_refuses_116 : decode cX5_refuses 116 = .ok (.aload_n 0, 1) := by decide +kernel
theorem dX5_refuses_117 : decode cX5_refuses 117 = .ok (.iload_n 1, 1) := by decide +kernel
theorem dX5_refuses_118 : decode cX5_refuses 118 = .ok (.iconst 5, 1) := by decide +kernel
theorem dX5_refuses_119 : decode cX5_refuses 119 = .ok (.invokevirtual 34, 3) := by decide +kernel
theorem dX5_refuses_122 : decode cX5_refuses 122 = .ok (.imul, 1) := by decide +kernel
theorem dX5_refuses_123 : decode cX5_refuses 123 = .ok (.iadd, 1) := by decide +kernel
theorem dX5_refuses_124 : decode cX5_refuses 124 = .ok (.aload_n 0, 1) := by decide +kernel
theorem dX5_refuses_125 : decode cX5_refuses 125 = .ok (.iload 5, 2) := by decide +kernel
theorem dX5_refuses_127 : decode cX5_refuses 127 = .ok (.iload_n 2, 1) := by decide +kernel
theorem dX5_refuses_128 : decode cX5_refuses 128 = .ok (.invokevirtual 81, 3) := by decide +kernel
theorem dX5_refuses_131 : decode cX5_refuses 131 = .ok (.if_icmp .le 7, 3) := by decide +kernel
theorem dX5_refuses_134 : decode cX5_refuses 134 = .ok (.iconst 4, 1) := by decide +kernel
theorem dX5_refuses_135 : decode cX5_refuses 135 = .ok (.goto 4, 3) := by decide +kernel
theorem dX5_refuses_138 : decode cX5_refuses 138 = .ok (.iconst 0, 1) := by decide +kernel
theorem dX5_refuses_139 : decode cX5_refuses 139 = .ok (.ireturn, 1) := by decide +kernel
set_option maxRecDepth 20000 in
theorem ggX5_refusal_X5_isApplication : GoodIn wsX5_refusal wsX5_isApplication := goodIn_r _ [5, 6, 7, 8, 4, 9, 10, 11, 12, 13, 14, 15, 16, 17, 18, 19, 20, 21, 22, 87, 88, 89, 90, 91, 92, 93, 94, 95] (by decide +kernel) (by decide +kernel)
set_option maxRecDepth 20000 in
theorem gX5_refusal_X5_isApplication : GoodIn wsX5_refusal (wsV RX5 130 RX5 yX5_isApplication wsX5_isApplication) := goodIn_app (goodIn_of _ (by decide +kernel)) ggX5_refusal_X5_isApplication
set_option maxRecDepth 20000 in
theorem ggX5_refusal_X5_refuses : GoodIn wsX5_refusal wsX5_refuses := goodIn_r _ [26, 10, 27, 28, 29, 4, 30, 31, 32, 33, 34, 35, 36, 37, 38, 39, 40, 41, 42, 43, 44, 45, 46, 47, 48, 49, 50, 51, 52, 53, 54, 55, 56, 57, 58, 59, 60, 61, 62, 63, 64, 65, 66, 67, 68, 69, 70, 71, 72, 73, 74, 75, 76, 77, 78, 79, 80, 81, 82, 83, 84, 85, 86, 87, 88, 89, 90, 91, 92, 93, 94, 95] (by decide +kernel) (by decide +kernel)
set_option maxRecDepth 20000 in
theorem gX5_refusal_X5_refuses : GoodIn wsX5_refusal (wsV RX5 133 RX5 yX5_refuses wsX5_refuses) := goodIn_app (goodIn_of _ (by decide +kernel)) ggX5_refusal_X5_refuses
theorem dX5_refusal_0 : decode cX5_refusal 0 = .ok (.aload_n 0, 1) := by decide +kernel
theorem dX5_refusal_1 : decode cX5_refusal 1 = .ok (.iload_n 1, 1) := by decide +kernel
theorem dX5_refusal_2 : decode cX5_refusal 2 = .ok (.iload_n 2, 1) := by decide +kernel
theorem dX5_refusal_3 : decode cX5_refusal 3 = .ok (.iload_n 3, 1) := by decide +kernel
theorem dX5_refusal_4 : decode cX5_refusal 4 = .ok (.iload 4, 2) := by decide +kernel
theorem dX5_refusal_6 : decode cX5_refusal 6 = .ok (.invokevirtual 130, 3) := by decide +kernel
theorem dX5_refusal_9 : decode cX5_refusal 9 = .ok (.ifCond .eq 15, 3) := by decide +kernel
theorem dX5_refusal_12 : decode cX5_refusal 12 = .ok (.aload_n 0, 1) := by decide +kernel
theorem dX5_refusal_13 : decode cX5_refusal 13 = .ok (.iload_n 1, 1) := by decide +kernel
theorem dX5_refusal_14 : decode cX5_refusal 14 = .ok (.iload_n 2, 1) := by decide +kernel
theorem dX5_refusal_15 : decode cX5_refusal 15 = .ok (.iload_n 3, 1) := by decide +kernel
theorem dX5_refusal_16 : decode cX5_refusal 16 = .ok (.iload 4, 2) := by decide +kernel
theorem dX5_refusal_18 : decode cX5_refusal 18 = .ok (.invokevirtual 133, 3) := by decide +kernel
theorem dX5_refusal_21 : decode cX5_refusal 21 = .ok (.goto 6, 3) := by decide +kernel
theorem dX5_refusal_24 : decode cX5_refusal 24 = .ok (.sipush (-1001), 3) := by decide +kernel
theorem dX5_refusal_27 : decode cX5_refusal 27 = .ok (.ireturn, 1) := by decide +kernel
set_option maxRecDepth 20000 in
theorem ggX5_isFull_X5_valid : GoodIn wsX5_isFull wsX5_valid := goodIn_r _ [6, 1, 7, 8, 9, 5, 10, 11, 12, 13, 14, 15, 16, 17, 18, 19] (by decide +kernel) (by decide +kernel)
set_option maxRecDepth 20000 in
theorem gX5_isFull_X5_valid : GoodIn wsX5_isFull (wsV RX5 101 RX5 yX5_valid wsX5_valid) := goodIn_app (goodIn_of _ (by decide +kernel)) ggX5_isFull_X5_valid
theorem dX5_isFull_0 : decode cX5_isFull 0 = .ok (.aload_n 0, 1) := by decide +kernel
theorem dX5_isFull_1 : decode cX5_isFull 1 = .ok (.iconst (-1), 1) := by decide +kernel
theorem dX5_isFull_2 : decode cX5_isFull 2 = .ok (.invokevirtual 101, 3) := by decide +kernel
theorem dX5_isFull_5 : decode cX5_isFull 5 = .ok (.bipush 24, 2) := by decide +kernel
theorem dX5_isFull_7 : decode cX5_isFull 7 = .ok (.if_icmp .eq 17, 3) := by decide +kernel
theorem dX5_isFull_10 : decode cX5_isFull 10 = .ok (.aload_n 0, 1) := by decide +kernel
theorem dX5_isFull_11 : decode cX5_isFull 11 = .ok (.getfield 7, 3) := by decide +kernel
theorem dX5_isFull_14 : decode cX5_isFull 14 = .ok (.sipush 442, 3) := by decide +kernel
theorem dX5_isFull_17 : decode cX5_isFull 17 = .ok (.iaload, 1) := by decide +kernel
theorem dX5_isFull_18 : decode cX5_isFull 18 = .ok (.sipush 200, 3) := by decide +kernel
theorem dX5_isFull_21 : decode cX5_isFull 21 = .ok (.if_icmp .ne 7, 3) := by decide +kernel
theorem dX5_isFull_24 : decode cX5_isFull 24 = .ok (.iconst 1, 1) := by decide +kernel
theorem dX5_isFull_25 : decode cX5_isFull 25 = .ok (.goto 4, 3) := by decide +kernel
theorem dX5_isFull_28 : decode cX5_isFull 28 = .ok (.iconst 0, 1) := by decide +kernel
theorem dX5_isFull_29 : decode cX5_isFull 29 = .ok (.ireturn, 1) := by decide +kernel
theorem dX5_grants_0 : decode cX5_grants 0 = .ok (.sipush 445, 3) := by decide +kernel
theorem dX5_grants_3 : decode cX5_grants 3 = .ok (.iconst 5, 1) := by decide +kernel
theorem dX5_grants_4 : decode cX5_grants 4 = .ok (.aload_n 0, 1) := by decide +kernel
theorem dX5_grants_5 : decode cX5_grants 5 = .ok (.getfield 7, 3) := by decide +kernel
theorem dX5_grants_8 : decode cX5_grants 8 = .ok (.sipush 442, 3) := by decide +kernel
theorem dX5_grants_11 : decode cX5_grants 11 = .ok (.iaload, 1) := by decide +kernel
theorem dX5_grants_12 : decode cX5_grants 12 = .ok (.imul, 1) := by decide +kernel
theorem dX5_grants_13 : decode cX5_grants 13 = .ok (.iadd, 1) := by decide +kernel
theorem dX5_grants_14 : decode cX5_grants 14 = .ok (.istore 5, 2) := by decide +kernel
theorem dX5_grants_16 : decode cX5_grants 16 = .ok (.aload_n 0, 1) := by decide +kernel
theorem dX5_grants_17 : decode cX5_grants 17 = .ok (.getfield 7, 3) := by decide +kernel
theorem dX5_grants_20 : decode cX5_grants 20 = .ok (.iload 5, 2) := by decide +kernel
theorem dX5_grants_22 : decode cX5_grants 22 = .ok (.iload_n 1, 1) := by decide +kernel
theorem dX5_grants_23 : decode cX5_grants 23 = .ok (.iastore, 1) := by decide +kernel
theorem dX5_grants_24 : decode cX5_grants 24 = .ok (.aload_n 0, 1) := by decide +kernel
theorem dX5_grants_25 : decode cX5_grants 25 = .ok (.getfield 7, 3) := by decide +kernel
theorem dX5_grants_28 : decode cX5_grants 28 = .ok (.iload 5, 2) := by decide +kernel
theorem dX5_grants_30 : decode cX5_grants 30 = .ok (.iconst 1, 1) := by decide +kernel
theorem dX5_grants_31 : decode cX5_grants 31 = .ok (.iadd, 1) := by decide +kernel
theorem dX5_grants_32 : decode cX5_grants 32 = .ok (.iload_n 2, 1) := by decide +kernel
theorem dX5_grants_33 : decode cX5_grants 33 = .ok (.iastore, 1) := by decide +kernel
theorem dX5_grants_34 : decode cX5_grants 34 = .ok (.aload_n 0, 1) := by decide +kernel
theorem dX5_grants_35 : decode cX5_grants 35 = .ok (.getfield 7, 3) := by decide +kernel
theorem dX5_grants_38 : decode cX5_grants 38 = .ok (.iload 5, 2) := by decide +kernel
theorem dX5_grants_40 : decode cX5_grants 40 = .ok (.iconst 2, 1) := by decide +kernel
theorem dX5_grants_41 : decode cX5_grants 41 = .ok (.iadd, 1) := by decide +kernel
theorem dX5_grants_42 : decode cX5_grants 42 = .ok (.iload_n 3, 1) := by decide +kernel
theorem dX5_grants_43 : decode cX5_grants 43 = .ok (.iastore, 1) := by decide +kernel
theorem dX5_grants_44 : decode cX5_grants 44 = .ok (.aload_n 0, 1) := by decide +kernel
theorem dX5_grants_45 : decode cX5_grants 45 = .ok (.getfield 7, 3) := by decide +kernel
theorem dX5_grants_48 : decode cX5_grants 48 = .ok (.iload 5, 2) := by decide +kernel
theorem dX5_grants_50 : decode cX5_grants 50 = .ok (.iconst 3, 1) := by decide +kernel
theorem dX5_grants_51 : decode cX5_grants 51 = .ok (.iadd, 1) := by decide +kernel
theorem dX5_grants_52 : decode cX5_grants 52 = .ok (.iload 4, 2) := by decide +kernel
theorem dX5_grants_54 : decode cX5_grants 54 = .ok (.iastore, 1) := by decide +kernel
theorem dX5_grants_55 : decode cX5_grants 55 = .ok (.aload_n 0, 1) := by decide +kernel
theorem dX5_grants_56 : decode cX5_grants 56 = .ok (.getfield 7, 3) := by decide +kernel
theorem dX5_grants_59 : decode cX5_grants 59 = .ok (.iload 5, 2) := by decide +kernel
theorem dX5_grants_61 : decode cX5_grants 61 = .ok (.iconst 4, 1) := by decide +kernel
theorem dX5_grants_62 : decode cX5_grants 62 = .ok (.iadd, 1) := by decide +kernel
theorem dX5_grants_63 : decode cX5_grants 63 = .ok (.iconst 1, 1) := by decide +kernel
theorem dX5_grants_64 : decode cX5_grants 64 = .ok (.iastore, 1) := by decide +kernel
theorem dX5_grants_65 : decode cX5_grants 65 = .ok (.aload_n 0, 1) := by decide +kernel
theorem dX5_grants_66 : decode cX5_grants 66 = .ok (.getfield 7, 3) := by decide +kernel
theorem dX5_grants_69 : decode cX5_grants 69 = .ok (.sipush 442, 3) := by decide +kernel
theorem dX5_grants_72 : decode cX5_grants 72 = .ok (.dup2, 1) := by decide +kernel
theorem dX5_grants_73 : decode cX5_grants 73 = .ok (.iaload, 1) := by decide +kernel
theorem dX5_grants_74 : decode cX5_grants 74 = .ok (.iconst 1, 1) := by decide +kernel
theorem dX5_grants_75 : decode cX5_grants 75 = .ok (.iadd, 1) := by decide +kernel
theorem dX5_grants_76 : decode cX5_grants 76 = .ok (.iastore, 1) := by decide +kernel
theorem dX5_grants_77 : decode cX5_grants 77 = .ok (.aload_n 0, 1) := by decide +kernel
theorem dX5_grants_78 : decode cX5_grants 78 = .ok (.getfield 7, 3) := by decide +kernel
theorem dX5_grants_81 : decode cX5_grants 81 = .ok (.sipush 442, 3) := by decide +kernel
theorem dX5_grants_84 : decode cX5_grants 84 = .ok (.iaload, 1) := by decide +kernel
theorem dX5_grants_85 : decode cX5_grants 85 = .ok (.iconst 1, 1) := by decide +kernel
theorem dX5_grants_86 : decode cX5_grants 86 = .ok (.isub, 1) := by decide +kernel
theorem dX5_grants_87 : decode cX5_grants 87 = .ok (.ireturn, 1) := by decide +kernel
set_option maxRecDepth 20000 in
theorem ggX5_apply_X5_isApplication : GoodIn wsX5_apply wsX5_isApplication := goodIn_r _ [5, 6, 7, 8, 4, 9, 10, 11, 12, 13, 14, 15, 16, 17, 18, 19, 20, 21, 22, 105, 106, 107, 108, 109, 110, 111, 112, 113] (by decide +kernel) (by decide +kernel)
set_option maxRecDepth 20000 in
theorem gX5_apply_X5_isApplication : GoodIn wsX5_apply (wsV RX5 130 RX5 yX5_isApplication wsX5_isApplication) := goodIn_app (goodIn_of _ (by decide +kernel)) ggX5_apply_X5_isApplication
set_option maxRecDepth 20000 in
theorem ggX5_apply_X5_refuses : GoodIn wsX5_apply wsX5_refuses := goodIn_r _ [26, 10, 27, 28, 29, 4, 30, 31, 32, 33, 34, 35, 36, 37, 38, 39, 40, 41, 42, 43, 44, 45, 46, 47, 48, 49, 50, 51, 52, 53, 54, 55, 56, 57, 58, 59, 60, 61, 62, 63, 64, 65, 66, 67, 68, 69, 70, 71, 72, 73, 74, 75, 76, 77, 78, 79, 80, 81, 82, 83, 84, 85, 86, 105, 106, 107, 108, 109, 110, 111, 112, 113] (by decide +kernel) (by decide +kernel)
set_option maxRecDepth 20000 in
theorem gX5_apply_X5_refuses : GoodIn wsX5_apply (wsV RX5 133 RX5 yX5_refuses wsX5_refuses) := goodIn_app (goodIn_of _ (by decide +kernel)) ggX5_apply_X5_refuses
set_option maxRecDepth 20000 in
theorem ggX5_apply_X5_isFull : GoodIn wsX5_apply wsX5_isFull := goodIn_r _ [90, 10, 91, 92, 93, 4, 94, 27, 28, 29, 30, 105, 106, 107, 108, 109, 110, 111, 112, 113] (by decide +kernel) (by decide +kernel)
set_option maxRecDepth 20000 in
theorem gX5_apply_X5_isFull : GoodIn wsX5_apply (wsV RX5 136 RX5 yX5_isFull wsX5_isFull) := goodIn_app (goodIn_of _ (by decide +kernel)) ggX5_apply_X5_isFull
set_option maxRecDepth 20000 in
theorem ggX5_apply_X5_records : GoodIn wsX5_apply wsX5_records := goodIn_r _ [98, 99, 100, 10, 105, 106, 107, 108, 109, 110, 111, 112, 113] (by decide +kernel) (by decide +kernel)
set_option maxRecDepth 20000 in
theorem gX5_apply_X5_records : GoodIn wsX5_apply (wsV RX5 91 RX5 yX5_records wsX5_records) := goodIn_app (goodIn_of _ (by decide +kernel)) ggX5_apply_X5_records
set_option maxRecDepth 20000 in
theorem ggX5_apply_X5_grants : GoodIn wsX5_apply wsX5_grants := goodIn_r _ [104, 10, 105, 106, 107, 108, 109, 110, 111, 112, 113] (by decide +kernel) (by decide +kernel)
set_option maxRecDepth 20000 in
theorem gX5_apply_X5_grants : GoodIn wsX5_apply (wsV RX5 140 RX5 yX5_grants wsX5_grants) := goodIn_app (goodIn_of _ (by decide +kernel)) ggX5_apply_X5_grants
theorem dX5_apply_0 : decode cX5_apply 0 = .ok (.aload_n 0, 1) := by decide +kernel
theorem dX5_apply_1 : decode cX5_apply 1 = .ok (.iload_n 1, 1) := by decide +kernel
theorem dX5_apply_2 : decode cX5_apply 2 = .ok (.iload_n 2, 1) := by decide +kernel
theorem dX5_apply_3 : decode cX5_apply 3 = .ok (.iload_n 3, 1) := by decide +kernel
theorem dX5_apply_4 : decode cX5_apply 4 = .ok (.iload 4, 2) := by decide +kernel
theorem dX5_apply_6 : decode cX5_apply 6 = .ok (.invokevirtual 130, 3) := by decide +kernel
theorem dX5_apply_9 : decode cX5_apply 9 = .ok (.ifCond .ne 7, 3) := by decide +kernel
theorem dX5_apply_12 : decode cX5_apply 12 = .ok (.sipush (-1001), 3) := by decide +kernel
theorem dX5_apply_15 : decode cX5_apply 15 = .ok (.ireturn, 1) := by decide +kernel
theorem dX5_apply_16 : decode cX5_apply 16 = .ok (.aload_n 0, 1) := by decide +kernel
theorem dX5_apply_17 : decode cX5_apply 17 = .ok (.iload_n 1, 1) := by decide +kernel
theorem dX5_apply_18 : decode cX5_apply 18 = .ok (.iload_n 2, 1) := by decide +kernel
theorem dX5_apply_19 : decode cX5_apply 19 = .ok (.iload_n 3, 1) := by decide +kernel
theorem dX5_apply_20 : decode cX5_apply 20 = .ok (.iload 4, 2) := by decide +kernel
theorem dX5_apply_22 : decode cX5_apply 22 = .ok (.invokevirtual 133, 3) := by decide +kernel
theorem dX5_apply_25 : decode cX5_apply 25 = .ok (.ifCond .le 7, 3) := by decide +kernel
theorem dX5_apply_28 : decode cX5_apply 28 = .ok (.sipush (-1002), 3) := by decide +kernel
theorem dX5_apply_31 : decode cX5_apply 31 = .ok (.ireturn, 1) := by decide +kernel
theorem dX5_apply_32 : decode cX5_apply 32 = .ok (.aload_n 0, 1) := by decide +kernel
theorem dX5_apply_33 : decode cX5_apply 33 = .ok (.invokevirtual 136, 3) := by decide +kernel
theorem dX5_apply_36 : decode cX5_apply 36 = .ok (.ifCond .eq 7, 3) := by decide +kernel
theorem dX5_apply_39 : decode cX5_apply 39 = .ok (.sipush (-1003), 3) := by decide +kernel
theorem dX5_apply_42 : decode cX5_apply 42 = .ok (.ireturn, 1) := by decide +kernel
theorem dX5_apply_43 : decode cX5_apply 43 = .ok (.aload_n 0, 1) := by decide +kernel
theorem dX5_apply_44 : decode cX5_apply 44 = .ok (.invokevirtual 91, 3) := by decide +kernel
theorem dX5_apply_47 : decode cX5_apply 47 = .ok (.aload_n 0, 1) := by decide +kernel
theorem dX5_apply_48 : decode cX5_apply 48 = .ok (.iload_n 1, 1) := by decide +kernel
theorem dX5_apply_49 : decode cX5_apply 49 = .ok (.iload_n 2, 1) := by decide +kernel
theorem dX5_apply_50 : decode cX5_apply 50 = .ok (.iload_n 3, 1) := by decide +kernel
theorem dX5_apply_51 : decode cX5_apply 51 = .ok (.iload 4, 2) := by decide +kernel
theorem dX5_apply_53 : decode cX5_apply 53 = .ok (.invokevirtual 140, 3) := by decide +kernel
theorem dX5_apply_56 : decode cX5_apply 56 = .ok (.ireturn, 1) := by decide +kernel
set_option maxRecDepth 20000 in
theorem ggX5_withdraw_X5_isPermit : GoodIn wsX5_withdraw wsX5_isPermit := goodIn_r _ [6, 1, 7, 8, 5, 9, 31, 32, 33, 34, 35, 36, 37, 38, 39] (by decide +kernel) (by decide +kernel)
set_option maxRecDepth 20000 in
theorem gX5_withdraw_X5_isPermit : GoodIn wsX5_withdraw (wsV RX5 143 RX5 yX5_isPermit wsX5_isPermit) := goodIn_app (goodIn_of _ (by decide +kernel)) ggX5_withdraw_X5_isPermit
set_option maxRecDepth 20000 in
theorem ggX5_withdraw_X5_of : GoodIn wsX5_withdraw wsX5_of := goodIn_r _ [13, 1, 31, 32, 33, 34, 35, 36, 37, 38, 39] (by decide +kernel) (by decide +kernel)
set_option maxRecDepth 20000 in
theorem gX5_withdraw_X5_of : GoodIn wsX5_withdraw (wsV RX5 45 RX5 yX5_of wsX5_of) := goodIn_app (goodIn_of _ (by decide +kernel)) ggX5_withdraw_X5_of
set_option maxRecDepth 20000 in
theorem ggX5_withdraw_X5_records : GoodIn wsX5_withdraw wsX5_records := goodIn_r _ [17, 18, 19, 1, 31, 32, 33, 34, 35, 36, 37, 38, 39] (by decide +kernel) (by decide +kernel)
set_option maxRecDepth 20000 in
theorem gX5_withdraw_X5_records : GoodIn wsX5_withdraw (wsV RX5 91 RX5 yX5_records wsX5_records) := goodIn_app (goodIn_of _ (by decide +kernel)) ggX5_withdraw_X5_records
set_option maxRecDepth 20000 in
theorem ggX5_withdraw_X5_uses : GoodIn wsX5_withdraw wsX5_uses := goodIn_r _ [23, 10, 11, 12, 5, 13, 1, 24, 25, 26, 27, 28, 29, 30, 31, 32, 33, 34, 35, 36, 37, 38, 39] (by decide +kernel) (by decide +kernel)
set_option maxRecDepth 20000 in
theorem gX5_withdraw_X5_uses : GoodIn wsX5_withdraw (wsV RX5 72 RX5 yX5_uses wsX5_uses) := goodIn_app (goodIn_of _ (by decide +kernel)) ggX5_withdraw_X5_uses
theorem dX5_withdraw_0 : decode cX5_withdraw 0 = .ok (.aload_n 0, 1) := by decide +kernel
theorem dX5_withdraw_1 : decode cX5_withdraw 1 = .ok (.iload_n 1, 1) := by decide +kernel
theorem dX5_withdraw_2 : decode cX5_withdraw 2 = .ok (.invokevirtual 143, 3) := by decide +kernel
theorem dX5_withdraw_5 : decode cX5_withdraw 5 = .ok (.ifCond .ne 7, 3) := by decide +kernel
theorem dX5_withdraw_8 : decode cX5_withdraw 8 = .ok (.sipush (-1001), 3) := by decide +kernel
theorem dX5_withdraw_11 : decode cX5_withdraw 11 = .ok (.ireturn, 1) := by decide +kernel
theorem dX5_withdraw_12 : decode cX5_withdraw 12 = .ok (.aload_n 0, 1) := by decide +kernel
theorem dX5_withdraw_13 : decode cX5_withdraw 13 = .ok (.iload_n 1, 1) := by decide +kernel
theorem dX5_withdraw_14 : decode cX5_withdraw 14 = .ok (.iconst 4, 1) := by decide +kernel
theorem dX5_withdraw_15 : decode cX5_withdraw 15 = .ok (.invokevirtual 45, 3) := by decide +kernel
theorem dX5_withdraw_18 : decode cX5_withdraw 18 = .ok (.iconst 1, 1) := by decide +kernel
theorem dX5_withdraw_19 : decode cX5_withdraw 19 = .ok (.if_icmp .eq 7, 3) := by decide +kernel
theorem dX5_withdraw_22 : decode cX5_withdraw 22 = .ok (.sipush (-1002), 3) := by decide +kernel
theorem dX5_withdraw_25 : decode cX5_withdraw 25 = .ok (.ireturn, 1) := by decide +kernel
theorem dX5_withdraw_26 : decode cX5_withdraw 26 = .ok (.aload_n 0, 1) := by decide +kernel
theorem dX5_withdraw_27 : decode cX5_withdraw 27 = .ok (.invokevirtual 91, 3) := by decide +kernel
theorem dX5_withdraw_30 : decode cX5_withdraw 30 = .ok (.aload_n 0, 1) := by decide +kernel
theorem dX5_withdraw_31 : decode cX5_withdraw 31 = .ok (.getfield 7, 3) := by decide +kernel
theorem dX5_withdraw_34 : decode cX5_withdraw 34 = .ok (.sipush 445, 3) := by decide +kernel
theorem dX5_withdraw_37 : decode cX5_withdraw 37 = .ok (.iconst 5, 1) := by decide +kernel
theorem dX5_withdraw_38 : decode cX5_withdraw 38 = .ok (.iload_n 1, 1) := by decide +kernel
theorem dX5_withdraw_39 : decode cX5_withdraw 39 = .ok (.imul, 1) := by decide +kernel
theorem dX5_withdraw_40 : decode cX5_withdraw 40 = .ok (.iadd, 1) := by decide +kernel
theorem dX5_withdraw_41 : decode cX5_withdraw 41 = .ok (.iconst 4, 1) := by decide +kernel
theorem dX5_withdraw_42 : decode cX5_withdraw 42 = .ok (.iadd, 1) := by decide +kernel
theorem dX5_withdraw_43 : decode cX5_withdraw 43 = .ok (.iconst 2, 1) := by decide +kernel
theorem dX5_withdraw_44 : decode cX5_withdraw 44 = .ok (.iastore, 1) := by decide +kernel
theorem dX5_withdraw_45 : decode cX5_withdraw 45 = .ok (.aload_n 0, 1) := by decide +kernel
theorem dX5_withdraw_46 : decode cX5_withdraw 46 = .ok (.getfield 7, 3) := by decide +kernel
theorem dX5_withdraw_49 : decode cX5_withdraw 49 = .ok (.sipush 443, 3) := by decide +kernel
theorem dX5_withdraw_52 : decode cX5_withdraw 52 = .ok (.dup2, 1) := by decide +kernel
theorem dX5_withdraw_53 : decode cX5_withdraw 53 = .ok (.iaload, 1) := by decide +kernel
theorem dX5_withdraw_54 : decode cX5_withdraw 54 = .ok (.iconst 1, 1) := by decide +kernel
theorem dX5_withdraw_55 : decode cX5_withdraw 55 = .ok (.iadd, 1) := by decide +kernel
theorem dX5_withdraw_56 : decode cX5_withdraw 56 = .ok (.iastore, 1) := by decide +kernel
theorem dX5_withdraw_57 : decode cX5_withdraw 57 = .ok (.aload_n 0, 1) := by decide +kernel
theorem dX5_withdraw_58 : decode cX5_withdraw 58 = .ok (.iload_n 1, 1) := by decide +kernel
theorem dX5_withdraw_59 : decode cX5_withdraw 59 = .ok (.invokevirtual 72, 3) := by decide +kernel
theorem dX5_withdraw_62 : decode cX5_withdraw 62 = .ok (.ireturn, 1) := by decide +kernel
set_option maxRecDepth 20000 in
theorem ggX5_permit_X5_isPermit : GoodIn wsX5_permit wsX5_isPermit := goodIn_r _ [5, 6, 7, 8, 4, 9, 25, 26, 27, 28, 29, 30, 31, 32, 33] (by decide +kernel) (by decide +kernel)
set_option maxRecDepth 20000 in
theorem gX5_permit_X5_isPermit : GoodIn wsX5_permit (wsV RX5 143 RX5 yX5_isPermit wsX5_isPermit) := goodIn_app (goodIn_of _ (by decide +kernel)) ggX5_permit_X5_isPermit
set_option maxRecDepth 20000 in
theorem ggX5_permit_X5_in : GoodIn wsX5_permit wsX5_in := goodIn_r _ [9] (by decide +kernel) (by decide +kernel)
set_option maxRecDepth 20000 in
theorem gX5_permit_X5_in : GoodIn wsX5_permit (va_wsS RX5 26 yX5_in wsX5_in) := goodIn_app (goodIn_of _ (by decide +kernel)) ggX5_permit_X5_in
set_option maxRecDepth 20000 in
theorem ggX5_permit_X5_of : GoodIn wsX5_permit wsX5_of := goodIn_r _ [13, 6, 25, 26, 27, 28, 29, 30, 31, 32, 33] (by decide +kernel) (by decide +kernel)
set_option maxRecDepth 20000 in
theorem gX5_permit_X5_of : GoodIn wsX5_permit (wsV RX5 45 RX5 yX5_of wsX5_of) := goodIn_app (goodIn_of _ (by decide +kernel)) ggX5_permit_X5_of
set_option maxRecDepth 20000 in
theorem ggX5_permit_X5_uses : GoodIn wsX5_permit wsX5_uses := goodIn_r _ [17, 10, 11, 12, 4, 13, 6, 18, 19, 20, 21, 22, 23, 24, 25, 26, 27, 28, 29, 30, 31, 32, 33] (by decide +kernel) (by decide +kernel)
set_option maxRecDepth 20000 in
theorem gX5_permit_X5_uses : GoodIn wsX5_permit (wsV RX5 72 RX5 yX5_uses wsX5_uses) := goodIn_app (goodIn_of _ (by decide +kernel)) ggX5_permit_X5_uses
theorem dX5_permit_0 : decode cX5_permit 0 = .ok (.aload_n 0, 1) := by decide +kernel
theorem dX5_permit_1 : decode cX5_permit 1 = .ok (.iload_n 1, 1) := by decide +kernel
theorem dX5_permit_2 : decode cX5_permit 2 = .ok (.invokevirtual 143, 3) := by decide +kernel
theorem dX5_permit_5 : decode cX5_permit 5 = .ok (.ifCond .eq 12, 3) := by decide +kernel
theorem dX5_permit_8 : decode cX5_permit 8 = .ok (.iload_n 2, 1) := by decide +kernel
theorem dX5_permit_9 : decode cX5_permit 9 = .ok (.iconst 0, 1) := by decide +kernel
theorem dX5_permit_10 : decode cX5_permit 10 = .ok (.iconst 5, 1) := by decide +kernel
theorem dX5_permit_11 : decode cX5_permit 11 = .ok (.invokestatic 26, 3) := by decide +kernel
theorem dX5_permit_14 : decode cX5_permit 14 = .ok (.ifCond .ne 7, 3) := by decide +kernel
theorem dX5_permit_17 : decode cX5_permit 17 = .ok (.sipush (-1001), 3) := by decide +kernel
theorem dX5_permit_20 : decode cX5_permit 20 = .ok (.ireturn, 1) := by decide +kernel
theorem dX5_permit_21 : decode cX5_permit 21 = .ok (.iload_n 2, 1) := by decide +kernel
theorem dX5_permit_22 : decode cX5_permit 22 = .ok (.iconst 4, 1) := by decide +kernel
theorem dX5_permit_23 : decode cX5_permit 23 = .ok (.if_icmp .ge 12, 3) := by decide +kernel
theorem dX5_permit_26 : decode cX5_permit 26 = .ok (.aload_n 0, 1) := by decide +kernel
theorem dX5_permit_27 : decode cX5_permit 27 = .ok (.iload_n 1, 1) := by decide +kernel
theorem dX5_permit_28 : decode cX5_permit 28 = .ok (.iload_n 2, 1) := by decide +kernel
theorem dX5_permit_29 : decode cX5_permit 29 = .ok (.invokevirtual 45, 3) := by decide +kernel
theorem dX5_permit_32 : decode cX5_permit 32 = .ok (.goto 22, 3) := by decide +kernel
theorem dX5_permit_35 : decode cX5_permit 35 = .ok (.iload_n 2, 1) := by decide +kernel
theorem dX5_permit_36 : decode cX5_permit 36 = .ok (.iconst 4, 1) := by decide +kernel
theorem dX5_permit_37 : decode cX5_permit 37 = .ok (.if_icmp .ne 11, 3) := by decide +kernel
theorem dX5_permit_40 : decode cX5_permit 40 = .ok (.aload_n 0, 1) := by decide +kernel
theorem dX5_permit_41 : decode cX5_permit 41 = .ok (.iload_n 1, 1) := by decide +kernel
theorem dX5_permit_42 : decode cX5_permit 42 = .ok (.invokevirtual 72, 3) := by decide +kernel
theorem dX5_permit_45 : decode cX5_permit 45 = .ok (.goto 9, 3) := by decide +kernel
theorem dX5_permit_48 : decode cX5_permit 48 = .ok (.aload_n 0, 1) := by decide +kernel
theorem dX5_permit_49 : decode cX5_permit 49 = .ok (.iload_n 1, 1) := by decide +kernel
theorem dX5_permit_50 : decode cX5_permit 50 = .ok (.iconst 4, 1) := by decide +kernel
theorem dX5_permit_51 : decode cX5_permit 51 = .ok (.invokevirtual 45, 3) := by decide +kernel
theorem dX5_permit_54 : decode cX5_permit 54 = .ok (.ireturn, 1) := by decide +kernel
set_option maxRecDepth 20000 in
theorem ggX5_isAhead_X5_of : GoodIn wsX5_isAhead wsX5_of := goodIn_r _ [5, 6, 7, 8, 9, 10, 11, 12, 13, 14, 15] (by decide +kernel) (by decide +kernel)
set_option maxRecDepth 20000 in
theorem gX5_isAhead_X5_of : GoodIn wsX5_isAhead (wsV RX5 45 RX5 yX5_of wsX5_of) := goodIn_app (goodIn_of _ (by decide +kernel)) ggX5_isAhead_X5_of
theorem dX5_isAhead_0 : decode cX5_isAhead 0 = .ok (.bipush 10, 2) := by decide +kernel
theorem dX5_isAhead_2 : decode cX5_isAhead 2 = .ok (.aload_n 0, 1) := by decide +kernel
theorem dX5_isAhead_3 : decode cX5_isAhead 3 = .ok (.iload_n 1, 1) := by decide +kernel
theorem dX5_isAhead_4 : decode cX5_isAhead 4 = .ok (.iconst 1, 1) := by decide +kernel
theorem dX5_isAhead_5 : decode cX5_isAhead 5 = .ok (.invokevirtual 45, 3) := by decide +kernel
theorem dX5_isAhead_8 : decode cX5_isAhead 8 = .ok (.imul, 1) := by decide +kernel
theorem dX5_isAhead_9 : decode cX5_isAhead 9 = .ok (.aload_n 0, 1) := by decide +kernel
theorem dX5_isAhead_10 : decode cX5_isAhead 10 = .ok (.iload_n 1, 1) := by decide +kernel
theorem dX5_isAhead_11 : decode cX5_isAhead 11 = .ok (.iconst 2, 1) := by decide +kernel
theorem dX5_isAhead_12 : decode cX5_isAhead 12 = .ok (.invokevirtual 45, 3) := by decide +kernel
theorem dX5_isAhead_15 : decode cX5_isAhead 15 = .ok (.bipush 10, 2) := by decide +kernel
theorem dX5_isAhead_17 : decode cX5_isAhead 17 = .ok (.idiv, 1) := by decide +kernel
theorem dX5_isAhead_18 : decode cX5_isAhead 18 = .ok (.iadd, 1) := by decide +kernel
theorem dX5_isAhead_19 : decode cX5_isAhead 19 = .ok (.istore_n 3, 1) := by decide +kernel
theorem dX5_isAhead_20 : decode cX5_isAhead 20 = .ok (.bipush 10, 2) := by decide +kernel
theorem dX5_isAhead_22 : decode cX5_isAhead 22 = .ok (.aload_n 0, 1) := by decide +kernel
theorem dX5_isAhead_23 : decode cX5_isAhead 23 = .ok (.iload_n 2, 1) := by decide +kernel
theorem dX5_isAhead_24 : decode cX5_isAhead 24 = .ok (.iconst 1, 1) := by decide +kernel
theorem dX5_isAhead_25 : decode cX5_isAhead 25 = .ok (.invokevirtual 45, 3) := by decide +kernel
theorem dX5_isAhead_28 : decode cX5_isAhead 28 = .ok (.imul, 1) := by decide +kernel
theorem dX5_isAhead_29 : decode cX5_isAhead 29 = .ok (.aload_n 0, 1) := by decide +kernel
theorem dX5_isAhead_30 : decode cX5_isAhead 30 = .ok (.iload_n 2, 1) := by decide +kernel
theorem dX5_isAhead_31 : decode cX5_isAhead 31 = .ok (.iconst 2, 1) := by decide +kernel
theorem dX5_isAhead_32 : decode cX5_isAhead 32 = .ok (.invokevirtual 45, 3) := by decide +kernel
theorem dX5_isAhead_35 : decode cX5_isAhead 35 = .ok (.bipush 10, 2) := by decide +kernel
theorem dX5_isAhead_37 : decode cX5_isAhead 37 = .ok (.idiv, 1) := by decide +kernel
theorem dX5_isAhead_38 : decode cX5_isAhead 38 = .ok (.iadd, 1) := by decide +kernel
theorem dX5_isAhead_39 : decode cX5_isAhead 39 = .ok (.istore 4, 2) := by decide +kernel
theorem dX5_isAhead_41 : decode cX5_isAhead 41 = .ok (.iload_n 3, 1) := by decide +kernel
theorem dX5_isAhead_42 : decode cX5_isAhead 42 = .ok (.iload 4, 2) := by decide +kernel
theorem dX5_isAhead_44 : decode cX5_isAhead 44 = .ok (.if_icmp .lt 14, 3) := by decide +kernel
theorem dX5_isAhead_47 : decode cX5_isAhead 47 = .ok (.iload_n 3, 1) := by decide +kernel
theorem dX5_isAhead_48 : decode cX5_isAhead 48 = .ok (.iload 4, 2) := by decide +kernel
theorem dX5_isAhead_50 : decode cX5_isAhead 50 = .ok (.if_icmp .ne 12, 3) := by decide +kernel
theorem dX5_isAhead_53 : decode cX5_isAhead 53 = .ok (.iload_n 1, 1) := by decide +kernel
theorem dX5_isAhead_54 : decode cX5_isAhead 54 = .ok (.iload_n 2, 1) := by decide +kernel
theorem dX5_isAhead_55 : decode cX5_isAhead 55 = .ok (.if_icmp .ge 7, 3) := by decide +kernel
theorem dX5_isAhead_58 : decode cX5_isAhead 58 = .ok (.iconst 1, 1) := by decide +kernel
theorem dX5_isAhead_59 : decode cX5_isAhead 59 = .ok (.goto 4, 3) := by decide +kernel
theorem dX5_isAhead_62 : decode cX5_isAhead 62 = .ok (.iconst 0, 1) := by decide +kernel
theorem dX5_isAhead_63 : decode cX5_isAhead 63 = .ok (.ireturn, 1) := by decide +kernel
set_option maxRecDepth 20000 in
theorem ggX5_inOrder_X5_of : GoodIn wsX5_inOrder wsX5_of := goodIn_r _ [6, 1, 11, 12, 13, 14, 15, 16, 17, 18, 19] (by decide +kernel) (by decide +kernel)
set_option maxRecDepth 20000 in
theorem gX5_inOrder_X5_of : GoodIn wsX5_inOrder (wsV RX5 45 RX5 yX5_of wsX5_of) := goodIn_app (goodIn_of _ (by decide +kernel)) ggX5_inOrder_X5_of
set_option maxRecDepth 20000 in
theorem ggX5_inOrder_X5_isAhead : GoodIn wsX5_inOrder wsX5_isAhead := goodIn_r _ [10, 2, 3, 4, 5, 6, 1, 11, 12, 13, 14, 15, 16, 17, 18, 19] (by decide +kernel) (by decide +kernel)
set_option maxRecDepth 20000 in
theorem gX5_inOrder_X5_isAhead : GoodIn wsX5_inOrder (wsV RX5 146 RX5 yX5_isAhead wsX5_isAhead) := goodIn_app (goodIn_of _ (by decide +kernel)) ggX5_inOrder_X5_isAhead
theorem dX5_inOrder_0 : decode cX5_inOrder 0 = .ok (.iload_n 1, 1) := by decide +kernel
theorem dX5_inOrder_1 : decode cX5_inOrder 1 = .ok (.ifCond .ge 7, 3) := by decide +kernel
theorem dX5_inOrder_4 : decode cX5_inOrder 4 = .ok (.sipush (-1001), 3) := by decide +kernel
theorem dX5_inOrder_7 : decode cX5_inOrder 7 = .ok (.ireturn, 1) := by decide +kernel
theorem dX5_inOrder_8 : decode cX5_inOrder 8 = .ok (.iconst 0, 1) := by decide +kernel
theorem dX5_inOrder_9 : decode cX5_inOrder 9 = .ok (.istore_n 2, 1) := by decide +kernel
theorem dX5_inOrder_10 : decode cX5_inOrder 10 = .ok (.iload_n 2, 1) := by decide +kernel
theorem dX5_inOrder_11 : decode cX5_inOrder 11 = .ok (.aload_n 0, 1) := by decide +kernel
theorem dX5_inOrder_12 : decode cX5_inOrder 12 = .ok (.getfield 7, 3) := by decide +kernel
theorem dX5_inOrder_15 : decode cX5_inOrder 15 = .ok (.sipush 442, 3) := by decide +kernel
theorem dX5_inOrder_18 : decode cX5_inOrder 18 = .ok (.iaload, 1) := by decide +kernel
theorem dX5_inOrder_19 : decode cX5_inOrder 19 = .ok (.if_icmp .ge 79, 3) := by decide +kernel
theorem dX5_inOrder_22 : decode cX5_inOrder 22 = .ok (.iconst 0, 1) := by decide +kernel
theorem dX5_inOrder_23 : decode cX5_inOrder 23 = .ok (.istore_n 3, 1) := by decide +kernel
theorem dX5_inOrder_24 : decode cX5_inOrder 24 = .ok (.iconst 0, 1) := by decide +kernel
theorem dX5_inOrder_25 : decode cX5_inOrder 25 = .ok (.istore 4, 2) := by decide +kernel
theorem dX5_inOrder_27 : decode cX5_inOrder 27 = .ok (.iload 4, 2) := by decide +kernel
theorem dX5_inOrder_29 : decode cX5_inOrder 29 = .ok (.aload_n 0, 1) := by decide +kernel
theorem dX5_inOrder_30 : decode cX5_inOrder 30 = .ok (.getfield 7, 3) := by decide +kernel
theorem dX5_inOrder_33 : decode cX5_inOrder 33 = .ok (.sipush 442, 3) := by decide +kernel
theorem dX5_inOrder_36 : decode cX5_inOrder 36 = .ok (.iaload, 1) := by decide +kernel
theorem dX5_inOrder_37 : decode cX5_inOrder 37 = .ok (.if_icmp .ge 38, 3) := by decide +kernel
theorem dX5_inOrder_40 : decode cX5_inOrder 40 = .ok (.iload_n 3, 1) := by decide +kernel
theorem dX5_inOrder_41 : decode cX5_inOrder 41 = .ok (.aload_n 0, 1) := by decide +kernel
theorem dX5_inOrder_42 : decode cX5_inOrder 42 = .ok (.iload 4, 2) := by decide +kernel
theorem dX5_inOrder_44 : decode cX5_inOrder 44 = .ok (.iconst 4, 1) := by decide +kernel
theorem dX5_inOrder_45 : decode cX5_inOrder 45 = .ok (.invokevirtual 45, 3) := by decide +kernel
theorem dX5_inOrder_48 : decode cX5_inOrder 48 = .ok (.iconst 1, 1) := by decide +kernel
theorem dX5_inOrder_49 : decode cX5_inOrder 49 = .ok (.if_icmp .ne 17, 3) := by decide +kernel
theorem dX5_inOrder_52 : decode cX5_inOrder 52 = .ok (.aload_n 0, 1) := by decide +kernel
theorem dX5_inOrder_53 : decode cX5_inOrder 53 = .ok (.iload 4, 2) := by decide +kernel
theorem dX5_inOrder_55 : decode cX5_inOrder 55 = .ok (.iload_n 2, 1) := by decide +kernel
theorem dX5_inOrder_56 : decode cX5_inOrder 56 = .ok (.invokevirtual 146, 3) := by decide +kernel
theorem dX5_inOrder_59 : decode cX5_inOrder 59 = .ok (.ifCond .eq 7, 3) := by decide +kernel
theorem dX5_inOrder_62 : decode cX5_inOrder 62 = .ok (.iconst 1, 1) := by decide +kernel
theorem dX5_inOrder_63 : decode cX5_inOrder 63 = .ok (.goto 4, 3) := by decide +kernel
theorem dX5_inOrder_66 : decode cX5_inOrder 66 = .ok (.iconst 0, 1) := by decide +kernel
theorem dX5_inOrder_67 : decode cX5_inOrder 67 = .ok (.iadd, 1) := by decide +kernel
theorem dX5_inOrder_68 : decode cX5_inOrder 68 = .ok (.istore_n 3, 1) := by decide +kernel
theorem dX5_inOrder_69 : decode cX5_inOrder 69 = .ok (.iinc 4 1, 3) := by decide +kernel
theorem dX5_inOrder_72 : decode cX5_inOrder 72 = .ok (.goto (-45), 3) := by decide +kernel
theorem dX5_inOrder_75 : decode cX5_inOrder 75 = .ok (.aload_n 0, 1) := by decide +kernel
theorem dX5_inOrder_76 : decode cX5_inOrder 76 = .ok (.iload_n 2, 1) := by decide +kernel
theorem dX5_inOrder_77 : decode cX5_inOrder 77 = .ok (.iconst 4, 1) := by decide +kernel
theorem dX5_inOrder_78 : decode cX5_inOrder 78 = .ok (.invokevirtual 45, 3) := by decide +kernel
theorem dX5_inOrder_81 : decode cX5_inOrder 81 = .ok (.iconst 1, 1) := by decide +kernel
theorem dX5_inOrder_82 : decode cX5_inOrder 82 = .ok (.if_icmp .ne 10, 3) := by decide +kernel
theorem dX5_inOrder_85 : decode cX5_inOrder 85 = .ok (.iload_n 3, 1) := by decide +kernel
theorem dX5_inOrder_86 : decode cX5_inOrder 86 = .ok (.iload_n 1, 1) := by decide +kernel
theorem dX5_inOrder_87 : decode cX5_inOrder 87 = .ok (.if_icmp .ne 5, 3) := by decide +kernel
theorem dX5_inOrder_90 : decode cX5_inOrder 90 = .ok (.iload_n 2, 1) := by decide +kernel
theorem dX5_inOrder_91 : decode cX5_inOrder 91 = .ok (.ireturn, 1) := by decide +kernel
theorem dX5_inOrder_92 : decode cX5_inOrder 92 = .ok (.iinc 2 1, 3) := by decide +kernel
theorem dX5_inOrder_95 : decode cX5_inOrder 95 = .ok (.goto (-85), 3) := by decide +kernel
theorem dX5_inOrder_98 : decode cX5_inOrder 98 = .ok (.sipush (-1004), 3) := by decide +kernel
theorem dX5_inOrder_101 : decode cX5_inOrder 101 = .ok (.ireturn, 1) := by decide +kernel
set_option maxRecDepth 20000 in
theorem ggX5_shares_X5_isPermit : GoodIn wsX5_shares wsX5_isPermit := goodIn_r _ [5, 6, 7, 8, 4, 9, 36, 37, 38, 39, 40, 41, 42, 43, 44] (by decide +kernel) (by decide +kernel)
set_option maxRecDepth 20000 in
theorem gX5_shares_X5_isPermit : GoodIn wsX5_shares (wsV RX5 143 RX5 yX5_isPermit wsX5_isPermit) := goodIn_app (goodIn_of _ (by decide +kernel)) ggX5_shares_X5_isPermit
set_option maxRecDepth 20000 in
theorem ggX5_shares_X5_of : GoodIn wsX5_shares wsX5_of := goodIn_r _ [13, 6, 36, 37, 38, 39, 40, 41, 42, 43, 44] (by decide +kernel) (by decide +kernel)
set_option maxRecDepth 20000 in
theorem gX5_shares_X5_of : GoodIn wsX5_shares (wsV RX5 45 RX5 yX5_of wsX5_of) := goodIn_app (goodIn_of _ (by decide +kernel)) ggX5_shares_X5_of
set_option maxRecDepth 20000 in
theorem ggX5_shares_X5_air : GoodIn wsX5_shares wsX5_air := goodIn_r _ [17, 6, 10, 11, 12, 4, 13, 18, 19, 20, 21, 22, 23, 24, 25, 26, 27, 28, 29, 30, 31, 32, 33, 34, 35, 36, 37, 38, 39, 40, 41, 42, 43, 44] (by decide +kernel) (by decide +kernel)
set_option maxRecDepth 20000 in
theorem gX5_shares_X5_air : GoodIn wsX5_shares (wsV RX5 55 RX5 yX5_air wsX5_air) := goodIn_app (goodIn_of _ (by decide +kernel)) ggX5_shares_X5_air
theorem dX5_shares_0 : decode cX5_shares 0 = .ok (.aload_n 0, 1) := by decide +kernel
theorem dX5_shares_1 : decode cX5_shares 1 = .ok (.iload_n 1, 1) := by decide +kernel
theorem dX5_shares_2 : decode cX5_shares 2 = .ok (.invokevirtual 143, 3) := by decide +kernel
theorem dX5_shares_5 : decode cX5_shares 5 = .ok (.ifCond .eq 11, 3) := by decide +kernel
theorem dX5_shares_8 : decode cX5_shares 8 = .ok (.aload_n 0, 1) := by decide +kernel
theorem dX5_shares_9 : decode cX5_shares 9 = .ok (.iload_n 2, 1) := by decide +kernel
theorem dX5_shares_10 : decode cX5_shares 10 = .ok (.invokevirtual 143, 3) := by decide +kernel
theorem dX5_shares_13 : decode cX5_shares 13 = .ok (.ifCond .ne 7, 3) := by decide +kernel
theorem dX5_shares_16 : decode cX5_shares 16 = .ok (.sipush (-1001), 3) := by decide +kernel
theorem dX5_shares_19 : decode cX5_shares 19 = .ok (.ireturn, 1) := by decide +kernel
theorem dX5_shares_20 : decode cX5_shares 20 = .ok (.aload_n 0, 1) := by decide +kernel
theorem dX5_shares_21 : decode cX5_shares 21 = .ok (.aload_n 0, 1) := by decide +kernel
theorem dX5_shares_22 : decode cX5_shares 22 = .ok (.iload_n 1, 1) := by decide +kernel
theorem dX5_shares_23 : decode cX5_shares 23 = .ok (.iconst 0, 1) := by decide +kernel
theorem dX5_shares_24 : decode cX5_shares 24 = .ok (.invokevirtual 45, 3) := by decide +kernel
theorem dX5_shares_27 : decode cX5_shares 27 = .ok (.aload_n 0, 1) := by decide +kernel
theorem dX5_shares_28 : decode cX5_shares 28 = .ok (.iload_n 1, 1) := by decide +kernel
theorem dX5_shares_29 : decode cX5_shares 29 = .ok (.iconst 1, 1) := by decide +kernel
theorem dX5_shares_30 : decode cX5_shares 30 = .ok (.invokevirtual 45, 3) := by decide +kernel
theorem dX5_shares_33 : decode cX5_shares 33 = .ok (.aload_n 0, 1) := by decide +kernel
theorem dX5_shares_34 : decode cX5_shares 34 = .ok (.iload_n 1, 1) := by decide +kernel
theorem dX5_shares_35 : decode cX5_shares 35 = .ok (.iconst 2, 1) := by decide +kernel
theorem dX5_shares_36 : decode cX5_shares 36 = .ok (.invokevirtual 45, 3) := by decide +kernel
theorem dX5_shares_39 : decode cX5_shares 39 = .ok (.aload_n 0, 1) := by decide +kernel
theorem dX5_shares_40 : decode cX5_shares 40 = .ok (.iload_n 1, 1) := by decide +kernel
theorem dX5_shares_41 : decode cX5_shares 41 = .ok (.iconst 3, 1) := by decide +kernel
theorem dX5_shares_42 : decode cX5_shares 42 = .ok (.invokevirtual 45, 3) := by decide +kernel
theorem dX5_shares_45 : decode cX5_shares 45 = .ok (.iload_n 2, 1) := by decide +kernel
theorem dX5_shares_46 : decode cX5_shares 46 = .ok (.invokevirtual 55, 3) := by decide +kernel
theorem dX5_shares_49 : decode cX5_shares 49 = .ok (.ifCond .eq 7, 3) := by decide +kernel
theorem dX5_shares_52 : decode cX5_shares 52 = .ok (.iconst 1, 1) := by decide +kernel
theorem dX5_shares_53 : decode cX5_shares 53 = .ok (.goto 4, 3) := by decide +kernel
theorem dX5_shares_56 : decode cX5_shares 56 = .ok (.iconst 0, 1) := by decide +kernel
theorem dX5_shares_57 : decode cX5_shares 57 = .ok (.ireturn, 1) := by decide +kernel
set_option maxRecDepth 20000 in
theorem ggX5_inTheWay_X5_isApplication : GoodIn wsX5_inTheWay wsX5_isApplication := goodIn_r _ [5, 6, 7, 8, 4, 9, 10, 11, 12, 13, 14, 15, 16, 17, 18, 19, 20, 21, 22, 53, 54, 55, 56, 57, 58, 59, 60, 61] (by decide +kernel) (by decide +kernel)
set_option maxRecDepth 20000 in
theorem gX5_inTheWay_X5_isApplication : GoodIn wsX5_inTheWay (wsV RX5 130 RX5 yX5_isApplication wsX5_isApplication) := goodIn_app (goodIn_of _ (by decide +kernel)) ggX5_inTheWay_X5_isApplication
set_option maxRecDepth 20000 in
theorem ggX5_inTheWay_X5_firstInAir : GoodIn wsX5_inTheWay wsX5_firstInAir := goodIn_r _ [26, 10, 27, 28, 29, 4, 30, 31, 32, 33, 34, 35, 36, 37, 38, 39, 40, 41, 42, 43, 44, 45, 46, 47, 48, 49, 50, 51, 52, 53, 54, 55, 56, 57, 58, 59, 60, 61] (by decide +kernel) (by decide +kernel)
set_option maxRecDepth 20000 in
theorem gX5_inTheWay_X5_firstInAir : GoodIn wsX5_inTheWay (wsV RX5 126 RX5 yX5_firstInAir wsX5_firstInAir) := goodIn_app (goodIn_of _ (by decide +kernel)) ggX5_inTheWay_X5_firstInAir
theorem dX5_inTheWay_0 : decode cX5_inTheWay 0 = .ok (.aload_n 0, 1) := by decide +kernel
theorem dX5_inTheWay_1 : decode cX5_inTheWay 1 = .ok (.iload_n 1, 1) := by decide +kernel
theorem dX5_inTheWay_2 : decode cX5_inTheWay 2 = .ok (.iload_n 2, 1) := by decide +kernel
theorem dX5_inTheWay_3 : decode cX5_inTheWay 3 = .ok (.iload_n 3, 1) := by decide +kernel
theorem dX5_inTheWay_4 : decode cX5_inTheWay 4 = .ok (.iload 4, 2) := by decide +kernel
theorem dX5_inTheWay_6 : decode cX5_inTheWay 6 = .ok (.invokevirtual 130, 3) := by decide +kernel
theorem dX5_inTheWay_9 : decode cX5_inTheWay 9 = .ok (.ifCond .ne 7, 3) := by decide +kernel
theorem dX5_inTheWay_12 : decode cX5_inTheWay 12 = .ok (.sipush (-1001), 3) := by decide +kernel
theorem dX5_inTheWay_15 : decode cX5_inTheWay 15 = .ok (.ireturn, 1) := by decide +kernel
theorem dX5_inTheWay_16 : decode cX5_inTheWay 16 = .ok (.aload_n 0, 1) := by decide +kernel
theorem dX5_inTheWay_17 : decode cX5_inTheWay 17 = .ok (.iload_n 1, 1) := by decide +kernel
theorem dX5_inTheWay_18 : decode cX5_inTheWay 18 = .ok (.iload_n 2, 1) := by decide +kernel
theorem dX5_inTheWay_19 : decode cX5_inTheWay 19 = .ok (.iload_n 3, 1) := by decide +kernel
theorem dX5_inTheWay_20 : decode cX5_inTheWay 20 = .ok (.iload 4, 2) := by decide +kernel
theorem dX5_inTheWay_22 : decode cX5_inTheWay 22 = .ok (.invokevirtual 126, 3) := by decide +kernel
theorem dX5_inTheWay_25 : decode cX5_inTheWay 25 = .ok (.istore 5, 2) := by decide +kernel
theorem dX5_inTheWay_27 : decode cX5_inTheWay 27 = .ok (.iload 5, 2) := by decide +kernel
theorem dX5_inTheWay_29 : decode cX5_inTheWay 29 = .ok (.iconst (-1), 1) := by decide +kernel
theorem dX5_inTheWay_30 : decode cX5_inTheWay 30 = .ok (.if_icmp .ne 9, 3) := by decide +kernel
theorem dX5_inTheWay_33 : decode cX5_inTheWay 33 = .ok (.sipush (-1004), 3) := by decide +kernel
theorem dX5_inTheWay_36 : decode cX5_inTheWay 36 = .ok (.goto 5, 3) := by decide +kernel
theorem dX5_inTheWay_39 : decode cX5_inTheWay 39 = .ok (.iload 5, 2) := by decide +kernel
theorem dX5_inTheWay_41 : decode cX5_inTheWay 41 = .ok (.ireturn, 1) := by decide +kernel
set_option maxRecDepth 20000 in
theorem ggX5_firstFree_X5_isCrane : GoodIn wsX5_firstFree wsX5_isCrane := goodIn_r _ [5, 6, 7, 8, 4, 9, 80, 81, 82, 83, 84, 85, 86, 87, 88] (by decide +kernel) (by decide +kernel)
set_option maxRecDepth 20000 in
theorem gX5_firstFree_X5_isCrane : GoodIn wsX5_firstFree (wsV RX5 94 RX5 yX5_isCrane wsX5_isCrane) := goodIn_app (goodIn_of _ (by decide +kernel)) ggX5_firstFree_X5_isCrane
set_option maxRecDepth 20000 in
theorem ggX5_firstFree_X5_isSwing : GoodIn wsX5_firstFree wsX5_isSwing := goodIn_r _ [12, 7, 8, 4, 9] (by decide +kernel) (by decide +kernel)
set_option maxRecDepth 20000 in
theorem gX5_firstFree_X5_isSwing : GoodIn wsX5_firstFree (va_wsS RX5 120 yX5_isSwing wsX5_isSwing) := goodIn_app (goodIn_of _ (by decide +kernel)) ggX5_firstFree_X5_isSwing
set_option maxRecDepth 20000 in
theorem ggX5_firstFree_X5_in : GoodIn wsX5_firstFree wsX5_in := goodIn_r _ [9] (by decide +kernel) (by decide +kernel)
set_option maxRecDepth 20000 in
theorem gX5_firstFree_X5_in : GoodIn wsX5_firstFree (va_wsS RX5 26 yX5_in wsX5_in) := goodIn_app (goodIn_of _ (by decide +kernel)) ggX5_firstFree_X5_in
set_option maxRecDepth 20000 in
theorem ggX5_firstFree_X5_isNight : GoodIn wsX5_firstFree wsX5_isNight := goodIn_r _ [15, 7, 8, 4, 9] (by decide +kernel) (by decide +kernel)
set_option maxRecDepth 20000 in
theorem gX5_firstFree_X5_isNight : GoodIn wsX5_firstFree (va_wsS RX5 107 yX5_isNight wsX5_isNight) := goodIn_app (goodIn_of _ (by decide +kernel)) ggX5_firstFree_X5_isNight
set_option maxRecDepth 20000 in
theorem ggX5_firstFree_X5_refuses : GoodIn wsX5_firstFree wsX5_refuses := goodIn_r _ [19, 6, 20, 21, 22, 4, 23, 24, 25, 26, 27, 28, 29, 30, 31, 32, 33, 34, 35, 36, 37, 38, 39, 40, 41, 42, 43, 44, 45, 46, 47, 48, 49, 50, 51, 52, 53, 54, 55, 56, 57, 58, 59, 60, 61, 62, 63, 64, 65, 66, 67, 68, 69, 70, 71, 72, 73, 74, 75, 76, 77, 78, 79, 80, 81, 82, 83, 84, 85, 86, 87, 88] (by decide +kernel) (by decide +kernel)
set_option maxRecDepth 20000 in
theorem gX5_firstFree_X5_refuses : GoodIn wsX5_firstFree (wsV RX5 133 RX5 yX5_refuses wsX5_refuses) := goodIn_app (goodIn_of _ (by decide +kernel)) ggX5_firstFree_X5_refuses
theorem dX5_firstFree_0 : decode cX5_firstFree 0 = .ok (.aload_n 0, 1) := by decide +kernel
theorem dX5_firstFree_1 : decode cX5_firstFree 1 = .ok (.iload_n 1, 1) := by decide +kernel
theorem dX5_firstFree_2 : decode cX5_firstFree 2 = .ok (.invokevirtual 94, 3) := by decide +kernel
theorem dX5_firstFree_5 : decode cX5_firstFree 5 = .ok (.ifCond .eq 28, 3) := by decide +kernel
theorem dX5_firstFree_8 : decode cX5_firstFree 8 = .ok (.iload_n 2, 1) := by decide +kernel
theorem dX5_firstFree_9 : decode cX5_firstFree 9 = .ok (.invokestatic 120, 3) := by decide +kernel
theorem dX5_firstFree_12 : decode cX5_firstFree 12 = .ok (.ifCond .eq 21, 3) := by decide +kernel
theorem dX5_firstFree_15 : decode cX5_firstFree 15 = .ok (.iload_n 3, 1) := by decide +kernel
theorem dX5_firstFree_16 : decode cX5_firstFree 16 = .ok (.iconst 1, 1) := by decide +kernel
theorem dX5_firstFree_17 : decode cX5_firstFree 17 = .ok (.bipush 10, 2) := by decide +kernel
theorem dX5_firstFree_19 : decode cX5_firstFree 19 = .ok (.invokestatic 26, 3) := by decide +kernel
theorem dX5_firstFree_22 : decode cX5_firstFree 22 = .ok (.ifCond .eq 11, 3) := by decide +kernel
theorem dX5_firstFree_25 : decode cX5_firstFree 25 = .ok (.iload 4, 2) := by decide +kernel
theorem dX5_firstFree_27 : decode cX5_firstFree 27 = .ok (.invokestatic 107, 3) := by decide +kernel
theorem dX5_firstFree_30 : decode cX5_firstFree 30 = .ok (.ifCond .ne 7, 3) := by decide +kernel
theorem dX5_firstFree_33 : decode cX5_firstFree 33 = .ok (.sipush (-1001), 3) := by decide +kernel
theorem dX5_firstFree_36 : decode cX5_firstFree 36 = .ok (.ireturn, 1) := by decide +kernel
theorem dX5_firstFree_37 : decode cX5_firstFree 37 = .ok (.iload 4, 2) := by decide +kernel
theorem dX5_firstFree_39 : decode cX5_firstFree 39 = .ok (.istore 5, 2) := by decide +kernel
theorem dX5_firstFree_41 : decode cX5_firstFree 41 = .ok (.iload 5, 2) := by decide +kernel
theorem dX5_firstFree_43 : decode cX5_firstFree 43 = .ok (.bipush 30, 2) := by decide +kernel
theorem dX5_firstFree_45 : decode cX5_firstFree 45 = .ok (.if_icmp .ge 59, 3) := by decide +kernel
theorem dX5_firstFree_48 : decode cX5_firstFree 48 = .ok (.iconst 0, 1) := by decide +kernel
theorem dX5_firstFree_49 : decode cX5_firstFree 49 = .ok (.istore 6, 2) := by decide +kernel
theorem dX5_firstFree_51 : decode cX5_firstFree 51 = .ok (.iload 6, 2) := by decide +kernel
theorem dX5_firstFree_53 : decode cX5_firstFree 53 = .ok (.iload_n 3, 1) := by decide +kernel
theorem dX5_firstFree_54 : decode cX5_firstFree 54 = .ok (.iadd, 1) := by decide +kernel
theorem dX5_firstFree_55 : decode cX5_firstFree 55 = .ok (.bipush 10, 2) := by decide +kernel
theorem dX5_firstFree_57 : decode cX5_firstFree 57 = .ok (.if_icmp .gt 41, 3) := by decide +kernel
theorem dX5_firstFree_60 : decode cX5_firstFree 60 = .ok (.aload_n 0, 1) := by decide +kernel
theorem dX5_firstFree_61 : decode cX5_firstFree 61 = .ok (.iload_n 1, 1) := by decide +kernel
theorem dX5_firstFree_62 : decode cX5_firstFree 62 = .ok (.iload 5, 2) := by decide +kernel
theorem dX5_firstFree_64 : decode cX5_firstFree 64 = .ok (.bipush 10, 2) := by decide +kernel
theorem dX5_firstFree_66 : decode cX5_firstFree 66 = .ok (.iload 6, 2) := by decide +kernel
theorem dX5_firstFree_68 : decode cX5_firstFree 68 = .ok (.imul, 1) := by decide +kernel
theorem dX5_firstFree_69 : decode cX5_firstFree 69 = .ok (.iload 6, 2) := by decide +kernel
theorem dX5_firstFree_71 : decode cX5_firstFree 71 = .ok (.iadd, 1) := by decide +kernel
theorem dX5_firstFree_72 : decode cX5_firstFree 72 = .ok (.iload_n 3, 1) := by decide +kernel
theorem dX5_firstFree_73 : decode cX5_firstFree 73 = .ok (.iadd, 1) := by decide +kernel
theorem dX5_firstFree_74 : decode cX5_firstFree 74 = .ok (.iconst 1, 1) := by decide +kernel
theorem dX5_firstFree_75 : decode cX5_firstFree 75 = .ok (.isub, 1) := by decide +kernel
theorem dX5_firstFree_76 : decode cX5_firstFree 76 = .ok (.iload_n 2, 1) := by decide +kernel
theorem dX5_firstFree_77 : decode cX5_firstFree 77 = .ok (.invokevirtual 133, 3) := by decide +kernel
theorem dX5_firstFree_80 : decode cX5_firstFree 80 = .ok (.ifCond .ne 12, 3) := by decide +kernel
theorem dX5_firstFree_83 : decode cX5_firstFree 83 = .ok (.bipush 10, 2) := by decide +kernel
theorem dX5_firstFree_85 : decode cX5_firstFree 85 = .ok (.iload 5, 2) := by decide +kernel
theorem dX5_firstFree_87 : decode cX5_firstFree 87 = .ok (.imul, 1) := by decide +kernel
theorem dX5_firstFree_88 : decode cX5_firstFree 88 = .ok (.iload 6, 2) := by decide +kernel
theorem dX5_firstFree_90 : decode cX5_firstFree 90 = .ok (.iadd, 1) := by decide +kernel
theorem dX5_firstFree_91 : decode cX5_firstFree 91 = .ok (.ireturn, 1) := by decide +kernel
theorem dX5_firstFree_92 : decode cX5_firstFree 92 = .ok (.iinc 6 1, 3) := by decide +kernel
theorem dX5_firstFree_95 : decode cX5_firstFree 95 = .ok (.goto (-44), 3) := by decide +kernel
theorem dX5_firstFree_98 : decode cX5_firstFree 98 = .ok (.iinc 5 1, 3) := by decide +kernel
theorem dX5_firstFree_101 : decode cX5_firstFree 101 = .ok (.goto (-60), 3) := by decide +kernel
theorem dX5_firstFree_104 : decode cX5_firstFree 104 = .ok (.sipush (-1004), 3) := by decide +kernel
theorem dX5_firstFree_107 : decode cX5_firstFree 107 = .ok (.ireturn, 1) := by decide +kernel
set_option maxRecDepth 20000 in
theorem ggX5_type_X5_in : GoodIn wsX5_type wsX5_in := goodIn_r _ [6] (by decide +kernel) (by decide +kernel)
set_option maxRecDepth 20000 in
theorem gX5_type_X5_in : GoodIn wsX5_type (va_wsS RX5 26 yX5_in wsX5_in) := goodIn_app (goodIn_of _ (by decide +kernel)) ggX5_type_X5_in
theorem dX5_type_0 : decode cX5_type 0 = .ok (.iload_n 1, 1) := by decide +kernel
theorem dX5_type_1 : decode cX5_type 1 = .ok (.bipush 32, 2) := by decide +kernel
theorem dX5_type_3 : decode cX5_type 3 = .ok (.bipush 126, 2) := by decide +kernel
theorem dX5_type_5 : decode cX5_type 5 = .ok (.invokestatic 26, 3) := by decide +kernel
theorem dX5_type_8 : decode cX5_type 8 = .ok (.ifCond .ne 7, 3) := by decide +kernel
theorem dX5_type_11 : decode cX5_type 11 = .ok (.sipush (-1001), 3) := by decide +kernel
theorem dX5_type_14 : decode cX5_type 14 = .ok (.ireturn, 1) := by decide +kernel
theorem dX5_type_15 : decode cX5_type 15 = .ok (.aload_n 0, 1) := by decide +kernel
theorem dX5_type_16 : decode cX5_type 16 = .ok (.getfield 117, 3) := by decide +kernel
theorem dX5_type_19 : decode cX5_type 19 = .ok (.bipush 80, 2) := by decide +kernel
theorem dX5_type_21 : decode cX5_type 21 = .ok (.if_icmp .ne 7, 3) := by decide +kernel
theorem dX5_type_24 : decode cX5_type 24 = .ok (.sipush (-1003), 3) := by decide +kernel
theorem dX5_type_27 : decode cX5_type 27 = .ok (.ireturn, 1) := by decide +kernel
theorem dX5_type_28 : decode cX5_type 28 = .ok (.aload_n 0, 1) := by decide +kernel
theorem dX5_type_29 : decode cX5_type 29 = .ok (.getfield 19, 3) := by decide +kernel
theorem dX5_type_32 : decode cX5_type 32 = .ok (.aload_n 0, 1) := by decide +kernel
theorem dX5_type_33 : decode cX5_type 33 = .ok (.getfield 117, 3) := by decide +kernel
theorem dX5_type_36 : decode cX5_type 36 = .ok (.iload_n 1, 1) := by decide +kernel
theorem dX5_type_37 : decode cX5_type 37 = .ok (.i2c, 1) := by decide +kernel
theorem dX5_type_38 : decode cX5_type 38 = .ok (.castore, 1) := by decide +kernel
theorem dX5_type_39 : decode cX5_type 39 = .ok (.aload_n 0, 1) := by decide +kernel
theorem dX5_type_40 : decode cX5_type 40 = .ok (.dup, 1) := by decide +kernel
theorem dX5_type_41 : decode cX5_type 41 = .ok (.getfield 117, 3) := by decide +kernel
theorem dX5_type_44 : decode cX5_type 44 = .ok (.iconst 1, 1) := by decide +kernel
theorem dX5_type_45 : decode cX5_type 45 = .ok (.iadd, 1) := by decide +kernel
theorem dX5_type_46 : decode cX5_type 46 = .ok (.putfield 117, 3) := by decide +kernel
theorem dX5_type_49 : decode cX5_type 49 = .ok (.aload_n 0, 1) := by decide +kernel
theorem dX5_type_50 : decode cX5_type 50 = .ok (.getfield 117, 3) := by decide +kernel
theorem dX5_type_53 : decode cX5_type 53 = .ok (.ireturn, 1) := by decide +kernel
theorem dX5_clearText_0 : decode cX5_clearText 0 = .ok (.aload_n 0, 1) := by decide +kernel
theorem dX5_clearText_1 : decode cX5_clearText 1 = .ok (.getfield 117, 3) := by decide +kernel
theorem dX5_clearText_4 : decode cX5_clearText 4 = .ok (.istore_n 1, 1) := by decide +kernel
theorem dX5_clearText_5 : decode cX5_clearText 5 = .ok (.aload_n 0, 1) := by decide +kernel
theorem dX5_clearText_6 : decode cX5_clearText 6 = .ok (.iconst 0, 1) := by decide +kernel
theorem dX5_clearText_7 : decode cX5_clearText 7 = .ok (.putfield 117, 3) := by decide +kernel
theorem dX5_clearText_10 : decode cX5_clearText 10 = .ok (.iload_n 1, 1) := by decide +kernel
theorem dX5_clearText_11 : decode cX5_clearText 11 = .ok (.ireturn, 1) := by decide +kernel
theorem dX5_passes_0 : decode cX5_passes 0 = .ok (.aload_n 0, 1) := by decide +kernel
theorem dX5_passes_1 : decode cX5_passes 1 = .ok (.getfield 149, 3) := by decide +kernel
theorem dX5_passes_4 : decode cX5_passes 4 = .ok (.aload_n 0, 1) := by decide +kernel
theorem dX5_passes_5 : decode cX5_passes 5 = .ok (.getfield 117, 3) := by decide +kernel
theorem dX5_passes_8 : decode cX5_passes 8 = .ok (.if_icmp .ge 20, 3) := by decide +kernel
theorem dX5_passes_11 : decode cX5_passes 11 = .ok (.aload_n 0, 1) := by decide +kernel
theorem dX5_passes_12 : decode cX5_passes 12 = .ok (.getfield 19, 3) := by decide +kernel
theorem dX5_passes_15 : decode cX5_passes 15 = .ok (.aload_n 0, 1) := by decide +kernel
theorem dX5_passes_16 : decode cX5_passes 16 = .ok (.getfield 149, 3) := by decide +kernel
theorem dX5_passes_19 : decode cX5_passes 19 = .ok (.caload, 1) := by decide +kernel
theorem dX5_passes_20 : decode cX5_passes 20 = .ok (.iload_n 1, 1) := by decide +kernel
theorem dX5_passes_21 : decode cX5_passes 21 = .ok (.if_icmp .ne 7, 3) := by decide +kernel
theorem dX5_passes_24 : decode cX5_passes 24 = .ok (.iconst 1, 1) := by decide +kernel
theorem dX5_passes_25 : decode cX5_passes 25 = .ok (.goto 4, 3) := by decide +kernel
theorem dX5_passes_28 : decode cX5_passes 28 = .ok (.iconst 0, 1) := by decide +kernel
theorem dX5_passes_29 : decode cX5_passes 29 = .ok (.istore_n 2, 1) := by decide +kernel
theorem dX5_passes_30 : decode cX5_passes 30 = .ok (.aload_n 0, 1) := by decide +kernel
theorem dX5_passes_31 : decode cX5_passes 31 = .ok (.dup, 1) := by decide +kernel
theorem dX5_passes_32 : decode cX5_passes 32 = .ok (.getfield 149, 3) := by decide +kernel
theorem dX5_passes_35 : decode cX5_passes 35 = .ok (.iload_n 2, 1) := by decide +kernel
theorem dX5_passes_36 : decode cX5_passes 36 = .ok (.ifCond .eq 7, 3) := by decide +kernel
theorem dX5_passes_39 : decode cX5_passes 39 = .ok (.iconst 1, 1) := by decide +kernel
theorem dX5_passes_40 : decode cX5_passes 40 = .ok (.goto 4, 3) := by decide +kernel
theorem dX5_passes_43 : decode cX5_passes 43 = .ok (.iconst 0, 1) := by decide +kernel
theorem dX5_passes_44 : decode cX5_passes 44 = .ok (.iadd, 1) := by decide +kernel
theorem dX5_passes_45 : decode cX5_passes 45 = .ok (.putfield 149, 3) := by decide +kernel
theorem dX5_passes_48 : decode cX5_passes 48 = .ok (.iload_n 2, 1) := by decide +kernel
theorem dX5_passes_49 : decode cX5_passes 49 = .ok (.ireturn, 1) := by decide +kernel
set_option maxRecDepth 20000 in
theorem ggX5_number_X5_in : GoodIn wsX5_number wsX5_in := goodIn_r _ [7] (by decide +kernel) (by decide +kernel)
set_option maxRecDepth 20000 in
theorem gX5_number_X5_in : GoodIn wsX5_number (va_wsS RX5 26 yX5_in wsX5_in) := goodIn_app (goodIn_of _ (by decide +kernel)) ggX5_number_X5_in
theorem dX5_number_0 : decode cX5_number 0 = .ok (.aload_n 0, 1) := by decide +kernel
theorem dX5_number_1 : decode cX5_number 1 = .ok (.getfield 149, 3) := by decide +kernel
theorem dX5_number_4 : decode cX5_number 4 = .ok (.istore_n 2, 1) := by decide +kernel
theorem dX5_number_5 : decode cX5_number 5 = .ok (.iconst 0, 1) := by decide +kernel
theorem dX5_number_6 : decode cX5_number 6 = .ok (.istore_n 3, 1) := by decide +kernel
theorem dX5_number_7 : decode cX5_number 7 = .ok (.aload_n 0, 1) := by decide +kernel
theorem dX5_number_8 : decode cX5_number 8 = .ok (.getfield 149, 3) := by decide +kernel
theorem dX5_number_11 : decode cX5_number 11 = .ok (.aload_n 0, 1) := by decide +kernel
theorem dX5_number_12 : decode cX5_number 12 = .ok (.getfield 117, 3) := by decide +kernel
theorem dX5_number_15 : decode cX5_number 15 = .ok (.if_icmp .ge 63, 3) := by decide +kernel
theorem dX5_number_18 : decode cX5_number 18 = .ok (.aload_n 0, 1) := by decide +kernel
theorem dX5_number_19 : decode cX5_number 19 = .ok (.getfield 149, 3) := by decide +kernel
theorem dX5_number_22 : decode cX5_number 22 = .ok (.iload_n 2, 1) := by decide +kernel
theorem dX5_number_23 : decode cX5_number 23 = .ok (.iload_n 1, 1) := by decide +kernel
theorem dX5_number_24 : decode cX5_number 24 = .ok (.iadd, 1) := by decide +kernel
theorem dX5_number_25 : decode cX5_number 25 = .ok (.if_icmp .ge 53, 3) := by decide +kernel
theorem dX5_number_28 : decode cX5_number 28 = .ok (.aload_n 0, 1) := by decide +kernel
theorem dX5_number_29 : decode cX5_number 29 = .ok (.getfield 19, 3) := by decide +kernel
theorem dX5_number_32 : decode cX5_number 32 = .ok (.aload_n 0, 1) := by decide +kernel
theorem dX5_number_33 : decode cX5_number 33 = .ok (.getfield 149, 3) := by decide +kernel
theorem dX5_number_36 : decode cX5_number 36 = .ok (.caload, 1) := by decide +kernel
theorem dX5_number_37 : decode cX5_number 37 = .ok (.bipush 48, 2) := by decide +kernel
theorem dX5_number_39 : decode cX5_number 39 = .ok (.bipush 57, 2) := by decide +kernel
theorem dX5_number_41 : decode cX5_number 41 = .ok (.invokestatic 26, 3) := by decide +kernel
theorem dX5_number_44 : decode cX5_number 44 = .ok (.ifCond .eq 34, 3) := by decide +kernel
theorem dX5_number_47 : decode cX5_number 47 = .ok (.bipush 10, 2) := by decide +kernel
theorem dX5_number_49 : decode cX5_number 49 = .ok (.iload_n 3, 1) := by decide +kernel
theorem dX5_number_50 : decode cX5_number 50 = .ok (.imul, 1) := by decide +kernel
theorem dX5_number_51 : decode cX5_number 51 = .ok (.aload_n 0, 1) := by decide +kernel
theorem dX5_number_52 : decode cX5_number 52 = .ok (.getfield 19, 3) := by decide +kernel
theorem dX5_number_55 : decode cX5_number 55 = .ok (.aload_n 0, 1) := by decide +kernel
theorem dX5_number_56 : decode cX5_number 56 = .ok (.getfield 149, 3) := by decide +kernel
theorem dX5_number_59 : decode cX5_number 59 = .ok (.caload, 1) := by decide +kernel
theorem dX5_number_60 : decode cX5_number 60 = .ok (.iadd, 1) := by decide +kernel
theorem dX5_number_61 : decode cX5_number 61 = .ok (.bipush 48, 2) := by decide +kernel
theorem dX5_number_63 : decode cX5_number 63 = .ok (.isub, 1) := by decide +kernel
theorem dX5_number_64 : decode cX5_number 64 = .ok (.istore_n 3, 1) := by decide +kernel
theorem dX5_number_65 : decode cX5_number 65 = .ok (.aload_n 0, 1) := by decide +kernel
theorem dX5_number_66 : decode cX5_number 66 = .ok (.dup, 1) := by decide +kernel
theorem dX5_number_67 : decode cX5_number 67 = .ok (.getfield 149, 3) := by decide +kernel
theorem dX5_number_70 : decode cX5_number 70 = .ok (.iconst 1, 1) := by decide +kernel
theorem dX5_number_71 : decode cX5_number 71 = .ok (.iadd, 1) := by decide +kernel
theorem dX5_number_72 : decode cX5_number 72 = .ok (.putfield 149, 3) := by decide +kernel
theorem dX5_number_75 : decode cX5_number 75 = .ok (.goto (-68), 3) := by decide +kernel
theorem dX5_number_78 : decode cX5_number 78 = .ok (.aload_n 0, 1) := by decide +kernel
theorem dX5_number_79 : decode cX5_number 79 = .ok (.getfield 149, 3) := by decide +kernel
theorem dX5_number_82 : decode cX5_number 82 = .ok (.iload_n 2, 1) := by decide +kernel
theorem dX5_number_83 : decode cX5_number 83 = .ok (.if_icmp .le 7, 3) := by decide +kernel
theorem dX5_number_86 : decode cX5_number 86 = .ok (.iload_n 3, 1) := by decide +kernel
theorem dX5_number_87 : decode cX5_number 87 = .ok (.goto 4, 3) := by decide +kernel
theorem dX5_number_90 : decode cX5_number 90 = .ok (.iconst (-1), 1) := by decide +kernel
theorem dX5_number_91 : decode cX5_number 91 = .ok (.ireturn, 1) := by decide +kernel
set_option maxRecDepth 20000 in
theorem ggX5_readsForm_X5_number : GoodIn wsX5_readsForm wsX5_number := goodIn_r _ [6, 7, 8, 9, 10, 11, 5, 12, 17, 18, 19, 20, 21, 22, 23, 24, 25] (by decide +kernel) (by decide +kernel)
set_option maxRecDepth 20000 in
theorem gX5_readsForm_X5_number : GoodIn wsX5_readsForm (wsV RX5 152 RX5 yX5_number wsX5_number) := goodIn_app (goodIn_of _ (by decide +kernel)) ggX5_readsForm_X5_number
set_option maxRecDepth 20000 in
theorem ggX5_readsForm_X5_passes : GoodIn wsX5_readsForm wsX5_passes := goodIn_r _ [16, 7, 8, 9, 17, 18, 19, 20, 21, 22, 23, 24, 25] (by decide +kernel) (by decide +kernel)
set_option maxRecDepth 20000 in
theorem gX5_readsForm_X5_passes : GoodIn wsX5_readsForm (wsV RX5 155 RX5 yX5_passes wsX5_passes) := goodIn_app (goodIn_of _ (by decide +kernel)) ggX5_readsForm_X5_passes
theorem dX5_readsForm_0 : decode cX5_readsForm 0 = .ok (.aload_n 0, 1) := by decide +kernel
theorem dX5_readsForm_1 : decode cX5_readsForm 1 = .ok (.getfield 23, 3) := by decide +kernel
theorem dX5_readsForm_4 : decode cX5_readsForm 4 = .ok (.iconst 0, 1) := by decide +kernel
theorem dX5_readsForm_5 : decode cX5_readsForm 5 = .ok (.aload_n 0, 1) := by decide +kernel
theorem dX5_readsForm_6 : decode cX5_readsForm 6 = .ok (.iconst 1, 1) := by decide +kernel
theorem dX5_readsForm_7 : decode cX5_readsForm 7 = .ok (.invokevirtual 152, 3) := by decide +kernel
theorem dX5_readsForm_10 : decode cX5_readsForm 10 = .ok (.iastore, 1) := by decide +kernel
theorem dX5_readsForm_11 : decode cX5_readsForm 11 = .ok (.aload_n 0, 1) := by decide +kernel
theorem dX5_readsForm_12 : decode cX5_readsForm 12 = .ok (.getfield 23, 3) := by decide +kernel
theorem dX5_readsForm_15 : decode cX5_readsForm 15 = .ok (.iconst 1, 1) := by decide +kernel
theorem dX5_readsForm_16 : decode cX5_readsForm 16 = .ok (.aload_n 0, 1) := by decide +kernel
theorem dX5_readsForm_17 : decode cX5_readsForm 17 = .ok (.getfield 23, 3) := by decide +kernel
theorem dX5_readsForm_20 : decode cX5_readsForm 20 = .ok (.iconst 0, 1) := by decide +kernel
theorem dX5_readsForm_21 : decode cX5_readsForm 21 = .ok (.iaload, 1) := by decide +kernel
theorem dX5_readsForm_22 : decode cX5_readsForm 22 = .ok (.ifCond .lt 20, 3) := by decide +kernel
theorem dX5_readsForm_25 : decode cX5_readsForm 25 = .ok (.aload_n 0, 1) := by decide +kernel
theorem dX5_readsForm_26 : decode cX5_readsForm 26 = .ok (.bipush 110, 2) := by decide +kernel
theorem dX5_readsForm_28 : decode cX5_readsForm 28 = .ok (.invokevirtual 155, 3) := by decide +kernel
theorem dX5_readsForm_31 : decode cX5_readsForm 31 = .ok (.ifCond .eq 11, 3) := by decide +kernel
theorem dX5_readsForm_34 : decode cX5_readsForm 34 = .ok (.aload_n 0, 1) := by decide +kernel
theorem dX5_readsForm_35 : decode cX5_readsForm 35 = .ok (.iconst 2, 1) := by decide +kernel
theorem dX5_readsForm_36 : decode cX5_readsForm 36 = .ok (.invokevirtual 152, 3) := by decide +kernel
theorem dX5_readsForm_39 : decode cX5_readsForm 39 = .ok (.goto 4, 3) := by decide +kernel
theorem dX5_readsForm_42 : decode cX5_readsForm 42 = .ok (.iconst (-1), 1) := by decide +kernel
theorem dX5_readsForm_43 : decode cX5_readsForm 43 = .ok (.iastore, 1) := by decide +kernel
theorem dX5_readsForm_44 : decode cX5_readsForm 44 = .ok (.aload_n 0, 1) := by decide +kernel
theorem dX5_readsForm_45 : decode cX5_readsForm 45 = .ok (.getfield 23, 3) := by decide +kernel
theorem dX5_readsForm_48 : decode cX5_readsForm 48 = .ok (.iconst 2, 1) := by decide +kernel
theorem dX5_readsForm_49 : decode cX5_readsForm 49 = .ok (.aload_n 0, 1) := by decide +kernel
theorem dX5_readsForm_50 : decode cX5_readsForm 50 = .ok (.getfield 23, 3) := by decide +kernel
theorem dX5_readsForm_53 : decode cX5_readsForm 53 = .ok (.iconst 1, 1) := by decide +kernel
theorem dX5_readsForm_54 : decode cX5_readsForm 54 = .ok (.iaload, 1) := by decide +kernel
theorem dX5_readsForm_55 : decode cX5_readsForm 55 = .ok (.ifCond .lt 20, 3) := by decide +kernel
theorem dX5_readsForm_58 : decode cX5_readsForm 58 = .ok (.aload_n 0, 1) := by decide +kernel
theorem dX5_readsForm_59 : decode cX5_readsForm 59 = .ok (.bipush 104, 2) := by decide +kernel
theorem dX5_readsForm_61 : decode cX5_readsForm 61 = .ok (.invokevirtual 155, 3) := by decide +kernel
theorem dX5_readsForm_64 : decode cX5_readsForm 64 = .ok (.ifCond .eq 11, 3) := by decide +kernel
theorem dX5_readsForm_67 : decode cX5_readsForm 67 = .ok (.aload_n 0, 1) := by decide +kernel
theorem dX5_readsForm_68 : decode cX5_readsForm 68 = .ok (.iconst 1, 1) := by decide +kernel
theorem dX5_readsForm_69 : decode cX5_readsForm 69 = .ok (.invokevirtual 152, 3) := by decide +kernel
theorem dX5_readsForm_72 : decode cX5_readsForm 72 = .ok (.goto 4, 3) := by decide +kernel
theorem dX5_readsForm_75 : decode cX5_readsForm 75 = .ok (.iconst (-1), 1) := by decide +kernel
theorem dX5_readsForm_76 : decode cX5_readsForm 76 = .ok (.iastore, 1) := by decide +kernel
theorem dX5_readsForm_77 : decode cX5_readsForm 77 = .ok (.aload_n 0, 1) := by decide +kernel
theorem dX5_readsForm_78 : decode cX5_readsForm 78 = .ok (.getfield 23, 3) := by decide +kernel
theorem dX5_readsForm_81 : decode cX5_readsForm 81 = .ok (.iconst 3, 1) := by decide +kernel
theorem dX5_readsForm_82 : decode cX5_readsForm 82 = .ok (.aload_n 0, 1) := by decide +kernel
theorem dX5_readsForm_83 : decode cX5_readsForm 83 = .ok (.getfield 23, 3) := by decide +kernel
theorem dX5_readsForm_86 : decode cX5_readsForm 86 = .ok (.iconst 2, 1) := by decide +kernel
theorem dX5_readsForm_87 : decode cX5_readsForm 87 = .ok (.iaload, 1) := by decide +kernel
theorem dX5_readsForm_88 : decode cX5_readsForm 88 = .ok (.ifCond .lt 20, 3) := by decide +kernel
theorem dX5_readsForm_91 : decode cX5_readsForm 91 = .ok (.aload_n 0, 1) := by decide +kernel
theorem dX5_readsForm_92 : decode cX5_readsForm 92 = .ok (.bipush 45, 2) := by decide +kernel
theorem dX5_readsForm_94 : decode cX5_readsForm 94 = .ok (.invokevirtual 155, 3) := by decide +kernel
theorem dX5_readsForm_97 : decode cX5_readsForm 97 = .ok (.ifCond .eq 11, 3) := by decide +kernel
theorem dX5_readsForm_100 : decode cX5_readsForm 100 = .ok (.aload_n 0, 1) := by decide +kernel
theorem dX5_readsForm_101 : decode cX5_readsForm 101 = .ok (.iconst 1, 1) := by decide +kernel
theorem dX5_readsForm_102 : decode cX5_readsForm 102 = .ok (.invokevirtual 152, 3) := by decide +kernel
theorem dX5_readsForm_105 : decode cX5_readsForm 105 = .ok (.goto 4, 3) := by decide +kernel
theorem dX5_readsForm_108 : decode cX5_readsForm 108 = .ok (.iconst (-1), 1) := by decide +kernel
theorem dX5_readsForm_109 : decode cX5_readsForm 109 = .ok (.iastore, 1) := by decide +kernel
theorem dX5_readsForm_110 : decode cX5_readsForm 110 = .ok (.aload_n 0, 1) := by decide +kernel
theorem dX5_readsForm_111 : decode cX5_readsForm 111 = .ok (.getfield 23, 3) := by decide +kernel
theorem dX5_readsForm_114 : decode cX5_readsForm 114 = .ok (.iconst 4, 1) := by decide +kernel
theorem dX5_readsForm_115 : decode cX5_readsForm 115 = .ok (.aload_n 0, 1) := by decide +kernel
theorem dX5_readsForm_116 : decode cX5_readsForm 116 = .ok (.getfield 23, 3) := by decide +kernel
theorem dX5_readsForm_119 : decode cX5_readsForm 119 = .ok (.iconst 3, 1) := by decide +kernel
theorem dX5_readsForm_120 : decode cX5_readsForm 120 = .ok (.iaload, 1) := by decide +kernel
theorem dX5_readsForm_121 : decode cX5_readsForm 121 = .ok (.ifCond .lt 20, 3) := by decide +kernel
theorem dX5_readsForm_124 : decode cX5_readsForm 124 = .ok (.aload_n 0, 1) := by decide +kernel
theorem dX5_readsForm_125 : decode cX5_readsForm 125 = .ok (.bipush 115, 2) := by decide +kernel
theorem dX5_readsForm_127 : decode cX5_readsForm 127 = .ok (.invokevirtual 155, 3) := by decide +kernel
theorem dX5_readsForm_130 : decode cX5_readsForm 130 = .ok (.ifCond .eq 11, 3) := by decide +kernel
theorem dX5_readsForm_133 : decode cX5_readsForm 133 = .ok (.aload_n 0, 1) := by decide +kernel
theorem dX5_readsForm_134 : decode cX5_readsForm 134 = .ok (.iconst 3, 1) := by decide +kernel
theorem dX5_readsForm_135 : decode cX5_readsForm 135 = .ok (.invokevirtual 152, 3) := by decide +kernel
theorem dX5_readsForm_138 : decode cX5_readsForm 138 = .ok (.goto 4, 3) := by decide +kernel
theorem dX5_readsForm_141 : decode cX5_readsForm 141 = .ok (.iconst (-1), 1) := by decide +kernel
theorem dX5_readsForm_142 : decode cX5_readsForm 142 = .ok (.iastore, 1) := by decide +kernel
theorem dX5_readsForm_143 : decode cX5_readsForm 143 = .ok (.aload_n 0, 1) := by decide +kernel
theorem dX5_readsForm_144 : decode cX5_readsForm 144 = .ok (.getfield 23, 3) := by decide +kernel
theorem dX5_readsForm_147 : decode cX5_readsForm 147 = .ok (.iconst 4, 1) := by decide +kernel
theorem dX5_readsForm_148 : decode cX5_readsForm 148 = .ok (.iaload, 1) := by decide +kernel
theorem dX5_readsForm_149 : decode cX5_readsForm 149 = .ok (.ifCond .lt 16, 3) := by decide +kernel
theorem dX5_readsForm_152 : decode cX5_readsForm 152 = .ok (.aload_n 0, 1) := by decide +kernel
theorem dX5_readsForm_153 : decode cX5_readsForm 153 = .ok (.bipush 59, 2) := by decide +kernel
theorem dX5_readsForm_155 : decode cX5_readsForm 155 = .ok (.invokevirtual 155, 3) := by decide +kernel
theorem dX5_readsForm_158 : decode cX5_readsForm 158 = .ok (.ifCond .eq 7, 3) := by decide +kernel
theorem dX5_readsForm_161 : decode cX5_readsForm 161 = .ok (.iconst 1, 1) := by decide +kernel
theorem dX5_readsForm_162 : decode cX5_readsForm 162 = .ok (.goto 4, 3) := by decide +kernel
theorem dX5_readsForm_165 : decode cX5_readsForm 165 = .ok (.iconst 0, 1) := by decide +kernel
theorem dX5_readsForm_166 : decode cX5_readsForm 166 = .ok (.ireturn, 1) := by decide +kernel
set_option maxRecDepth 20000 in
theorem ggX5_entersOne_X5_readsForm : GoodIn wsX5_entersOne wsX5_readsForm := goodIn_r _ [6, 1, 7, 8, 9, 5, 10, 11, 12, 13, 14, 15, 16, 17, 18, 19, 20, 115, 116, 117, 118, 119, 120, 121, 122, 123] (by decide +kernel) (by decide +kernel)
set_option maxRecDepth 20000 in
theorem gX5_entersOne_X5_readsForm : GoodIn wsX5_entersOne (wsV RX5 159 RX5 yX5_readsForm wsX5_readsForm) := goodIn_app (goodIn_of _ (by decide +kernel)) ggX5_entersOne_X5_readsForm
set_option maxRecDepth 20000 in
theorem ggX5_entersOne_X5_isApplication : GoodIn wsX5_entersOne wsX5_isApplication := goodIn_r _ [24, 25, 26, 27, 5, 28, 29, 14, 15, 16, 30, 31, 32, 33, 34, 35, 36, 37, 38, 115, 116, 117, 118, 119, 120, 121, 122, 123] (by decide +kernel) (by decide +kernel)
set_option maxRecDepth 20000 in
theorem gX5_entersOne_X5_isApplication : GoodIn wsX5_entersOne (wsV RX5 130 RX5 yX5_isApplication wsX5_isApplication) := goodIn_app (goodIn_of _ (by decide +kernel)) ggX5_entersOne_X5_isApplication
set_option maxRecDepth 20000 in
theorem ggX5_entersOne_X5_refuses : GoodIn wsX5_entersOne wsX5_refuses := goodIn_r _ [42, 29, 43, 44, 45, 5, 46, 47, 48, 49, 50, 51, 52, 53, 54, 55, 56, 57, 58, 59, 60, 61, 62, 63, 64, 65, 66, 67, 68, 69, 70, 71, 72, 73, 74, 75, 76, 77, 78, 79, 80, 81, 82, 83, 84, 85, 86, 87, 88, 89, 90, 91, 92, 93, 94, 95, 96, 97, 98, 99, 100, 101, 102, 115, 116, 117, 118, 119, 120, 121, 122, 123] (by decide +kernel) (by decide +kernel)
set_option maxRecDepth 20000 in
theorem gX5_entersOne_X5_refuses : GoodIn wsX5_entersOne (wsV RX5 133 RX5 yX5_refuses wsX5_refuses) := goodIn_app (goodIn_of _ (by decide +kernel)) ggX5_entersOne_X5_refuses
set_option maxRecDepth 20000 in
theorem ggX5_entersOne_X5_isFull : GoodIn wsX5_entersOne wsX5_isFull := goodIn_r _ [106, 29, 107, 108, 109, 5, 110, 43, 44, 45, 46, 115, 116, 117, 118, 119, 120, 121, 122, 123] (by decide +kernel) (by decide +kernel)
set_option maxRecDepth 20000 in
theorem gX5_entersOne_X5_isFull : GoodIn wsX5_entersOne (wsV RX5 136 RX5 yX5_isFull wsX5_isFull) := goodIn_app (goodIn_of _ (by decide +kernel)) ggX5_entersOne_X5_isFull
set_option maxRecDepth 20000 in
theorem ggX5_entersOne_X5_grants : GoodIn wsX5_entersOne wsX5_grants := goodIn_r _ [114, 29, 115, 116, 117, 118, 119, 120, 121, 122, 123] (by decide +kernel) (by decide +kernel)
set_option maxRecDepth 20000 in
theorem gX5_entersOne_X5_grants : GoodIn wsX5_entersOne (wsV RX5 140 RX5 yX5_grants wsX5_grants) := goodIn_app (goodIn_of _ (by decide +kernel)) ggX5_entersOne_X5_grants
theorem dX5_entersOne_0 : decode cX5_entersOne 0 = .ok (.aload_n 0, 1) := by decide +kernel
theorem dX5_entersOne_1 : decode cX5_entersOne 1 = .ok (.invokevirtual 159, 3) := by decide +kernel
theorem dX5_entersOne_4 : decode cX5_entersOne 4 = .ok (.ifCond .ne 6, 3) := by decide +kernel
theorem dX5_entersOne_7 : decode cX5_entersOne 7 = .ok (.bipush 11, 2) := by decide +kernel
theorem dX5_entersOne_9 : decode cX5_entersOne 9 = .ok (.ireturn, 1) := by decide +kernel
theorem dX5_entersOne_10 : decode cX5_entersOne 10 = .ok (.bipush 10, 2) := by decide +kernel
theorem dX5_entersOne_12 : decode cX5_entersOne 12 = .ok (.aload_n 0, 1) := by decide +kernel
theorem dX5_entersOne_13 : decode cX5_entersOne 13 = .ok (.getfield 23, 3) := by decide +kernel
theorem dX5_entersOne_16 : decode cX5_entersOne 16 = .ok (.iconst 2, 1) := by decide +kernel
theorem dX5_entersOne_17 : decode cX5_entersOne 17 = .ok (.iaload, 1) := by decide +kernel
theorem dX5_entersOne_18 : decode cX5_entersOne 18 = .ok (.imul, 1) := by decide +kernel
theorem dX5_entersOne_19 : decode cX5_entersOne 19 = .ok (.aload_n 0, 1) := by decide +kernel
theorem dX5_entersOne_20 : decode cX5_entersOne 20 = .ok (.getfield 23, 3) := by decide +kernel
theorem dX5_entersOne_23 : decode cX5_entersOne 23 = .ok (.iconst 3, 1) := by decide +kernel
theorem dX5_entersOne_24 : decode cX5_entersOne 24 = .ok (.iaload, 1) := by decide +kernel
theorem dX5_entersOne_25 : decode cX5_entersOne 25 = .ok (.iadd, 1) := by decide +kernel
theorem dX5_entersOne_26 : decode cX5_entersOne 26 = .ok (.istore_n 1, 1) := by decide +kernel
theorem dX5_entersOne_27 : decode cX5_entersOne 27 = .ok (.aload_n 0, 1) := by decide +kernel
theorem dX5_entersOne_28 : decode cX5_entersOne 28 = .ok (.aload_n 0, 1) := by decide +kernel
theorem dX5_entersOne_29 : decode cX5_entersOne 29 = .ok (.getfield 23, 3) := by decide +kernel
theorem dX5_entersOne_32 : decode cX5_entersOne 32 = .ok (.iconst 0, 1) := by decide +kernel
theorem dX5_entersOne_33 : decode cX5_entersOne 33 = .ok (.iaload, 1) := by decide +kernel
theorem dX5_entersOne_34 : decode cX5_entersOne 34 = .ok (.aload_n 0, 1) := by decide +kernel
theorem dX5_entersOne_35 : decode cX5_entersOne 35 = .ok (.getfield 23, 3) := by decide +kernel
theorem dX5_entersOne_38 : decode cX5_entersOne 38 = .ok (.iconst 1, 1) := by decide +kernel
theorem dX5_entersOne_39 : decode cX5_entersOne 39 = .ok (.iaload, 1) := by decide +kernel
theorem dX5_entersOne_40 : decode cX5_entersOne 40 = .ok (.iload_n 1, 1) := by decide +kernel
theorem dX5_entersOne_41 : decode cX5_entersOne 41 = .ok (.aload_n 0, 1) := by decide +kernel
theorem dX5_entersOne_42 : decode cX5_entersOne 42 = .ok (.getfield 23, 3) := by decide +kernel
theorem dX5_entersOne_45 : decode cX5_entersOne 45 = .ok (.iconst 4, 1) := by decide +kernel
theorem dX5_entersOne_46 : decode cX5_entersOne 46 = .ok (.iaload, 1) := by decide +kernel
theorem dX5_entersOne_47 : decode cX5_entersOne 47 = .ok (.invokevirtual 130, 3) := by decide +kernel
theorem dX5_entersOne_50 : decode cX5_entersOne 50 = .ok (.ifCond .ne 6, 3) := by decide +kernel
theorem dX5_entersOne_53 : decode cX5_entersOne 53 = .ok (.bipush 12, 2) := by decide +kernel
theorem dX5_entersOne_55 : decode cX5_entersOne 55 = .ok (.ireturn, 1) := by decide +kernel
theorem dX5_entersOne_56 : decode cX5_entersOne 56 = .ok (.aload_n 0, 1) := by decide +kernel
theorem dX5_entersOne_57 : decode cX5_entersOne 57 = .ok (.aload_n 0, 1) := by decide +kernel
theorem dX5_entersOne_58 : decode cX5_entersOne 58 = .ok (.getfield 23, 3) := by decide +kernel
theorem dX5_entersOne_61 : decode cX5_entersOne 61 = .ok (.iconst 0, 1) := by decide +kernel
theorem dX5_entersOne_62 : decode cX5_entersOne 62 = .ok (.iaload, 1) := by decide +kernel
theorem dX5_entersOne_63 : decode cX5_entersOne 63 = .ok (.aload_n 0, 1) := by decide +kernel
theorem dX5_entersOne_64 : decode cX5_entersOne 64 = .ok (.getfield 23, 3) := by decide +kernel
theorem dX5_entersOne_67 : decode cX5_entersOne 67 = .ok (.iconst 1, 1) := by decide +kernel
theorem dX5_entersOne_68 : decode cX5_entersOne 68 = .ok (.iaload, 1) := by decide +kernel
theorem dX5_entersOne_69 : decode cX5_entersOne 69 = .ok (.iload_n 1, 1) := by decide +kernel
theorem dX5_entersOne_70 : decode cX5_entersOne 70 = .ok (.aload_n 0, 1) := by decide +kernel
theorem dX5_entersOne_71 : decode cX5_entersOne 71 = .ok (.getfield 23, 3) := by decide +kernel
theorem dX5_entersOne_74 : decode cX5_entersOne 74 = .ok (.iconst 4, 1) := by decide +kernel
theorem dX5_entersOne_75 : decode cX5_entersOne 75 = .ok (.iaload, 1) := by decide +kernel
theorem dX5_entersOne_76 : decode cX5_entersOne 76 = .ok (.invokevirtual 133, 3) := by decide +kernel
theorem dX5_entersOne_79 : decode cX5_entersOne 79 = .ok (.istore_n 2, 1) := by decide +kernel
theorem dX5_entersOne_80 : decode cX5_entersOne 80 = .ok (.iload_n 2, 1) := by decide +kernel
theorem dX5_entersOne_81 : decode cX5_entersOne 81 = .ok (.ifCond .gt 10, 3) := by decide +kernel
theorem dX5_entersOne_84 : decode cX5_entersOne 84 = .ok (.aload_n 0, 1) := by decide +kernel
theorem dX5_entersOne_85 : decode cX5_entersOne 85 = .ok (.invokevirtual 136, 3) := by decide +kernel
theorem dX5_entersOne_88 : decode cX5_entersOne 88 = .ok (.ifCond .eq 13, 3) := by decide +kernel
theorem dX5_entersOne_91 : decode cX5_entersOne 91 = .ok (.iload_n 2, 1) := by decide +kernel
theorem dX5_entersOne_92 : decode cX5_entersOne 92 = .ok (.ifCond .le 7, 3) := by decide +kernel
theorem dX5_entersOne_95 : decode cX5_entersOne 95 = .ok (.iload_n 2, 1) := by decide +kernel
theorem dX5_entersOne_96 : decode cX5_entersOne 96 = .ok (.goto 4, 3) := by decide +kernel
theorem dX5_entersOne_99 : decode cX5_entersOne 99 = .ok (.iconst 5, 1) := by decide +kernel
theorem dX5_entersOne_100 : decode cX5_entersOne 100 = .ok (.ireturn, 1) := by decide +kernel
theorem dX5_entersOne_101 : decode cX5_entersOne 101 = .ok (.aload_n 0, 1) := by decide +kernel
theorem dX5_entersOne_102 : decode cX5_entersOne 102 = .ok (.aload_n 0, 1) := by decide +kernel
theorem dX5_entersOne_103 : decode cX5_entersOne 103 = .ok (.getfield 23, 3) := by decide +kernel
theorem dX5_entersOne_106 : decode cX5_entersOne 106 = .ok (.iconst 0, 1) := by decide +kernel
theorem dX5_entersOne_107 : decode cX5_entersOne 107 = .ok (.iaload, 1) := by decide +kernel
theorem dX5_entersOne_108 : decode cX5_entersOne 108 = .ok (.aload_n 0, 1) := by decide +kernel
theorem dX5_entersOne_109 : decode cX5_entersOne 109 = .ok (.getfield 23, 3) := by decide +kernel
theorem dX5_entersOne_112 : decode cX5_entersOne 112 = .ok (.iconst 1, 1) := by decide +kernel
theorem dX5_entersOne_113 : decode cX5_entersOne 113 = .ok (.iaload, 1) := by decide +kernel
theorem dX5_entersOne_114 : decode cX5_entersOne 114 = .ok (.iload_n 1, 1) := by decide +kernel
theorem dX5_entersOne_115 : decode cX5_entersOne 115 = .ok (.aload_n 0, 1) := by decide +kernel
theorem dX5_entersOne_116 : decode cX5_entersOne 116 = .ok (.getfield 23, 3) := by decide +kernel
theorem dX5_entersOne_119 : decode cX5_entersOne 119 = .ok (.iconst 4, 1) := by decide +kernel
theorem dX5_entersOne_120 : decode cX5_entersOne 120 = .ok (.iaload, 1) := by decide +kernel
theorem dX5_entersOne_121 : decode cX5_entersOne 121 = .ok (.invokevirtual 140, 3) := by decide +kernel
theorem dX5_entersOne_124 : decode cX5_entersOne 124 = .ok (.pop, 1) := by decide +kernel
theorem dX5_entersOne_125 : decode cX5_entersOne 125 = .ok (.iconst 0, 1) := by decide +kernel
theorem dX5_entersOne_126 : decode cX5_entersOne 126 = .ok (.ireturn, 1) := by decide +kernel
set_option maxRecDepth 20000 in
theorem ggX5_faulty_X5_entersOne : GoodIn wsX5_faulty wsX5_entersOne := goodIn_r _ [10, 11, 12, 13, 14, 9, 15, 16, 17, 18, 19, 3, 4, 20, 21, 22, 23, 24, 25, 26, 27, 28, 29, 30, 31, 32, 33, 34, 35, 2, 36, 37, 38, 39, 40, 41, 42, 43, 44, 45, 46, 47, 48, 49, 50, 51, 52, 53, 54, 55, 56, 57, 58, 59, 60, 61, 62, 63, 64, 65, 66, 67, 68, 69, 70, 71, 72, 73, 74, 75, 76, 77, 78, 79, 80, 81, 82, 83, 84, 85, 86, 87, 88, 89, 90, 91, 92, 93, 94, 95, 96, 97, 98, 99, 100, 101, 102, 103, 104, 105, 106, 107, 108, 109, 110, 111, 112, 113, 114, 115, 116, 117, 118, 119, 120, 121, 122, 123, 124, 125, 126, 127, 128, 129] (by decide +kernel) (by decide +kernel)
set_option maxRecDepth 20000 in
theorem gX5_faulty_X5_entersOne : GoodIn wsX5_faulty (wsV RX5 162 RX5 yX5_entersOne wsX5_entersOne) := goodIn_app (goodIn_of _ (by decide +kernel)) ggX5_faulty_X5_entersOne
theorem dX5_faulty_0 : decode cX5_faulty 0 = .ok (.iconst 0, 1) := by decide +kernel
theorem dX5_faulty_1 : decode cX5_faulty 1 = .ok (.istore_n 1, 1) := by decide +kernel
theorem dX5_faulty_2 : decode cX5_faulty 2 = .ok (.iload_n 1, 1) := by decide +kernel
theorem dX5_faulty_3 : decode cX5_faulty 3 = .ok (.sipush 1445, 3) := by decide +kernel
theorem dX5_faulty_6 : decode cX5_faulty 6 = .ok (.if_icmp .ge 21, 3) := by decide +kernel
theorem dX5_faulty_9 : decode cX5_faulty 9 = .ok (.aload_n 0, 1) := by decide +kernel
theorem dX5_faulty_10 : decode cX5_faulty 10 = .ok (.getfield 16, 3) := by decide +kernel
theorem dX5_faulty_13 : decode cX5_faulty 13 = .ok (.iload_n 1, 1) := by decide +kernel
theorem dX5_faulty_14 : decode cX5_faulty 14 = .ok (.aload_n 0, 1) := by decide +kernel
theorem dX5_faulty_15 : decode cX5_faulty 15 = .ok (.getfield 7, 3) := by decide +kernel
theorem dX5_faulty_18 : decode cX5_faulty 18 = .ok (.iload_n 1, 1) := by decide +kernel
theorem dX5_faulty_19 : decode cX5_faulty 19 = .ok (.iaload, 1) := by decide +kernel
theorem dX5_faulty_20 : decode cX5_faulty 20 = .ok (.iastore, 1) := by decide +kernel
theorem dX5_faulty_21 : decode cX5_faulty 21 = .ok (.iinc 1 1, 3) := by decide +kernel
theorem dX5_faulty_24 : decode cX5_faulty 24 = .ok (.goto (-22), 3) := by decide +kernel
theorem dX5_faulty_27 : decode cX5_faulty 27 = .ok (.sipush (-1004), 3) := by decide +kernel
theorem dX5_faulty_30 : decode cX5_faulty 30 = .ok (.istore_n 1, 1) := by decide +kernel
theorem dX5_faulty_31 : decode cX5_faulty 31 = .ok (.aload_n 0, 1) := by decide +kernel
theorem dX5_faulty_32 : decode cX5_faulty 32 = .ok (.iconst 0, 1) := by decide +kernel
theorem dX5_faulty_33 : decode cX5_faulty 33 = .ok (.putfield 149, 3) := by decide +kernel
theorem dX5_faulty_36 : decode cX5_faulty 36 = .ok (.aload_n 0, 1) := by decide +kernel
theorem dX5_faulty_37 : decode cX5_faulty 37 = .ok (.getfield 149, 3) := by decide +kernel
theorem dX5_faulty_40 : decode cX5_faulty 40 = .ok (.aload_n 0, 1) := by decide +kernel
theorem dX5_faulty_41 : decode cX5_faulty 41 = .ok (.getfield 117, 3) := by decide +kernel
theorem dX5_faulty_44 : decode cX5_faulty 44 = .ok (.if_icmp .ge 39, 3) := by decide +kernel
theorem dX5_faulty_47 : decode cX5_faulty 47 = .ok (.iload_n 1, 1) := by decide +kernel
theorem dX5_faulty_48 : decode cX5_faulty 48 = .ok (.sipush (-1004), 3) := by decide +kernel
theorem dX5_faulty_51 : decode cX5_faulty 51 = .ok (.if_icmp .ne 32, 3) := by decide +kernel
theorem dX5_faulty_54 : decode cX5_faulty 54 = .ok (.aload_n 0, 1) := by decide +kernel
theorem dX5_faulty_55 : decode cX5_faulty 55 = .ok (.getfield 149, 3) := by decide +kernel
theorem dX5_faulty_58 : decode cX5_faulty 58 = .ok (.istore_n 2, 1) := by decide +kernel
theorem dX5_faulty_59 : decode cX5_faulty 59 = .ok (.aload_n 0, 1) := by decide +kernel
theorem dX5_faulty_60 : decode cX5_faulty 60 = .ok (.aload_n 0, 1) := by decide +kernel
theorem dX5_faulty_61 : decode cX5_faulty 61 = .ok (.invokevirtual 162, 3) := by decide +kernel
theorem dX5_faulty_64 : decode cX5_faulty 64 = .ok (.putfield 165, 3) := by decide +kernel
theorem dX5_faulty_67 : decode cX5_faulty 67 = .ok (.aload_n 0, 1) := by decide +kernel
theorem dX5_faulty_68 : decode cX5_faulty 68 = .ok (.getfield 165, 3) := by decide +kernel
theorem dX5_faulty_71 : decode cX5_faulty 71 = .ok (.ifCond .le 7, 3) := by decide +kernel
theorem dX5_faulty_74 : decode cX5_faulty 74 = .ok (.iload_n 2, 1) := by decide +kernel
theorem dX5_faulty_75 : decode cX5_faulty 75 = .ok (.goto 4, 3) := by decide +kernel
theorem dX5_faulty_78 : decode cX5_faulty 78 = .ok (.iload_n 1, 1) := by decide +kernel
theorem dX5_faulty_79 : decode cX5_faulty 79 = .ok (.istore_n 1, 1) := by decide +kernel
theorem dX5_faulty_80 : decode cX5_faulty 80 = .ok (.goto (-44), 3) := by decide +kernel
theorem dX5_faulty_83 : decode cX5_faulty 83 = .ok (.iconst 0, 1) := by decide +kernel
theorem dX5_faulty_84 : decode cX5_faulty 84 = .ok (.istore_n 2, 1) := by decide +kernel
theorem dX5_faulty_85 : decode cX5_faulty 85 = .ok (.iload_n 2, 1) := by decide +kernel
theorem dX5_faulty_86 : decode cX5_faulty 86 = .ok (.sipush 1445, 3) := by decide +kernel
theorem dX5_faulty_89 : decode cX5_faulty 89 = .ok (.if_icmp .ge 21, 3) := by decide +kernel
theorem dX5_faulty_92 : decode cX5_faulty 92 = .ok (.aload_n 0, 1) := by decide +kernel
theorem dX5_faulty_93 : decode cX5_faulty 93 = .ok (.getfield 7, 3) := by decide +kernel
theorem dX5_faulty_96 : decode cX5_faulty 96 = .ok (.iload_n 2, 1) := by decide +kernel
theorem dX5_faulty_97 : decode cX5_faulty 97 = .ok (.aload_n 0, 1) := by decide +kernel
theorem dX5_faulty_98 : decode cX5_faulty 98 = .ok (.getfield 16, 3) := by decide +kernel
theorem dX5_faulty_101 : decode cX5_faulty 101 = .ok (.iload_n 2, 1) := by decide +kernel
theorem dX5_faulty_102 : decode cX5_faulty 102 = .ok (.iaload, 1) := by decide +kernel
theorem dX5_faulty_103 : decode cX5_faulty 103 = .ok (.iastore, 1) := by decide +kernel
theorem dX5_faulty_104 : decode cX5_faulty 104 = .ok (.iinc 2 1, 3) := by decide +kernel
theorem dX5_faulty_107 : decode cX5_faulty 107 = .ok (.goto (-22), 3) := by decide +kernel
theorem dX5_faulty_110 : decode cX5_faulty 110 = .ok (.iload_n 1, 1) := by decide +kernel
theorem dX5_faulty_111 : decode cX5_faulty 111 = .ok (.ireturn, 1) := by decide +kernel
set_option maxRecDepth 20000 in
theorem ggX5_fault_X5_in : GoodIn wsX5_fault wsX5_in := goodIn_r _ [5] (by decide +kernel) (by decide +kernel)
set_option maxRecDepth 20000 in
theorem gX5_fault_X5_in : GoodIn wsX5_fault (va_wsS RX5 26 yX5_in wsX5_in) := goodIn_app (goodIn_of _ (by decide +kernel)) ggX5_fault_X5_in
set_option maxRecDepth 20000 in
theorem ggX5_fault_X5_faulty : GoodIn wsX5_fault wsX5_faulty := goodIn_r _ [9, 10, 11, 12, 13, 1, 14, 15, 16, 4, 17, 18, 19, 20, 21, 22, 23, 24, 25, 26, 27, 2, 3, 5, 28, 29, 30, 31, 32, 33, 34, 35, 36, 37, 38, 39, 40, 41, 42, 43, 44, 45, 46, 47, 48, 49, 50, 51, 52, 53, 54, 55, 56, 57, 58, 59, 60, 61, 62, 63, 64, 65, 66, 67, 68, 69, 70, 71, 72, 73, 74, 75, 76, 77, 78, 79, 80, 81, 82, 83, 84, 85, 86, 87, 88, 89, 90, 91, 92, 93, 94, 95, 96, 97, 98, 99, 100, 101, 102, 103, 104, 105, 106, 107, 108, 109, 110, 111, 112, 113, 114, 115, 116, 117, 118, 119, 120, 121, 122, 123, 124, 125, 126, 127, 128, 129, 130, 131, 132, 133] (by decide +kernel) (by decide +kernel)
set_option maxRecDepth 20000 in
theorem gX5_fault_X5_faulty : GoodIn wsX5_fault (wsV RX5 168 RX5 yX5_faulty wsX5_faulty) := goodIn_app (goodIn_of _ (by decide +kernel)) ggX5_fault_X5_faulty
theorem dX5_fault_0 : decode cX5_fault 0 = .ok (.iload_n 1, 1) := by decide +kernel
theorem dX5_fault_1 : decode cX5_fault 1 = .ok (.iconst 0, 1) := by decide +kernel
theorem dX5_fault_2 : decode cX5_fault 2 = .ok (.iconst 1, 1) := by decide +kernel
theorem dX5_fault_3 : decode cX5_fault 3 = .ok (.invokestatic 26, 3) := by decide +kernel
theorem dX5_fault_6 : decode cX5_fault 6 = .ok (.ifCond .ne 7, 3) := by decide +kernel
theorem dX5_fault_9 : decode cX5_fault 9 = .ok (.sipush (-1001), 3) := by decide +kernel
theorem dX5_fault_12 : decode cX5_fault 12 = .ok (.ireturn, 1) := by decide +kernel
theorem dX5_fault_13 : decode cX5_fault 13 = .ok (.aload_n 0, 1) := by decide +kernel
theorem dX5_fault_14 : decode cX5_fault 14 = .ok (.invokevirtual 168, 3) := by decide +kernel
theorem dX5_fault_17 : decode cX5_fault 17 = .ok (.istore_n 2, 1) := by decide +kernel
theorem dX5_fault_18 : decode cX5_fault 18 = .ok (.iload_n 2, 1) := by decide +kernel
theorem dX5_fault_19 : decode cX5_fault 19 = .ok (.sipush (-1004), 3) := by decide +kernel
theorem dX5_fault_22 : decode cX5_fault 22 = .ok (.if_icmp .eq 7, 3) := by decide +kernel
theorem dX5_fault_25 : decode cX5_fault 25 = .ok (.iload_n 1, 1) := by decide +kernel
theorem dX5_fault_26 : decode cX5_fault 26 = .ok (.ifCond .ne 7, 3) := by decide +kernel
theorem dX5_fault_29 : decode cX5_fault 29 = .ok (.iload_n 2, 1) := by decide +kernel
theorem dX5_fault_30 : decode cX5_fault 30 = .ok (.goto 7, 3) := by decide +kernel
theorem dX5_fault_33 : decode cX5_fault 33 = .ok (.aload_n 0, 1) := by decide +kernel
theorem dX5_fault_34 : decode cX5_fault 34 = .ok (.getfield 165, 3) := by decide +kernel
theorem dX5_fault_37 : decode cX5_fault 37 = .ok (.ireturn, 1) := by decide +kernel
set_option maxRecDepth 20000 in
theorem ggX5_enter_X5_faulty : GoodIn wsX5_enter wsX5_faulty := goodIn_r _ [7, 8, 9, 1, 2, 10, 11, 12, 13, 6, 14, 15, 16, 17, 18, 19, 20, 21, 22, 23, 24, 25, 26, 27, 28, 29, 30, 31, 32, 33, 34, 35, 36, 37, 38, 39, 40, 41, 42, 43, 44, 45, 46, 47, 48, 49, 50, 51, 52, 53, 54, 55, 56, 57, 58, 59, 60, 61, 62, 63, 64, 65, 66, 67, 68, 69, 70, 71, 72, 73, 74, 75, 76, 77, 78, 79, 80, 81, 82, 83, 84, 85, 86, 87, 88, 89, 90, 91, 92, 93, 94, 95, 96, 97, 98, 99, 100, 101, 102, 103, 104, 105, 106, 107, 108, 109, 110, 111, 112, 113, 114, 115, 116, 117, 118, 119, 120, 121, 122, 123, 124, 131, 132, 133, 134, 135, 136, 137, 138, 139] (by decide +kernel) (by decide +kernel)
set_option maxRecDepth 20000 in
theorem gX5_enter_X5_faulty : GoodIn wsX5_enter (wsV RX5 168 RX5 yX5_faulty wsX5_faulty) := goodIn_app (goodIn_of _ (by decide +kernel)) ggX5_enter_X5_faulty
set_option maxRecDepth 20000 in
theorem ggX5_enter_X5_records : GoodIn wsX5_enter wsX5_records := goodIn_r _ [128, 129, 130, 9, 131, 132, 133, 134, 135, 136, 137, 138, 139] (by decide +kernel) (by decide +kernel)
set_option maxRecDepth 20000 in
theorem gX5_enter_X5_records : GoodIn wsX5_enter (wsV RX5 91 RX5 yX5_records wsX5_records) := goodIn_app (goodIn_of _ (by decide +kernel)) ggX5_enter_X5_records
set_option maxRecDepth 20000 in
theorem ggX5_enter_X5_entersOne : GoodIn wsX5_enter wsX5_entersOne := goodIn_r _ [14, 15, 16, 17, 18, 6, 19, 20, 21, 22, 23, 1, 2, 24, 25, 26, 27, 28, 29, 30, 31, 32, 33, 34, 35, 36, 37, 38, 39, 9, 40, 41, 42, 43, 44, 45, 46, 47, 48, 49, 50, 51, 52, 53, 54, 55, 56, 57, 58, 59, 60, 61, 62, 63, 64, 65, 66, 67, 68, 69, 70, 71, 72, 73, 74, 75, 76, 77, 78, 79, 80, 81, 82, 83, 84, 85, 86, 87, 88, 89, 90, 91, 92, 93, 94, 95, 96, 97, 98, 99, 100, 101, 102, 103, 104, 105, 106, 107, 108, 109, 110, 111, 112, 113, 114, 115, 116, 117, 118, 119, 120, 121, 122, 123, 124, 131, 132, 133, 134, 135, 136, 137, 138, 139] (by decide +kernel) (by decide +kernel)
set_option maxRecDepth 20000 in
theorem gX5_enter_X5_entersOne : GoodIn wsX5_enter (wsV RX5 162 RX5 yX5_entersOne wsX5_entersOne) := goodIn_app (goodIn_of _ (by decide +kernel)) ggX5_enter_X5_entersOne
theorem dX5_enter_0 : decode cX5_enter 0 = .ok (.aload_n 0, 1) := by decide +kernel
theorem dX5_enter_1 : decode cX5_enter 1 = .ok (.invokevirtual 168, 3) := by decide +kernel
theorem dX5_enter_4 : decode cX5_enter 4 = .ok (.sipush (-1004), 3) := by decide +kernel
theorem dX5_enter_7 : decode cX5_enter 7 = .ok (.if_icmp .eq 7, 3) := by decide +kernel
theorem dX5_enter_10 : decode cX5_enter 10 = .ok (.sipush (-1002), 3) := by decide +kernel
theorem dX5_enter_13 : decode cX5_enter 13 = .ok (.ireturn, 1) := by decide +kernel
theorem dX5_enter_14 : decode cX5_enter 14 = .ok (.aload_n 0, 1) := by decide +kernel
theorem dX5_enter_15 : decode cX5_enter 15 = .ok (.invokevirtual 91, 3) := by decide +kernel
theorem dX5_enter_18 : decode cX5_enter 18 = .ok (.iconst 0, 1) := by decide +kernel
theorem dX5_enter_19 : decode cX5_enter 19 = .ok (.istore_n 1, 1) := by decide +kernel
theorem dX5_enter_20 : decode cX5_enter 20 = .ok (.aload_n 0, 1) := by decide +kernel
theorem dX5_enter_21 : decode cX5_enter 21 = .ok (.iconst 0, 1) := by decide +kernel
theorem dX5_enter_22 : decode cX5_enter 22 = .ok (.putfield 149, 3) := by decide +kernel
theorem dX5_enter_25 : decode cX5_enter 25 = .ok (.aload_n 0, 1) := by decide +kernel
theorem dX5_enter_26 : decode cX5_enter 26 = .ok (.getfield 149, 3) := by decide +kernel
theorem dX5_enter_29 : decode cX5_enter 29 = .ok (.aload_n 0, 1) := by decide +kernel
theorem dX5_enter_30 : decode cX5_enter 30 = .ok (.getfield 117, 3) := by decide +kernel
theorem dX5_enter_33 : decode cX5_enter 33 = .ok (.if_icmp .ge 14, 3) := by decide +kernel
theorem dX5_enter_36 : decode cX5_enter 36 = .ok (.aload_n 0, 1) := by decide +kernel
theorem dX5_enter_37 : decode cX5_enter 37 = .ok (.invokevirtual 162, 3) := by decide +kernel
theorem dX5_enter_40 : decode cX5_enter 40 = .ok (.pop, 1) := by decide +kernel
theorem dX5_enter_41 : decode cX5_enter 41 = .ok (.iinc 1 1, 3) := by decide +kernel
theorem dX5_enter_44 : decode cX5_enter 44 = .ok (.goto (-19), 3) := by decide +kernel
theorem dX5_enter_47 : decode cX5_enter 47 = .ok (.iload_n 1, 1) := by decide +kernel
theorem dX5_enter_48 : decode cX5_enter 48 = .ok (.ireturn, 1) := by decide +kernel
theorem dJ13_bitCount_95d88_0 : decode cJ13_bitCount_95d88 0 = .ok (.lload_n 0, 1) := by decide +kernel
theorem dJ13_bitCount_95d88_1 : decode cJ13_bitCount_95d88 1 = .ok (.lload_n 0, 1) := by decide +kernel
theorem dJ13_bitCount_95d88_2 : decode cJ13_bitCount_95d88 2 = .ok (.iconst 1, 1) := by decide +kernel
theorem dJ13_bitCount_95d88_3 : decode cJ13_bitCount_95d88 3 = .ok (.lushr, 1) := by decide +kernel
theorem dJ13_bitCount_95d88_4 : decode cJ13_bitCount_95d88 4 = .ok (.ldc2_w 314, 3) := by decide +kernel
theorem dJ13_bitCount_95d88_7 : decode cJ13_bitCount_95d88 7 = .ok (.land, 1) := by decide +kernel
theorem dJ13_bitCount_95d88_8 : decode cJ13_bitCount_95d88 8 = .ok (.lsub, 1) := by decide +kernel
theorem dJ13_bitCount_95d88_9 : decode cJ13_bitCount_95d88 9 = .ok (.lstore_n 0, 1) := by decide +kernel
theorem dJ13_bitCount_95d88_10 : decode cJ13_bitCount_95d88 10 = .ok (.lload_n 0, 1) := by decide +kernel
theorem dJ13_bitCount_95d88_11 : decode cJ13_bitCount_95d88 11 = .ok (.ldc2_w 316, 3) := by decide +kernel
theorem dJ13_bitCount_95d88_14 : decode cJ13_bitCount_95d88 14 = .ok (.land, 1) := by decide +kernel
theorem dJ13_bitCount_95d88_15 : decode cJ13_bitCount_95d88 15 = .ok (.lload_n 0, 1) := by decide +kernel
theorem dJ13_bitCount_95d88_16 : decode cJ13_bitCount_95d88 16 = .ok (.iconst 2, 1) := by decide +kernel
theorem dJ13_bitCount_95d88_17 : decode cJ13_bitCount_95d88 17 = .ok (.lushr, 1) := by decide +kernel
theorem dJ13_bitCount_95d88_18 : decode cJ13_bitCount_95d88 18 = .ok (.ldc2_w 316, 3) := by decide +kernel
theorem dJ13_bitCount_95d88_21 : decode cJ13_bitCount_95d88 21 = .ok (.land, 1) := by decide +kernel
theorem dJ13_bitCount_95d88_22 : decode cJ13_bitCount_95d88 22 = .ok (.ladd, 1) := by decide +kernel
theorem dJ13_bitCount_95d88_23 : decode cJ13_bitCount_95d88 23 = .ok (.lstore_n 0, 1) := by decide +kernel
theorem dJ13_bitCount_95d88_24 : decode cJ13_bitCount_95d88 24 = .ok (.lload_n 0, 1) := by decide +kernel
theorem dJ13_bitCount_95d88_25 : decode cJ13_bitCount_95d88 25 = .ok (.lload_n 0, 1) := by decide +kernel
theorem dJ13_bitCount_95d88_26 : decode cJ13_bitCount_95d88 26 = .ok (.iconst 4, 1) := by decide +kernel
theorem dJ13_bitCount_95d88_27 : decode cJ13_bitCount_95d88 27 = .ok (.lushr, 1) := by decide +kernel
theorem dJ13_bitCount_95d88_28 : decode cJ13_bitCount_95d88 28 = .ok (.ladd, 1) := by decide +kernel
theorem dJ13_bitCount_95d88_29 : decode cJ13_bitCount_95d88 29 = .ok (.ldc2_w 318, 3) := by decide +kernel
theorem dJ13_bitCount_95d88_32 : decode cJ13_bitCount_95d88 32 = .ok (.land, 1) := by decide +kernel
theorem dJ13_bitCount_95d88_33 : decode cJ13_bitCount_95d88 33 = .ok (.lstore_n 0, 1) := by decide +kernel
theorem dJ13_bitCount_95d88_34 : decode cJ13_bitCount_95d88 34 = .ok (.lload_n 0, 1) := by decide +kernel
theorem dJ13_bitCount_95d88_35 : decode cJ13_bitCount_95d88 35 = .ok (.lload_n 0, 1) := by decide +kernel
theorem dJ13_bitCount_95d88_36 : decode cJ13_bitCount_95d88 36 = .ok (.bipush 8, 2) := by decide +kernel
theorem dJ13_bitCount_95d88_38 : decode cJ13_bitCount_95d88 38 = .ok (.lushr, 1) := by decide +kernel
theorem dJ13_bitCount_95d88_39 : decode cJ13_bitCount_95d88 39 = .ok (.ladd, 1) := by decide +kernel
theorem dJ13_bitCount_95d88_40 : decode cJ13_bitCount_95d88 40 = .ok (.lstore_n 0, 1) := by decide +kernel
theorem dJ13_bitCount_95d88_41 : decode cJ13_bitCount_95d88 41 = .ok (.lload_n 0, 1) := by decide +kernel
theorem dJ13_bitCount_95d88_42 : decode cJ13_bitCount_95d88 42 = .ok (.lload_n 0, 1) := by decide +kernel
theorem dJ13_bitCount_95d88_43 : decode cJ13_bitCount_95d88 43 = .ok (.bipush 16, 2) := by decide +kernel
theorem dJ13_bitCount_95d88_45 : decode cJ13_bitCount_95d88 45 = .ok (.lushr, 1) := by decide +kernel
theorem dJ13_bitCount_95d88_46 : decode cJ13_bitCount_95d88 46 = .ok (.ladd, 1) := by decide +kernel
theorem dJ13_bitCount_95d88_47 : decode cJ13_bitCount_95d88 47 = .ok (.lstore_n 0, 1) := by decide +kernel
theorem dJ13_bitCount_95d88_48 : decode cJ13_bitCount_95d88 48 = .ok (.lload_n 0, 1) := by decide +kernel
theorem dJ13_bitCount_95d88_49 : decode cJ13_bitCount_95d88 49 = .ok (.lload_n 0, 1) := by decide +kernel
theorem dJ13_bitCount_95d88_50 : decode cJ13_bitCount_95d88 50 = .ok (.bipush 32, 2) := by decide +kernel
theorem dJ13_bitCount_95d88_52 : decode cJ13_bitCount_95d88 52 = .ok (.lushr, 1) := by decide +kernel
theorem dJ13_bitCount_95d88_53 : decode cJ13_bitCount_95d88 53 = .ok (.ladd, 1) := by decide +kernel
theorem dJ13_bitCount_95d88_54 : decode cJ13_bitCount_95d88 54 = .ok (.lstore_n 0, 1) := by decide +kernel
theorem dJ13_bitCount_95d88_55 : decode cJ13_bitCount_95d88 55 = .ok (.lload_n 0, 1) := by decide +kernel
theorem dJ13_bitCount_95d88_56 : decode cJ13_bitCount_95d88 56 = .ok (.l2i, 1) := by decide +kernel
theorem dJ13_bitCount_95d88_57 : decode cJ13_bitCount_95d88 57 = .ok (.bipush 127, 2) := by decide +kernel
theorem dJ13_bitCount_95d88_59 : decode cJ13_bitCount_95d88 59 = .ok (.iand, 1) := by decide +kernel
theorem dJ13_bitCount_95d88_60 : decode cJ13_bitCount_95d88 60 = .ok (.ireturn, 1) := by decide +kernel
theorem dJ9_abs_0f7a4_0 : decode cJ9_abs_0f7a4 0 = .ok (.iload_n 0, 1) := by decide +kernel
theorem dJ9_abs_0f7a4_1 : decode cJ9_abs_0f7a4 1 = .ok (.ifCond .ge 8, 3) := by decide +kernel
theorem dJ9_abs_0f7a4_4 : decode cJ9_abs_0f7a4 4 = .ok (.iload_n 0, 1) := by decide +kernel
theorem dJ9_abs_0f7a4_5 : decode cJ9_abs_0f7a4 5 = .ok (.ineg, 1) := by decide +kernel
theorem dJ9_abs_0f7a4_6 : decode cJ9_abs_0f7a4 6 = .ok (.goto 4, 3) := by decide +kernel
theorem dJ9_abs_0f7a4_9 : decode cJ9_abs_0f7a4 9 = .ok (.iload_n 0, 1) := by decide +kernel
theorem dJ9_abs_0f7a4_10 : decode cJ9_abs_0f7a4 10 = .ok (.ireturn, 1) := by decide +kernel
theorem dJ7_fill_53178_0 : decode cJ7_fill_53178 0 = .ok (.iconst 0, 1) := by decide +kernel
theorem dJ7_fill_53178_1 : decode cJ7_fill_53178 1 = .ok (.istore_n 2, 1) := by decide +kernel
theorem dJ7_fill_53178_2 : decode cJ7_fill_53178 2 = .ok (.aload_n 0, 1) := by decide +kernel
theorem dJ7_fill_53178_3 : decode cJ7_fill_53178 3 = .ok (.arraylength, 1) := by decide +kernel
theorem dJ7_fill_53178_4 : decode cJ7_fill_53178 4 = .ok (.istore_n 3, 1) := by decide +kernel
theorem dJ7_fill_53178_5 : decode cJ7_fill_53178 5 = .ok (.iload_n 2, 1) := by decide +kernel
theorem dJ7_fill_53178_6 : decode cJ7_fill_53178 6 = .ok (.iload_n 3, 1) := by decide +kernel
theorem dJ7_fill_53178_7 : decode cJ7_fill_53178 7 = .ok (.if_icmp .ge 13, 3) := by decide +kernel
theorem dJ7_fill_53178_10 : decode cJ7_fill_53178 10 = .ok (.aload_n 0, 1) := by decide +kernel
theorem dJ7_fill_53178_11 : decode cJ7_fill_53178 11 = .ok (.iload_n 2, 1) := by decide +kernel
theorem dJ7_fill_53178_12 : decode cJ7_fill_53178 12 = .ok (.iload_n 1, 1) := by decide +kernel
theorem dJ7_fill_53178_13 : decode cJ7_fill_53178 13 = .ok (.iastore, 1) := by decide +kernel
theorem dJ7_fill_53178_14 : decode cJ7_fill_53178 14 = .ok (.iinc 2 1, 3) := by decide +kernel
theorem dJ7_fill_53178_17 : decode cJ7_fill_53178 17 = .ok (.goto (-12), 3) := by decide +kernel
theorem dJ7_fill_53178_20 : decode cJ7_fill_53178 20 = .ok (.return_, 1) := by decide +kernel
set_option maxRecDepth 20000 in
theorem ggL_law_X4_init : GoodIn wsL_law wsX4_init := goodIn_r _ [8, 9, 10, 11, 12, 13, 14, 15, 16, 17, 18, 19, 20, 21, 22, 23, 24, 25, 26, 27, 28, 29, 30, 31, 32, 33, 34, 35, 36, 37, 38, 39, 40, 41, 42, 43, 44, 45, 46, 47, 48, 49, 50, 51, 52, 53, 54, 55, 56, 57, 58, 59, 727, 728, 729, 730, 731, 732, 733, 734, 735, 736, 737, 738, 739, 713, 714, 715, 716, 717, 740, 741, 742, 743, 744, 745, 746, 747, 748] (by decide +kernel) (by decide +kernel)
set_option maxRecDepth 20000 in
theorem gL_law_X4_init : GoodIn wsL_law (wsX4_init) := ggL_law_X4_init
set_option maxRecDepth 20000 in
theorem ggL_law_X5_init : GoodIn wsL_law wsX5_init := goodIn_r _ [62, 63, 10, 11, 30, 64, 65, 66, 50, 67, 68, 718, 719, 720, 721, 722, 723, 724, 725, 726] (by decide +kernel) (by decide +kernel)
set_option maxRecDepth 20000 in
theorem gL_law_X5_init : GoodIn wsL_law (wsX5_init) := ggL_law_X5_init
set_option maxRecDepth 20000 in
theorem ggL_law_X4_crane : GoodIn wsL_law wsX4_crane := goodIn_r _ [72, 15, 73, 74, 75, 76, 77, 78, 79, 2, 80, 81, 82, 83, 84, 85, 86, 87, 88, 89, 14, 90, 29, 91, 92, 93, 94, 95, 96, 28, 97, 98, 99, 100, 18, 17, 101, 102, 103, 104, 105, 106, 107, 108, 109, 31, 32, 33, 34, 35, 36, 38, 39, 40, 41, 42, 110, 111, 112, 113, 10, 11, 114, 115, 116, 117, 118, 119, 120, 121, 122, 123, 124, 125, 126, 127, 128, 129, 130, 131, 132, 133, 134, 135, 136, 137, 138, 713, 714, 715, 716, 717, 727, 728, 729, 730, 731, 732, 733, 734, 735, 736, 737, 738, 739, 749, 750, 751, 752, 753, 754, 755] (by decide +kernel) (by decide +kernel)
set_option maxRecDepth 20000 in
theorem gL_law_X4_crane : GoodIn wsL_law (wsV RL 13 RX4 yX4_crane wsX4_crane) := goodIn_app (goodIn_of _ (by decide +kernel)) ggL_law_X4_crane
set_option maxRecDepth 20000 in
theorem ggL_law_X5_crane : GoodIn wsL_law wsX5_crane := goodIn_r _ [142, 64, 143, 144, 5, 145, 146, 147, 148, 149, 150, 151, 152, 153, 154, 155, 156, 157, 65, 718, 719, 720, 721, 722, 723, 724, 725, 726] (by decide +kernel) (by decide +kernel)
set_option maxRecDepth 20000 in
theorem gL_law_X5_crane : GoodIn wsL_law (wsV RL 17 RX5 yX5_crane wsX5_crane) := goodIn_app (goodIn_of _ (by decide +kernel)) ggL_law_X5_crane
set_option maxRecDepth 20000 in
theorem ggL_law_X4_noise : GoodIn wsL_law wsX4_noise := goodIn_r _ [161, 15, 162, 77, 163, 94, 95, 14, 96, 29, 28, 81, 82, 2, 83, 97, 98, 99, 100, 18, 17, 101, 102, 103, 104, 105, 106, 107, 108, 109, 31, 32, 33, 34, 35, 36, 38, 39, 40, 41, 42, 164, 137, 138, 165, 166, 167, 168, 169, 170, 171, 172, 173, 174, 175, 176, 177, 178, 179, 180, 181, 182, 183, 184, 185, 186, 187, 188, 189, 190, 191, 192, 193, 194, 195, 196, 197, 198, 199, 200, 201, 202, 203, 204, 205, 206, 207, 208, 209, 210, 211, 212, 213, 214, 215, 216, 217, 218, 219, 220, 221, 222, 223, 713, 714, 715, 716, 717, 727, 728, 729, 730, 731, 732, 733, 734, 735, 736, 737, 738, 739, 749, 750, 751, 752, 753, 754, 755, 756, 757, 758, 759, 760, 761, 762] (by decide +kernel) (by decide +kernel)
set_option maxRecDepth 20000 in
theorem gL_law_X4_noise : GoodIn wsL_law (wsV RL 18 RX4 yX4_noise wsX4_noise) := goodIn_app (goodIn_of _ (by decide +kernel)) ggL_law_X4_noise
set_option maxRecDepth 20000 in
theorem ggL_law_X5_noise : GoodIn wsL_law wsX5_noise := goodIn_r _ [227, 64, 228, 229, 230, 5, 231, 143, 144, 145, 153, 154, 155, 156, 157, 65, 232, 233, 234, 235, 236, 237, 238, 239, 240, 241, 242, 243, 244, 245, 246, 247, 149, 150, 151, 152, 248, 249, 250, 251, 252, 253, 254, 255, 256, 257, 258, 259, 260, 261, 262, 263, 264, 265, 266, 267, 268, 269, 718, 719, 720, 721, 722, 723, 724, 725, 726] (by decide +kernel) (by decide +kernel)
set_option maxRecDepth 20000 in
theorem gL_law_X5_noise : GoodIn wsL_law (wsV RL 22 RX5 yX5_noise wsX5_noise) := goodIn_app (goodIn_of _ (by decide +kernel)) ggL_law_X5_noise
set_option maxRecDepth 20000 in
theorem ggL_law_X4_craneOf : GoodIn wsL_law wsX4_craneOf := goodIn_r _ [273, 15, 274, 275, 276, 277, 278, 162, 77, 163, 94, 95, 14, 96, 29, 28, 279, 180, 2, 181, 280, 281, 282, 283, 42, 172, 173, 174, 175, 41, 284, 285, 286, 209, 287, 211, 288, 289, 183, 184, 185, 32, 186, 713, 714, 715, 716, 717, 749, 750, 751, 752, 753, 754, 755, 727, 728, 729, 730, 731, 732, 733, 734, 735, 736, 737, 738, 739, 756, 757, 758, 759, 760, 761, 762] (by decide +kernel) (by decide +kernel)
set_option maxRecDepth 20000 in
theorem gL_law_X4_craneOf : GoodIn wsL_law (wsV RL 23 RX4 yX4_craneOf wsX4_craneOf) := goodIn_app (goodIn_of _ (by decide +kernel)) ggL_law_X4_craneOf
set_option maxRecDepth 20000 in
theorem ggL_law_X5_craneOf : GoodIn wsL_law wsX5_craneOf := goodIn_r _ [293, 64, 228, 229, 230, 5, 231, 143, 144, 145, 149, 150, 151, 152, 294, 295, 296, 297, 244, 245, 246, 247, 718, 719, 720, 721, 722, 723, 724, 725, 726] (by decide +kernel) (by decide +kernel)
set_option maxRecDepth 20000 in
theorem gL_law_X5_craneOf : GoodIn wsL_law (wsV RL 26 RX5 yX5_craneOf wsX5_craneOf) := goodIn_app (goodIn_of _ (by decide +kernel)) ggL_law_X5_craneOf
set_option maxRecDepth 20000 in
theorem ggL_law_X4_set : GoodIn wsL_law wsX4_set := goodIn_r _ [301, 302, 303, 15, 304, 81, 82, 2, 83, 279, 180, 181, 97, 98, 99, 100, 18, 17, 101, 102, 103, 104, 105, 106, 107, 14, 108, 28, 109, 29, 31, 32, 33, 34, 35, 36, 38, 39, 40, 41, 42, 164, 137, 138, 165, 166, 167, 168, 169, 170, 171, 172, 173, 174, 175, 176, 177, 178, 179, 182, 183, 184, 185, 186, 187, 188, 189, 190, 191, 192, 193, 194, 195, 196, 197, 198, 199, 200, 201, 202, 203, 204, 205, 206, 207, 208, 209, 210, 211, 212, 213, 214, 215, 216, 217, 218, 219, 220, 221, 222, 223, 713, 714, 715, 716, 717, 727, 728, 729, 730, 731, 732, 733, 734, 735, 736, 737, 738, 739, 756, 757, 758, 759, 760, 761, 762, 749, 750, 751, 752, 753, 754, 755] (by decide +kernel) (by decide +kernel)
set_option maxRecDepth 20000 in
theorem gL_law_X4_set : GoodIn wsL_law (wsV RL 27 RX4 yX4_set wsX4_set) := goodIn_app (goodIn_of _ (by decide +kernel)) ggL_law_X4_set
set_option maxRecDepth 20000 in
theorem ggL_law_X5_set : GoodIn wsL_law wsX5_set := goodIn_r _ [308, 64, 143, 144, 5, 145, 153, 154, 155, 156, 157, 65, 232, 233, 234, 235, 236, 237, 238, 239, 240, 241, 242, 243, 244, 245, 246, 247, 149, 150, 151, 152, 248, 249, 250, 251, 252, 253, 254, 255, 256, 257, 258, 259, 260, 261, 262, 263, 264, 265, 266, 267, 268, 269, 309, 310, 311, 312, 313, 314, 315, 316, 718, 719, 720, 721, 722, 723, 724, 725, 726] (by decide +kernel) (by decide +kernel)
set_option maxRecDepth 20000 in
theorem gL_law_X5_set : GoodIn wsL_law (wsV RL 30 RX5 yX5_set wsX5_set) := goodIn_app (goodIn_of _ (by decide +kernel)) ggL_law_X5_set
set_option maxRecDepth 20000 in
theorem ggL_law_X4_wind : GoodIn wsL_law wsX4_wind := goodIn_r _ [320, 15, 321, 322, 323, 2, 324, 81, 82, 83, 97, 98, 99, 100, 18, 17, 101, 102, 103, 104, 105, 106, 107, 14, 108, 28, 109, 29, 31, 32, 33, 34, 35, 36, 38, 39, 40, 41, 42, 164, 137, 138, 165, 166, 167, 168, 169, 170, 171, 172, 173, 174, 175, 176, 177, 178, 179, 180, 181, 182, 183, 184, 185, 186, 187, 188, 189, 190, 191, 192, 193, 194, 195, 196, 197, 198, 199, 200, 201, 202, 203, 204, 205, 206, 207, 208, 209, 210, 211, 212, 213, 214, 215, 216, 217, 218, 219, 220, 221, 222, 223, 713, 714, 715, 716, 717, 727, 728, 729, 730, 731, 732, 733, 734, 735, 736, 737, 738, 739, 756, 757, 758, 759, 760, 761, 762, 749, 750, 751, 752, 753, 754, 755] (by decide +kernel) (by decide +kernel)
set_option maxRecDepth 20000 in
theorem gL_law_X4_wind : GoodIn wsL_law (wsV RL 31 RX4 yX4_wind wsX4_wind) := goodIn_app (goodIn_of _ (by decide +kernel)) ggL_law_X4_wind
set_option maxRecDepth 20000 in
theorem ggL_law_X5_wind : GoodIn wsL_law wsX5_wind := goodIn_r _ [328, 64, 329, 330, 5, 331, 143, 144, 145, 153, 154, 155, 156, 157, 65, 309, 310, 311, 312, 244, 245, 246, 247, 313, 314, 315, 316, 149, 150, 151, 152, 718, 719, 720, 721, 722, 723, 724, 725, 726] (by decide +kernel) (by decide +kernel)
set_option maxRecDepth 20000 in
theorem gL_law_X5_wind : GoodIn wsL_law (wsV RL 34 RX5 yX5_wind wsX5_wind) := goodIn_app (goodIn_of _ (by decide +kernel)) ggL_law_X5_wind
set_option maxRecDepth 20000 in
theorem ggL_law_X4_allow : GoodIn wsL_law wsX4_allow := goodIn_r _ [335, 15, 336, 84, 85, 2, 86, 81, 82, 83, 322, 323, 324, 97, 98, 99, 100, 18, 17, 101, 102, 103, 104, 105, 106, 107, 14, 108, 28, 109, 29, 31, 32, 33, 34, 35, 36, 38, 39, 40, 41, 42, 337, 195, 196, 164, 137, 138, 165, 166, 167, 168, 169, 170, 171, 172, 173, 174, 175, 176, 177, 178, 179, 180, 181, 182, 183, 184, 185, 186, 187, 188, 189, 190, 191, 192, 193, 194, 197, 198, 199, 200, 201, 202, 203, 204, 205, 206, 207, 208, 209, 210, 211, 212, 213, 214, 215, 216, 217, 218, 219, 220, 221, 222, 223, 713, 714, 715, 716, 717, 727, 728, 729, 730, 731, 732, 733, 734, 735, 736, 737, 738, 739, 756, 757, 758, 759, 760, 761, 762, 749, 750, 751, 752, 753, 754, 755] (by decide +kernel) (by decide +kernel)
set_option maxRecDepth 20000 in
theorem gL_law_X4_allow : GoodIn wsL_law (wsV RL 35 RX4 yX4_allow wsX4_allow) := goodIn_app (goodIn_of _ (by decide +kernel)) ggL_law_X4_allow
set_option maxRecDepth 20000 in
theorem ggL_law_X5_allow : GoodIn wsL_law wsX5_allow := goodIn_r _ [341, 64, 146, 147, 5, 148, 143, 144, 145, 329, 330, 331, 153, 154, 155, 156, 157, 65, 263, 264, 265, 236, 237, 238, 239, 240, 241, 242, 243, 244, 245, 246, 247, 149, 150, 151, 152, 248, 249, 250, 251, 252, 253, 254, 255, 256, 257, 258, 259, 260, 261, 262, 266, 267, 268, 269, 718, 719, 720, 721, 722, 723, 724, 725, 726] (by decide +kernel) (by decide +kernel)
set_option maxRecDepth 20000 in
theorem gL_law_X5_allow : GoodIn wsL_law (wsV RL 39 RX5 yX5_allow wsX5_allow) := goodIn_app (goodIn_of _ (by decide +kernel)) ggL_law_X5_allow
set_option maxRecDepth 20000 in
theorem ggL_law_X4_transfer : GoodIn wsL_law wsX4_transfer := goodIn_r _ [345, 15, 346, 347, 84, 85, 2, 86, 81, 82, 83, 322, 323, 324, 348, 188, 189, 14, 190, 191, 192, 193, 194, 35, 36, 195, 196, 197, 198, 199, 200, 34, 32, 180, 181, 201, 202, 203, 204, 42, 169, 205, 172, 173, 174, 175, 41, 206, 207, 208, 209, 210, 211, 212, 213, 214, 215, 216, 217, 31, 218, 97, 98, 99, 100, 18, 17, 101, 102, 103, 104, 105, 106, 107, 108, 28, 109, 29, 33, 38, 39, 40, 337, 279, 164, 137, 138, 713, 714, 715, 716, 717, 727, 728, 729, 730, 731, 732, 733, 734, 735, 736, 737, 738, 739, 756, 757, 758, 759, 760, 761, 762, 749, 750, 751, 752, 753, 754, 755] (by decide +kernel) (by decide +kernel)
set_option maxRecDepth 20000 in
theorem gL_law_X4_transfer : GoodIn wsL_law (wsV RL 40 RX4 yX4_transfer wsX4_transfer) := goodIn_app (goodIn_of _ (by decide +kernel)) ggL_law_X4_transfer
set_option maxRecDepth 20000 in
theorem ggL_law_X5_transfer : GoodIn wsL_law wsX5_transfer := goodIn_r _ [352, 64, 146, 147, 5, 148, 143, 144, 145, 329, 330, 331, 259, 260, 261, 262, 263, 264, 265, 266, 267, 268, 269, 248, 249, 250, 251, 240, 241, 242, 243, 244, 245, 246, 247, 149, 150, 151, 152, 252, 253, 254, 255, 256, 257, 258, 153, 154, 155, 156, 157, 65, 718, 719, 720, 721, 722, 723, 724, 725, 726] (by decide +kernel) (by decide +kernel)
set_option maxRecDepth 20000 in
theorem gL_law_X5_transfer : GoodIn wsL_law (wsV RL 44 RX5 yX5_transfer wsX5_transfer) := goodIn_app (goodIn_of _ (by decide +kernel)) ggL_law_X5_transfer
set_option maxRecDepth 20000 in
theorem ggL_law_X4_street : GoodIn wsL_law wsX4_street := goodIn_r _ [356, 15, 347, 346, 321, 84, 85, 2, 86, 81, 82, 83, 322, 323, 324, 357, 198, 199, 14, 200, 34, 32, 195, 196, 180, 181, 337, 279, 358, 192, 193, 194, 35, 36, 197, 359, 202, 203, 204, 42, 169, 205, 172, 173, 174, 175, 41, 206, 207, 208, 209, 210, 211, 212, 213, 214, 215, 216, 217, 31, 218, 360, 361, 362, 363, 713, 714, 715, 716, 717, 727, 728, 729, 730, 731, 732, 733, 734, 735, 736, 737, 738, 739, 756, 757, 758, 759, 760, 761, 762, 749, 750, 751, 752, 753, 754, 755] (by decide +kernel) (by decide +kernel)
set_option maxRecDepth 20000 in
theorem gL_law_X4_street : GoodIn wsL_law (wsV RL 45 RX4 yX4_street wsX4_street) := goodIn_app (goodIn_of _ (by decide +kernel)) ggL_law_X4_street
set_option maxRecDepth 20000 in
theorem ggL_law_X5_street : GoodIn wsL_law wsX5_street := goodIn_r _ [367, 64, 146, 147, 5, 148, 143, 144, 145, 329, 330, 331, 266, 267, 268, 269, 263, 264, 265, 259, 260, 261, 262, 248, 249, 250, 251, 240, 241, 242, 243, 244, 245, 246, 247, 149, 150, 151, 152, 252, 253, 254, 255, 256, 257, 258, 368, 369, 370, 371, 718, 719, 720, 721, 722, 723, 724, 725, 726] (by decide +kernel) (by decide +kernel)
set_option maxRecDepth 20000 in
theorem gL_law_X5_street : GoodIn wsL_law (wsV RL 48 RX5 yX5_street wsX5_street) := goodIn_app (goodIn_of _ (by decide +kernel)) ggL_law_X5_street
set_option maxRecDepth 20000 in
theorem ggL_law_X4_count : GoodIn wsL_law wsX4_count := goodIn_r _ [375, 15, 73, 376, 377, 18, 22, 378, 304, 379, 380, 381, 14, 382, 39, 40, 180, 2, 181, 383, 384, 385, 386, 42, 169, 205, 172, 173, 174, 175, 41, 214, 215, 216, 217, 31, 218, 387, 388, 389, 390, 170, 391, 392, 393, 394, 395, 186, 396, 397, 398, 399, 32, 284, 285, 286, 209, 287, 211, 288, 400, 401, 402, 403, 404, 405, 213, 406, 407, 408, 76, 409, 115, 279, 713, 714, 715, 716, 717, 727, 728, 729, 730, 731, 732, 733, 734, 735, 736, 737, 738, 739, 740, 741, 742, 743, 744, 745, 746, 747, 748, 756, 757, 758, 759, 760, 761, 762, 749, 750, 751, 752, 753, 754, 755] (by decide +kernel) (by decide +kernel)
set_option maxRecDepth 20000 in
theorem gL_law_X4_count : GoodIn wsL_law (wsV RL 49 RX4 yX4_count wsX4_count) := goodIn_app (goodIn_of _ (by decide +kernel)) ggL_law_X4_count
set_option maxRecDepth 20000 in
theorem ggL_law_X5_count : GoodIn wsL_law wsX5_count := goodIn_r _ [413, 64, 157, 414, 294, 295, 296, 5, 297, 244, 245, 246, 247, 415, 416, 417, 418, 252, 253, 254, 255, 256, 257, 258, 149, 150, 151, 152, 419, 420, 421, 422, 423, 424, 425, 426, 427, 428, 429, 430, 431, 432, 433, 434, 435, 436, 718, 719, 720, 721, 722, 723, 724, 725, 726] (by decide +kernel) (by decide +kernel)
set_option maxRecDepth 20000 in
theorem gL_law_X5_count : GoodIn wsL_law (wsV RL 53 RX5 yX5_count wsX5_count) := goodIn_app (goodIn_of _ (by decide +kernel)) ggL_law_X5_count
set_option maxRecDepth 20000 in
theorem ggL_law_X4_undo : GoodIn wsL_law wsX4_undo := goodIn_r _ [440, 18, 17, 15, 105, 106, 107, 14, 108, 28, 109, 102, 103, 104, 29, 31, 32, 33, 34, 35, 36, 38, 39, 40, 41, 42, 713, 714, 715, 716, 717, 727, 728, 729, 730, 731, 732, 733, 734, 735, 736, 737, 738, 739] (by decide +kernel) (by decide +kernel)
set_option maxRecDepth 20000 in
theorem gL_law_X4_undo : GoodIn wsL_law (wsV RL 54 RX4 yX4_undo wsX4_undo) := goodIn_app (goodIn_of _ (by decide +kernel)) ggL_law_X4_undo
set_option maxRecDepth 20000 in
theorem ggL_law_X5_undo : GoodIn wsL_law wsX5_undo := goodIn_r _ [444, 157, 64, 65, 718, 719, 720, 721, 722, 723, 724, 725, 726] (by decide +kernel) (by decide +kernel)
set_option maxRecDepth 20000 in
theorem gL_law_X5_undo : GoodIn wsL_law (wsV RL 58 RX5 yX5_undo wsX5_undo) := goodIn_app (goodIn_of _ (by decide +kernel)) ggL_law_X5_undo
set_option maxRecDepth 20000 in
theorem ggL_law_X4_covers : GoodIn wsL_law wsX4_covers := goodIn_r _ [448, 15, 163, 94, 95, 14, 96, 29, 28, 449, 450, 2, 451, 81, 82, 83, 78, 79, 80, 452, 407, 408, 76, 409, 115, 713, 714, 715, 716, 717, 727, 728, 729, 730, 731, 732, 733, 734, 735, 736, 737, 738, 739, 749, 750, 751, 752, 753, 754, 755] (by decide +kernel) (by decide +kernel)
set_option maxRecDepth 20000 in
theorem gL_law_X4_covers : GoodIn wsL_law (wsV RL 59 RX4 yX4_covers wsX4_covers) := goodIn_app (goodIn_of _ (by decide +kernel)) ggL_law_X4_covers
set_option maxRecDepth 20000 in
theorem ggL_law_X5_covers : GoodIn wsL_law wsX5_covers := goodIn_r _ [456, 228, 229, 230, 5, 231, 64, 143, 144, 145, 457, 458, 459, 430, 431, 432, 433, 149, 150, 151, 152, 434, 435, 436, 718, 719, 720, 721, 722, 723, 724, 725, 726] (by decide +kernel) (by decide +kernel)
set_option maxRecDepth 20000 in
theorem gL_law_X5_covers : GoodIn wsL_law (wsV RL 62 RX5 yX5_covers wsX5_covers) := goodIn_app (goodIn_of _ (by decide +kernel)) ggL_law_X5_covers
set_option maxRecDepth 20000 in
theorem ggL_law_X4_area : GoodIn wsL_law wsX4_area := goodIn_r _ [463, 15, 163, 94, 95, 14, 96, 29, 28, 449, 450, 2, 451, 81, 82, 83, 452, 407, 408, 76, 409, 115, 464, 465, 466, 467, 468, 469, 470, 713, 714, 715, 716, 717, 727, 728, 729, 730, 731, 732, 733, 734, 735, 736, 737, 738, 739, 749, 750, 751, 752, 753, 754, 755] (by decide +kernel) (by decide +kernel)
set_option maxRecDepth 20000 in
theorem gL_law_X4_area : GoodIn wsL_law (wsV RL 63 RX4 yX4_area wsX4_area) := goodIn_app (goodIn_of _ (by decide +kernel)) ggL_law_X4_area
set_option maxRecDepth 20000 in
theorem ggL_law_X5_area : GoodIn wsL_law wsX5_area := goodIn_r _ [474, 228, 229, 230, 5, 231, 64, 143, 144, 145, 457, 458, 459, 430, 431, 432, 433, 149, 150, 151, 152, 434, 435, 436, 718, 719, 720, 721, 722, 723, 724, 725, 726] (by decide +kernel) (by decide +kernel)
set_option maxRecDepth 20000 in
theorem gL_law_X5_area : GoodIn wsL_law (wsV RL 66 RX5 yX5_area wsX5_area) := goodIn_app (goodIn_of _ (by decide +kernel)) ggL_law_X5_area
set_option maxRecDepth 20000 in
theorem ggL_law_X4_refusal : GoodIn wsL_law wsX4_refusal := goodIn_r _ [478, 15, 163, 94, 95, 14, 96, 29, 28, 479, 480, 2, 481, 322, 323, 324, 81, 82, 83, 449, 450, 451, 482, 483, 484, 485, 171, 486, 487, 488, 489, 42, 172, 173, 174, 175, 41, 284, 285, 286, 209, 287, 211, 288, 400, 401, 402, 403, 404, 405, 213, 176, 177, 178, 179, 33, 180, 181, 182, 183, 184, 185, 32, 186, 490, 491, 492, 493, 223, 392, 393, 394, 395, 169, 396, 397, 398, 399, 391, 406, 407, 408, 76, 409, 115, 201, 202, 203, 204, 205, 206, 207, 208, 210, 212, 214, 215, 216, 217, 31, 218, 191, 192, 193, 194, 35, 36, 195, 196, 197, 198, 199, 200, 34, 713, 714, 715, 716, 717, 727, 728, 729, 730, 731, 732, 733, 734, 735, 736, 737, 738, 739, 749, 750, 751, 752, 753, 754, 755, 756, 757, 758, 759, 760, 761, 762] (by decide +kernel) (by decide +kernel)
set_option maxRecDepth 20000 in
theorem gL_law_X4_refusal : GoodIn wsL_law (wsV RL 67 RX4 yX4_refusal wsX4_refusal) := goodIn_app (goodIn_of _ (by decide +kernel)) ggL_law_X4_refusal
set_option maxRecDepth 20000 in
theorem ggL_law_X5_refusal : GoodIn wsL_law wsX5_refusal := goodIn_r _ [497, 498, 499, 500, 5, 501, 228, 229, 230, 231, 64, 143, 144, 145, 329, 330, 331, 502, 503, 504, 457, 458, 459, 505, 506, 507, 508, 244, 245, 246, 247, 423, 424, 425, 313, 314, 315, 316, 149, 150, 151, 152, 509, 510, 511, 512, 419, 420, 421, 422, 426, 427, 428, 429, 430, 431, 432, 433, 434, 435, 436, 248, 249, 250, 251, 240, 241, 242, 243, 252, 253, 254, 255, 256, 257, 258, 259, 260, 261, 262, 263, 264, 265, 266, 267, 268, 269, 718, 719, 720, 721, 722, 723, 724, 725, 726] (by decide +kernel) (by decide +kernel)
set_option maxRecDepth 20000 in
theorem gL_law_X5_refusal : GoodIn wsL_law (wsV RL 70 RX5 yX5_refusal wsX5_refusal) := goodIn_app (goodIn_of _ (by decide +kernel)) ggL_law_X5_refusal
set_option maxRecDepth 20000 in
theorem ggL_law_X4_apply : GoodIn wsL_law wsX4_apply := goodIn_r _ [516, 15, 517, 518, 209, 377, 519, 163, 94, 95, 14, 96, 29, 28, 479, 480, 2, 481, 322, 323, 324, 81, 82, 83, 449, 450, 451, 482, 483, 484, 485, 171, 486, 487, 488, 489, 42, 172, 173, 174, 175, 41, 284, 285, 286, 287, 211, 288, 400, 401, 402, 403, 404, 405, 213, 176, 177, 178, 179, 33, 180, 181, 182, 183, 184, 185, 32, 186, 490, 491, 492, 493, 223, 392, 393, 394, 395, 169, 396, 397, 398, 399, 391, 406, 407, 408, 76, 409, 115, 201, 202, 203, 204, 205, 206, 207, 208, 210, 212, 214, 215, 216, 217, 31, 218, 191, 192, 193, 194, 35, 36, 195, 196, 197, 198, 199, 200, 34, 520, 521, 522, 523, 39, 97, 98, 99, 100, 18, 17, 101, 102, 103, 104, 105, 106, 107, 108, 109, 38, 40, 524, 525, 526, 527, 10, 11, 528, 529, 530, 531, 532, 533, 534, 137, 138, 713, 714, 715, 716, 717, 756, 757, 758, 759, 760, 761, 762, 727, 728, 729, 730, 731, 732, 733, 734, 735, 736, 737, 738, 739, 749, 750, 751, 752, 753, 754, 755] (by decide +kernel) (by decide +kernel)
set_option maxRecDepth 20000 in
theorem gL_law_X4_apply : GoodIn wsL_law (wsV RL 71 RX4 yX4_apply wsX4_apply) := goodIn_app (goodIn_of _ (by decide +kernel)) ggL_law_X4_apply
set_option maxRecDepth 20000 in
theorem ggL_law_X5_apply : GoodIn wsL_law wsX5_apply := goodIn_r _ [538, 498, 499, 500, 5, 501, 228, 229, 230, 231, 64, 143, 144, 145, 329, 330, 331, 502, 503, 504, 457, 458, 459, 505, 506, 507, 508, 244, 245, 246, 247, 423, 424, 425, 313, 314, 315, 316, 149, 150, 151, 152, 509, 510, 511, 512, 419, 420, 421, 422, 426, 427, 428, 429, 430, 431, 432, 433, 434, 435, 436, 248, 249, 250, 251, 240, 241, 242, 243, 252, 253, 254, 255, 256, 257, 258, 259, 260, 261, 262, 263, 264, 265, 266, 267, 268, 269, 539, 540, 541, 542, 294, 295, 296, 297, 153, 154, 155, 156, 157, 65, 543, 544, 545, 546, 718, 719, 720, 721, 722, 723, 724, 725, 726] (by decide +kernel) (by decide +kernel)
set_option maxRecDepth 20000 in
theorem gL_law_X5_apply : GoodIn wsL_law (wsV RL 74 RX5 yX5_apply wsX5_apply) := goodIn_app (goodIn_of _ (by decide +kernel)) ggL_law_X5_apply
set_option maxRecDepth 20000 in
theorem ggL_law_X4_withdraw : GoodIn wsL_law wsX4_withdraw := goodIn_r _ [550, 15, 551, 519, 552, 553, 554, 555, 556, 14, 557, 39, 38, 279, 180, 2, 181, 97, 98, 99, 100, 18, 17, 101, 102, 103, 104, 105, 106, 107, 108, 28, 109, 29, 31, 32, 33, 34, 35, 36, 40, 41, 42, 558, 220, 221, 222, 223, 137, 138, 559, 215, 216, 217, 218, 713, 714, 715, 716, 717, 727, 728, 729, 730, 731, 732, 733, 734, 735, 736, 737, 738, 739, 756, 757, 758, 759, 760, 761, 762, 749, 750, 751, 752, 753, 754, 755] (by decide +kernel) (by decide +kernel)
set_option maxRecDepth 20000 in
theorem gL_law_X4_withdraw : GoodIn wsL_law (wsV RL 75 RX4 yX4_withdraw wsX4_withdraw) := goodIn_app (goodIn_of _ (by decide +kernel)) ggL_law_X4_withdraw
set_option maxRecDepth 20000 in
theorem ggL_law_X5_withdraw : GoodIn wsL_law wsX5_withdraw := goodIn_r _ [563, 64, 564, 565, 566, 5, 567, 143, 144, 145, 244, 245, 246, 247, 153, 154, 155, 156, 157, 65, 252, 253, 254, 255, 256, 257, 258, 149, 150, 151, 152, 718, 719, 720, 721, 722, 723, 724, 725, 726] (by decide +kernel) (by decide +kernel)
set_option maxRecDepth 20000 in
theorem gL_law_X5_withdraw : GoodIn wsL_law (wsV RL 78 RX5 yX5_withdraw wsX5_withdraw) := goodIn_app (goodIn_of _ (by decide +kernel)) ggL_law_X5_withdraw
set_option maxRecDepth 20000 in
theorem ggL_law_X4_permit : GoodIn wsL_law wsX4_permit := goodIn_r _ [571, 15, 552, 77, 572, 553, 573, 551, 519, 554, 555, 556, 14, 557, 39, 38, 559, 215, 216, 217, 31, 218, 180, 2, 181, 279, 713, 714, 715, 716, 717, 756, 757, 758, 759, 760, 761, 762, 749, 750, 751, 752, 753, 754, 755, 727, 728, 729, 730, 731, 732, 733, 734, 735, 736, 737, 738, 739] (by decide +kernel) (by decide +kernel)
set_option maxRecDepth 20000 in
theorem gL_law_X4_permit : GoodIn wsL_law (wsV RL 79 RX4 yX4_permit wsX4_permit) := goodIn_app (goodIn_of _ (by decide +kernel)) ggL_law_X4_permit
set_option maxRecDepth 20000 in
theorem ggL_law_X5_permit : GoodIn wsL_law wsX5_permit := goodIn_r _ [577, 564, 565, 566, 5, 567, 64, 143, 144, 145, 244, 245, 246, 247, 252, 253, 254, 255, 256, 257, 258, 149, 150, 151, 152, 718, 719, 720, 721, 722, 723, 724, 725, 726] (by decide +kernel) (by decide +kernel)
set_option maxRecDepth 20000 in
theorem gL_law_X5_permit : GoodIn wsL_law (wsV RL 82 RX5 yX5_permit wsX5_permit) := goodIn_app (goodIn_of _ (by decide +kernel)) ggL_law_X5_permit
set_option maxRecDepth 20000 in
theorem ggL_law_X4_inOrder : GoodIn wsL_law wsX4_inOrder := goodIn_r _ [581, 15, 376, 519, 582, 173, 174, 14, 175, 42, 41, 583, 584, 585, 586, 172, 587, 588, 589, 209, 590, 213, 405, 528, 713, 714, 715, 716, 717, 727, 728, 729, 730, 731, 732, 733, 734, 735, 736, 737, 738, 739, 756, 757, 758, 759, 760, 761, 762] (by decide +kernel) (by decide +kernel)
set_option maxRecDepth 20000 in
theorem gL_law_X4_inOrder : GoodIn wsL_law (wsV RL 83 RX4 yX4_inOrder wsX4_inOrder) := goodIn_app (goodIn_of _ (by decide +kernel)) ggL_law_X4_inOrder
set_option maxRecDepth 20000 in
theorem ggL_law_X5_inOrder : GoodIn wsL_law wsX5_inOrder := goodIn_r _ [594, 64, 244, 245, 246, 5, 247, 595, 596, 597, 598, 718, 719, 720, 721, 722, 723, 724, 725, 726] (by decide +kernel) (by decide +kernel)
set_option maxRecDepth 20000 in
theorem gL_law_X5_inOrder : GoodIn wsL_law (wsV RL 86 RX5 yX5_inOrder wsX5_inOrder) := goodIn_app (goodIn_of _ (by decide +kernel)) ggL_law_X5_inOrder
set_option maxRecDepth 20000 in
theorem ggL_law_X4_shares : GoodIn wsL_law wsX4_shares := goodIn_r _ [602, 15, 552, 572, 553, 573, 554, 555, 556, 14, 557, 39, 38, 603, 393, 394, 395, 186, 169, 396, 397, 398, 399, 32, 391, 284, 285, 286, 209, 287, 211, 288, 400, 401, 402, 403, 404, 405, 213, 180, 2, 181, 406, 407, 408, 76, 409, 115, 713, 714, 715, 716, 717, 756, 757, 758, 759, 760, 761, 762, 727, 728, 729, 730, 731, 732, 733, 734, 735, 736, 737, 738, 739, 749, 750, 751, 752, 753, 754, 755] (by decide +kernel) (by decide +kernel)
set_option maxRecDepth 20000 in
theorem gL_law_X4_shares : GoodIn wsL_law (wsV RL 87 RX4 yX4_shares wsX4_shares) := goodIn_app (goodIn_of _ (by decide +kernel)) ggL_law_X4_shares
set_option maxRecDepth 20000 in
theorem ggL_law_X5_shares : GoodIn wsL_law wsX5_shares := goodIn_r _ [607, 564, 565, 566, 5, 567, 64, 143, 144, 145, 244, 245, 246, 247, 419, 420, 421, 422, 149, 150, 151, 152, 423, 424, 425, 426, 427, 428, 429, 430, 431, 432, 433, 434, 435, 436, 718, 719, 720, 721, 722, 723, 724, 725, 726] (by decide +kernel) (by decide +kernel)
set_option maxRecDepth 20000 in
theorem gL_law_X5_shares : GoodIn wsL_law (wsV RL 90 RX5 yX5_shares wsX5_shares) := goodIn_app (goodIn_of _ (by decide +kernel)) ggL_law_X5_shares
set_option maxRecDepth 20000 in
theorem ggL_law_X4_inTheWay : GoodIn wsL_law wsX4_inTheWay := goodIn_r _ [611, 15, 163, 94, 95, 14, 96, 29, 28, 479, 480, 2, 481, 322, 323, 324, 81, 82, 83, 449, 450, 451, 612, 491, 492, 493, 42, 223, 172, 173, 174, 175, 41, 392, 393, 394, 395, 186, 169, 396, 397, 398, 399, 32, 391, 284, 285, 286, 209, 287, 211, 288, 400, 401, 402, 403, 404, 405, 213, 180, 181, 406, 407, 408, 76, 409, 115, 713, 714, 715, 716, 717, 727, 728, 729, 730, 731, 732, 733, 734, 735, 736, 737, 738, 739, 756, 757, 758, 759, 760, 761, 762, 749, 750, 751, 752, 753, 754, 755] (by decide +kernel) (by decide +kernel)
set_option maxRecDepth 20000 in
theorem gL_law_X4_inTheWay : GoodIn wsL_law (wsV RL 91 RX4 yX4_inTheWay wsX4_inTheWay) := goodIn_app (goodIn_of _ (by decide +kernel)) ggL_law_X4_inTheWay
set_option maxRecDepth 20000 in
theorem ggL_law_X5_inTheWay : GoodIn wsL_law wsX5_inTheWay := goodIn_r _ [616, 498, 499, 500, 5, 501, 228, 229, 230, 231, 64, 143, 144, 145, 329, 330, 331, 502, 503, 504, 457, 458, 459, 509, 510, 511, 512, 244, 245, 246, 247, 419, 420, 421, 422, 149, 150, 151, 152, 423, 424, 425, 426, 427, 428, 429, 430, 431, 432, 433, 434, 435, 436, 718, 719, 720, 721, 722, 723, 724, 725, 726] (by decide +kernel) (by decide +kernel)
set_option maxRecDepth 20000 in
theorem gL_law_X5_inTheWay : GoodIn wsL_law (wsV RL 94 RX5 yX5_inTheWay wsX5_inTheWay) := goodIn_app (goodIn_of _ (by decide +kernel)) ggL_law_X5_inTheWay
set_option maxRecDepth 20000 in
theorem ggL_law_X4_firstFree : GoodIn wsL_law wsX4_firstFree := goodIn_r _ [620, 15, 163, 94, 95, 14, 96, 29, 28, 449, 450, 2, 451, 81, 82, 83, 322, 323, 324, 482, 483, 484, 485, 171, 486, 487, 488, 489, 42, 172, 173, 174, 175, 41, 284, 285, 286, 209, 287, 211, 288, 400, 401, 402, 403, 404, 405, 213, 176, 177, 178, 179, 33, 180, 181, 182, 183, 184, 185, 32, 186, 490, 491, 492, 493, 223, 392, 393, 394, 395, 169, 396, 397, 398, 399, 391, 406, 407, 408, 76, 409, 115, 201, 202, 203, 204, 205, 206, 207, 208, 210, 212, 214, 215, 216, 217, 31, 218, 191, 192, 193, 194, 35, 36, 195, 196, 197, 198, 199, 200, 34, 713, 714, 715, 716, 717, 727, 728, 729, 730, 731, 732, 733, 734, 735, 736, 737, 738, 739, 749, 750, 751, 752, 753, 754, 755, 756, 757, 758, 759, 760, 761, 762] (by decide +kernel) (by decide +kernel)
set_option maxRecDepth 20000 in
theorem gL_law_X4_firstFree : GoodIn wsL_law (wsV RL 95 RX4 yX4_firstFree wsX4_firstFree) := goodIn_app (goodIn_of _ (by decide +kernel)) ggL_law_X4_firstFree
set_option maxRecDepth 20000 in
theorem ggL_law_X5_firstFree : GoodIn wsL_law wsX5_firstFree := goodIn_r _ [624, 228, 229, 230, 5, 231, 64, 143, 144, 145, 457, 458, 459, 329, 330, 331, 505, 506, 507, 508, 244, 245, 246, 247, 423, 424, 425, 313, 314, 315, 316, 149, 150, 151, 152, 509, 510, 511, 512, 419, 420, 421, 422, 426, 427, 428, 429, 430, 431, 432, 433, 434, 435, 436, 248, 249, 250, 251, 240, 241, 242, 243, 252, 253, 254, 255, 256, 257, 258, 259, 260, 261, 262, 263, 264, 265, 266, 267, 268, 269, 718, 719, 720, 721, 722, 723, 724, 725, 726] (by decide +kernel) (by decide +kernel)
set_option maxRecDepth 20000 in
theorem gL_law_X5_firstFree : GoodIn wsL_law (wsV RL 98 RX5 yX5_firstFree wsX5_firstFree) := goodIn_app (goodIn_of _ (by decide +kernel)) ggL_law_X5_firstFree
set_option maxRecDepth 20000 in
theorem ggL_law_X4_type : GoodIn wsL_law wsX4_type := goodIn_r _ [628, 22, 378, 81, 82, 2, 83, 629, 630, 631, 21, 632, 52, 51, 713, 714, 715, 716, 717, 740, 741, 742, 743, 744, 745, 746, 747, 748] (by decide +kernel) (by decide +kernel)
set_option maxRecDepth 20000 in
theorem gL_law_X4_type : GoodIn wsL_law (wsV RL 99 RX4 yX4_type wsX4_type) := goodIn_app (goodIn_of _ (by decide +kernel)) ggL_law_X4_type
set_option maxRecDepth 20000 in
theorem ggL_law_X5_type : GoodIn wsL_law wsX5_type := goodIn_r _ [636, 414, 67, 143, 144, 5, 145, 718, 719, 720, 721, 722, 723, 724, 725, 726] (by decide +kernel) (by decide +kernel)
set_option maxRecDepth 20000 in
theorem gL_law_X5_type : GoodIn wsL_law (wsV RL 102 RX5 yX5_type wsX5_type) := goodIn_app (goodIn_of _ (by decide +kernel)) ggL_law_X5_type
set_option maxRecDepth 20000 in
theorem ggL_law_X4_clearText : GoodIn wsL_law wsX4_clearText := goodIn_r _ [640, 22, 378, 713, 714, 715, 716, 717, 740, 741, 742, 743, 744, 745, 746, 747, 748] (by decide +kernel) (by decide +kernel)
set_option maxRecDepth 20000 in
theorem gL_law_X4_clearText : GoodIn wsL_law (wsV RL 103 RX4 yX4_clearText wsX4_clearText) := goodIn_app (goodIn_of _ (by decide +kernel)) ggL_law_X4_clearText
set_option maxRecDepth 20000 in
theorem ggL_law_X5_clearText : GoodIn wsL_law wsX5_clearText := goodIn_r _ [644, 414, 718, 719, 720, 721, 722, 723, 724, 725, 726] (by decide +kernel) (by decide +kernel)
set_option maxRecDepth 20000 in
theorem gL_law_X5_clearText : GoodIn wsL_law (wsV RL 106 RX5 yX5_clearText wsX5_clearText) := goodIn_app (goodIn_of _ (by decide +kernel)) ggL_law_X5_clearText
set_option maxRecDepth 20000 in
theorem ggL_law_X4_fault : GoodIn wsL_law wsX4_fault := goodIn_r _ [648, 16, 15, 22, 649, 81, 82, 2, 83, 105, 106, 107, 14, 108, 28, 109, 102, 103, 104, 29, 31, 32, 33, 34, 35, 36, 38, 39, 40, 41, 42, 650, 651, 652, 653, 654, 378, 655, 656, 657, 658, 659, 660, 661, 662, 517, 518, 209, 377, 663, 664, 665, 21, 666, 54, 53, 55, 56, 57, 58, 59, 667, 668, 669, 670, 671, 672, 673, 674, 52, 51, 675, 676, 677, 678, 163, 94, 95, 96, 479, 480, 481, 322, 323, 324, 449, 450, 451, 482, 483, 484, 485, 171, 486, 487, 488, 489, 172, 173, 174, 175, 284, 285, 286, 287, 211, 288, 400, 401, 402, 403, 404, 405, 213, 176, 177, 178, 179, 180, 181, 182, 183, 184, 185, 186, 490, 491, 492, 493, 223, 392, 393, 394, 395, 169, 396, 397, 398, 399, 391, 406, 407, 408, 76, 409, 115, 201, 202, 203, 204, 205, 206, 207, 208, 210, 212, 214, 215, 216, 217, 218, 191, 192, 193, 194, 195, 196, 197, 198, 199, 200, 520, 521, 522, 523, 524, 525, 526, 527, 10, 11, 528, 529, 530, 531, 532, 533, 534, 137, 138, 713, 714, 715, 716, 717, 740, 741, 742, 743, 744, 745, 746, 747, 748, 727, 728, 729, 730, 731, 732, 733, 734, 735, 736, 737, 738, 739, 756, 757, 758, 759, 760, 761, 762, 749, 750, 751, 752, 753, 754, 755] (by decide +kernel) (by decide +kernel)
set_option maxRecDepth 20000 in
theorem gL_law_X4_fault : GoodIn wsL_law (wsV RL 107 RX4 yX4_fault wsX4_fault) := goodIn_app (goodIn_of _ (by decide +kernel)) ggL_law_X4_fault
set_option maxRecDepth 20000 in
theorem ggL_law_X5_fault : GoodIn wsL_law wsX5_fault := goodIn_r _ [682, 683, 143, 144, 5, 145, 684, 685, 686, 687, 66, 64, 688, 414, 689, 690, 691, 692, 68, 693, 694, 695, 696, 697, 698, 699, 700, 67, 701, 702, 703, 704, 498, 499, 500, 501, 228, 229, 230, 231, 329, 330, 331, 502, 503, 504, 457, 458, 459, 505, 506, 507, 508, 244, 245, 246, 247, 423, 424, 425, 313, 314, 315, 316, 149, 150, 151, 152, 509, 510, 511, 512, 419, 420, 421, 422, 426, 427, 428, 429, 430, 431, 432, 433, 434, 435, 436, 248, 249, 250, 251, 240, 241, 242, 243, 252, 253, 254, 255, 256, 257, 258, 259, 260, 261, 262, 263, 264, 265, 266, 267, 268, 269, 539, 540, 541, 542, 294, 295, 296, 297, 543, 544, 545, 546, 718, 719, 720, 721, 722, 723, 724, 725, 726] (by decide +kernel) (by decide +kernel)
set_option maxRecDepth 20000 in
theorem gL_law_X5_fault : GoodIn wsL_law (wsV RL 110 RX5 yX5_fault wsX5_fault) := goodIn_app (goodIn_of _ (by decide +kernel)) ggL_law_X5_fault
set_option maxRecDepth 20000 in
theorem ggL_law_X4_enter : GoodIn wsL_law wsX4_enter := goodIn_r _ [708, 16, 15, 377, 105, 106, 107, 14, 108, 28, 109, 102, 103, 104, 29, 31, 32, 33, 34, 35, 36, 38, 39, 40, 41, 42, 650, 651, 652, 2, 653, 22, 654, 378, 655, 656, 657, 658, 659, 660, 661, 662, 517, 518, 209, 663, 664, 665, 21, 666, 54, 53, 55, 56, 57, 58, 59, 667, 668, 669, 670, 671, 672, 673, 674, 52, 51, 82, 83, 675, 676, 677, 678, 163, 94, 95, 96, 479, 480, 481, 322, 323, 324, 81, 449, 450, 451, 482, 483, 484, 485, 171, 486, 487, 488, 489, 172, 173, 174, 175, 284, 285, 286, 287, 211, 288, 400, 401, 402, 403, 404, 405, 213, 176, 177, 178, 179, 180, 181, 182, 183, 184, 185, 186, 490, 491, 492, 493, 223, 392, 393, 394, 395, 169, 396, 397, 398, 399, 391, 406, 407, 408, 76, 409, 115, 201, 202, 203, 204, 205, 206, 207, 208, 210, 212, 214, 215, 216, 217, 218, 191, 192, 193, 194, 195, 196, 197, 198, 199, 200, 520, 521, 522, 523, 524, 525, 526, 527, 10, 11, 528, 529, 530, 531, 532, 533, 534, 137, 138, 97, 98, 99, 100, 18, 17, 101, 713, 714, 715, 716, 717, 727, 728, 729, 730, 731, 732, 733, 734, 735, 736, 737, 738, 739, 740, 741, 742, 743, 744, 745, 746, 747, 748, 756, 757, 758, 759, 760, 761, 762, 749, 750, 751, 752, 753, 754, 755] (by decide +kernel) (by decide +kernel)
set_option maxRecDepth 20000 in
theorem gL_law_X4_enter : GoodIn wsL_law (wsV RL 111 RX4 yX4_enter wsX4_enter) := goodIn_app (goodIn_of _ (by decide +kernel)) ggL_law_X4_enter
set_option maxRecDepth 20000 in
theorem ggL_law_X5_enter : GoodIn wsL_law wsX5_enter := goodIn_r _ [712, 688, 414, 684, 685, 686, 5, 687, 66, 64, 683, 689, 690, 691, 692, 68, 693, 694, 695, 696, 697, 698, 699, 700, 67, 143, 144, 145, 701, 702, 703, 704, 498, 499, 500, 501, 228, 229, 230, 231, 329, 330, 331, 502, 503, 504, 457, 458, 459, 505, 506, 507, 508, 244, 245, 246, 247, 423, 424, 425, 313, 314, 315, 316, 149, 150, 151, 152, 509, 510, 511, 512, 419, 420, 421, 422, 426, 427, 428, 429, 430, 431, 432, 433, 434, 435, 436, 248, 249, 250, 251, 240, 241, 242, 243, 252, 253, 254, 255, 256, 257, 258, 259, 260, 261, 262, 263, 264, 265, 266, 267, 268, 269, 539, 540, 541, 542, 294, 295, 296, 297, 543, 544, 545, 546, 153, 154, 155, 156, 157, 65, 718, 719, 720, 721, 722, 723, 724, 725, 726] (by decide +kernel) (by decide +kernel)
set_option maxRecDepth 20000 in
theorem gL_law_X5_enter : GoodIn wsL_law (wsV RL 114 RX5 yX5_enter wsX5_enter) := goodIn_app (goodIn_of _ (by decide +kernel)) ggL_law_X5_enter
theorem dL_law_0 : decode cL_law 0 = .ok (.new 7, 3) := by decide +kernel
theorem dL_law_3 : decode cL_law 3 = .ok (.dup, 1) := by decide +kernel
theorem dL_law_4 : decode cL_law 4 = .ok (.invokespecial 9, 3) := by decide +kernel
theorem dL_law_7 : decode cL_law 7 = .ok (.astore_n 1, 1) := by decide +kernel
theorem dL_law_8 : decode cL_law 8 = .ok (.new 10, 3) := by decide +kernel
theorem dL_law_11 : decode cL_law 11 = .ok (.dup, 1) := by decide +kernel
theorem dL_law_12 : decode cL_law 12 = .ok (.invokespecial 12, 3) := by decide +kernel
theorem dL_law_15 : decode cL_law 15 = .ok (.astore_n 2, 1) := by decide +kernel
theorem dL_law_16 : decode cL_law 16 = .ok (.iconst 0, 1) := by decide +kernel
theorem dL_law_17 : decode cL_law 17 = .ok (.istore_n 3, 1) := by decide +kernel
theorem dL_law_18 : decode cL_law 18 = .ok (.iload_n 3, 1) := by decide +kernel
theorem dL_law_19 : decode cL_law 19 = .ok (.aload_n 0, 1) := by decide +kernel
theorem dL_law_20 : decode cL_law 20 = .ok (.arraylength, 1) := by decide +kernel
theorem dL_law_21 : decode cL_law 21 = .ok (.bipush 7, 2) := by decide +kernel
theorem dL_law_23 : decode cL_law 23 = .ok (.isub, 1) := by decide +kernel
theorem dL_law_24 : decode cL_law 24 = .ok (.if_icmp .gt 990, 3) := by decide +kernel
theorem dL_law_27 : decode cL_law 27 = .ok (.aload_n 0, 1) := by decide +kernel
theorem dL_law_28 : decode cL_law 28 = .ok (.iload_n 3, 1) := by decide +kernel
theorem dL_law_29 : decode cL_law 29 = .ok (.iaload, 1) := by decide +kernel
theorem dL_law_30 : decode cL_law 30 = .ok (.bipush 31, 2) := by decide +kernel
theorem dL_law_32 : decode cL_law 32 = .ok (.iand, 1) := by decide +kernel
theorem dL_law_33 : decode cL_law 33 = .ok (.tableswitch 975 0 23 #[111, 186, 219, 252, 285, 318, 361, 414, 457, 480, 493, 546, 579, 632, 685, 708, 741, 764, 797, 850, 903, 926, 939, 962], 111) := by decide +kernel
theorem dL_law_144 : decode cL_law 144 = .ok (.aload_n 1, 1) := by decide +kernel
theorem dL_law_145 : decode cL_law 145 = .ok (.aload_n 0, 1) := by decide +kernel
theorem dL_law_146 : decode cL_law 146 = .ok (.iload_n 3, 1) := by decide +kernel
theorem dL_law_147 : decode cL_law 147 = .ok (.iconst 1, 1) := by decide +kernel
theorem dL_law_148 : decode cL_law 148 = .ok (.iadd, 1) := by decide +kernel
theorem dL_law_149 : decode cL_law 149 = .ok (.iaload, 1) := by decide +kernel
theorem dL_law_150 : decode cL_law 150 = .ok (.aload_n 0, 1) := by decide +kernel
theorem dL_law_151 : decode cL_law 151 = .ok (.iload_n 3, 1) := by decide +kernel
theorem dL_law_152 : decode cL_law 152 = .ok (.iconst 2, 1) := by decide +kernel
theorem dL_law_153 : decode cL_law 153 = .ok (.iadd, 1) := by decide +kernel
theorem dL_law_154 : decode cL_law 154 = .ok (.iaload, 1) := by decide +kernel
theorem dL_law_155 : decode cL_law 155 = .ok (.aload_n 0, 1) := by decide +kernel
theorem dL_law_156 : decode cL_law 156 = .ok (.iload_n 3, 1) := by decide +kernel
theorem dL_law_157 : decode cL_law 157 = .ok (.iconst 3, 1) := by decide +kernel
theorem dL_law_158 : decode cL_law 158 = .ok (.iadd, 1) := by decide +kernel
theorem dL_law_159 : decode cL_law 159 = .ok (.iaload, 1) := by decide +kernel
theorem dL_law_160 : decode cL_law 160 = .ok (.aload_n 0, 1) := by decide +kernel
theorem dL_law_161 : decode cL_law 161 = .ok (.iload_n 3, 1) := by decide +kernel
theorem dL_law_162 : decode cL_law 162 = .ok (.iconst 4, 1) := by decide +kernel
theorem dL_law_163 : decode cL_law 163 = .ok (.iadd, 1) := by decide +kernel
theorem dL_law_164 : decode cL_law 164 = .ok (.iaload, 1) := by decide +kernel
theorem dL_law_165 : decode cL_law 165 = .ok (.aload_n 0, 1) := by decide +kernel
theorem dL_law_166 : decode cL_law 166 = .ok (.iload_n 3, 1) := by decide +kernel
theorem dL_law_167 : decode cL_law 167 = .ok (.iconst 5, 1) := by decide +kernel
theorem dL_law_168 : decode cL_law 168 = .ok (.iadd, 1) := by decide +kernel
theorem dL_law_169 : decode cL_law 169 = .ok (.iaload, 1) := by decide +kernel
theorem dL_law_170 : decode cL_law 170 = .ok (.aload_n 0, 1) := by decide +kernel
theorem dL_law_171 : decode cL_law 171 = .ok (.iload_n 3, 1) := by decide +kernel
theorem dL_law_172 : decode cL_law 172 = .ok (.bipush 6, 2) := by decide +kernel
theorem dL_law_174 : decode cL_law 174 = .ok (.iadd, 1) := by decide +kernel
theorem dL_law_175 : decode cL_law 175 = .ok (.iaload, 1) := by decide +kernel
theorem dL_law_176 : decode cL_law 176 = .ok (.invokevirtual 13, 3) := by decide +kernel
theorem dL_law_179 : decode cL_law 179 = .ok (.aload_n 2, 1) := by decide +kernel
theorem dL_law_180 : decode cL_law 180 = .ok (.aload_n 0, 1) := by decide +kernel
theorem dL_law_181 : decode cL_law 181 = .ok (.iload_n 3, 1) := by decide +kernel
theorem dL_law_182 : decode cL_law 182 = .ok (.iconst 1, 1) := by decide +kernel
theorem dL_law_183 : decode cL_law 183 = .ok (.iadd, 1) := by decide +kernel
theorem dL_law_184 : decode cL_law 184 = .ok (.iaload, 1) := by decide +kernel
theorem dL_law_185 : decode cL_law 185 = .ok (.aload_n 0, 1) := by decide +kernel
theorem dL_law_186 : decode cL_law 186 = .ok (.iload_n 3, 1) := by decide +kernel
theorem dL_law_187 : decode cL_law 187 = .ok (.iconst 2, 1) := by decide +kernel
theorem dL_law_188 : decode cL_law 188 = .ok (.iadd, 1) := by decide +kernel
theorem dL_law_189 : decode cL_law 189 = .ok (.iaload, 1) := by decide +kernel
theorem dL_law_190 : decode cL_law 190 = .ok (.aload_n 0, 1) := by decide +kernel
theorem dL_law_191 : decode cL_law 191 = .ok (.iload_n 3, 1) := by decide +kernel
theorem dL_law_192 : decode cL_law 192 = .ok (.iconst 3, 1) := by decide +kernel
theorem dL_law_193 : decode cL_law 193 = .ok (.iadd, 1) := by decide +kernel
theorem dL_law_194 : decode cL_law 194 = .ok (.iaload, 1) := by decide +kernel
theorem dL_law_195 : decode cL_law 195 = .ok (.aload_n 0, 1) := by decide +kernel
theorem dL_law_196 : decode cL_law 196 = .ok (.iload_n 3, 1) := by decide +kernel
theorem dL_law_197 : decode cL_law 197 = .ok (.iconst 4, 1) := by decide +kernel
theorem dL_law_198 : decode cL_law 198 = .ok (.iadd, 1) := by decide +kernel
theorem dL_law_199 : decode cL_law 199 = .ok (.iaload, 1) := by decide +kernel
theorem dL_law_200 : decode cL_law 200 = .ok (.aload_n 0, 1) := by decide +kernel
theorem dL_law_201 : decode cL_law 201 = .ok (.iload_n 3, 1) := by decide +kernel
theorem dL_law_202 : decode cL_law 202 = .ok (.iconst 5, 1) := by decide +kernel
theorem dL_law_203 : decode cL_law 203 = .ok (.iadd, 1) := by decide +kernel
theorem dL_law_204 : decode cL_law 204 = .ok (.iaload, 1) := by decide +kernel
theorem dL_law_205 : decode cL_law 205 = .ok (.aload_n 0, 1) := by decide +kernel
theorem dL_law_206 : decode cL_law 206 = .ok (.iload_n 3, 1) := by decide +kernel
theorem dL_law_207 : decode cL_law 207 = .ok (.bipush 6, 2) := by decide +kernel
theorem dL_law_209 : decode cL_law 209 = .ok (.iadd, 1) := by decide +kernel
theorem dL_law_210 : decode cL_law 210 = .ok (.iaload, 1) := by decide +kernel
theorem dL_law_211 : decode cL_law 211 = .ok (.invokevirtual 17, 3) := by decide +kernel
theorem dL_law_214 : decode cL_law 214 = .ok (.if_icmp .eq 794, 3) := by decide +kernel
theorem dL_law_217 : decode cL_law 217 = .ok (.iconst 0, 1) := by decide +kernel
theorem dL_law_218 : decode cL_law 218 = .ok (.ireturn, 1) := by decide +kernel
theorem dL_law_219 : decode cL_law 219 = .ok (.aload_n 1, 1) := by decide +kernel
theorem dL_law_220 : decode cL_law 220 = .ok (.aload_n 0, 1) := by decide +kernel
theorem dL_law_221 : decode cL_law 221 = .ok (.iload_n 3, 1) := by decide +kernel
theorem dL_law_222 : decode cL_law 222 = .ok (.iconst 1, 1) := by decide +kernel
theorem dL_law_223 : decode cL_law 223 = .ok (.iadd, 1) := by decide +kernel
theorem dL_law_224 : decode cL_law 224 = .ok (.iaload, 1) := by decide +kernel
theorem dL_law_225 : decode cL_law 225 = .ok (.aload_n 0, 1) := by decide +kernel
theorem dL_law_226 : decode cL_law 226 = .ok (.iload_n 3, 1) := by decide +kernel
theorem dL_law_227 : decode cL_law 227 = .ok (.iconst 2, 1) := by decide +kernel
theorem dL_law_228 : decode cL_law 228 = .ok (.iadd, 1) := by decide +kernel
theorem dL_law_229 : decode cL_law 229 = .ok (.iaload, 1) := by decide +kernel
theorem dL_law_230 : decode cL_law 230 = .ok (.invokevirtual 18, 3) := by decide +kernel
theorem dL_law_233 : decode cL_law 233 = .ok (.aload_n 2, 1) := by decide +kernel
theorem dL_law_234 : decode cL_law 234 = .ok (.aload_n 0, 1) := by decide +kernel
theorem dL_law_235 : decode cL_law 235 = .ok (.iload_n 3, 1) := by decide +kernel
theorem dL_law_236 : decode cL_law 236 = .ok (.iconst 1, 1) := by decide +kernel
theorem dL_law_237 : decode cL_law 237 = .ok (.iadd, 1) := by decide +kernel
theorem dL_law_238 : decode cL_law 238 = .ok (.iaload, 1) := by decide +kernel
theorem dL_law_239 : decode cL_law 239 = .ok (.aload_n 0, 1) := by decide +kernel
theorem dL_law_240 : decode cL_law 240 = .ok (.iload_n 3, 1) := by decide +kernel
theorem dL_law_241 : decode cL_law 241 = .ok (.iconst 2, 1) := by decide +kernel
theorem dL_law_242 : decode cL_law 242 = .ok (.iadd, 1) := by decide +kernel
theorem dL_law_243 : decode cL_law 243 = .ok (.iaload, 1) := by decide +kernel
theorem dL_law_244 : decode cL_law 244 = .ok (.invokevirtual 22, 3) := by decide +kernel
theorem dL_law_247 : decode cL_law 247 = .ok (.if_icmp .eq 761, 3) := by decide +kernel
theorem dL_law_250 : decode cL_law 250 = .ok (.iconst 0, 1) := by decide +kernel
theorem dL_law_251 : decode cL_law 251 = .ok (.ireturn, 1) := by decide +kernel
theorem dL_law_252 : decode cL_law 252 = .ok (.aload_n 1, 1) := by decide +kernel
theorem dL_law_253 : decode cL_law 253 = .ok (.aload_n 0, 1) := by decide +kernel
theorem dL_law_254 : decode cL_law 254 = .ok (.iload_n 3, 1) := by decide +kernel
theorem dL_law_255 : decode cL_law 255 = .ok (.iconst 1, 1) := by decide +kernel
theorem dL_law_256 : decode cL_law 256 = .ok (.iadd, 1) := by decide +kernel
theorem dL_law_257 : decode cL_law 257 = .ok (.iaload, 1) := by decide +kernel
theorem dL_law_258 : decode cL_law 258 = .ok (.aload_n 0, 1) := by decide +kernel
theorem dL_law_259 : decode cL_law 259 = .ok (.iload_n 3, 1) := by decide +kernel
theorem dL_law_260 : decode cL_law 260 = .ok (.iconst 2, 1) := by decide +kernel
theorem dL_law_261 : decode cL_law 261 = .ok (.iadd, 1) := by decide +kernel
theorem dL_law_262 : decode cL_law 262 = .ok (.iaload, 1) := by decide +kernel
theorem dL_law_263 : decode cL_law 263 = .ok (.invokevirtual 23, 3) := by decide +kernel
theorem dL_law_266 : decode cL_law 266 = .ok (.aload_n 2, 1) := by decide +kernel
theorem dL_law_267 : decode cL_law 267 = .ok (.aload_n 0, 1) := by decide +kernel
theorem dL_law_268 : decode cL_law 268 = .ok (.iload_n 3, 1) := by decide +kernel
theorem dL_law_269 : decode cL_law 269 = .ok (.iconst 1, 1) := by decide +kernel
theorem dL_law_270 : decode cL_law 270 = .ok (.iadd, 1) := by decide +kernel
theorem dL_law_271 : decode cL_law 271 = .ok (.iaload, 1) := by decide +kernel
theorem dL_law_272 : decode cL_law 272 = .ok (.aload_n 0, 1) := by decide +kernel
theorem dL_law_273 : decode cL_law 273 = .ok (.iload_n 3, 1) := by decide +kernel
theorem dL_law_274 : decode cL_law 274 = .ok (.iconst 2, 1) := by decide +kernel
theorem dL_law_275 : decode cL_law 275 = .ok (.iadd, 1) := by decide +kernel
theorem dL_law_276 : decode cL_law 276 = .ok (.iaload, 1) := by decide +kernel
theorem dL_law_277 : decode cL_law 277 = .ok (.invokevirtual 26, 3) := by decide +kernel
theorem dL_law_280 : decode cL_law 280 = .ok (.if_icmp .eq 728, 3) := by decide +kernel
theorem dL_law_283 : decode cL_law 283 = .ok (.iconst 0, 1) := by decide +kernel
theorem dL_law_284 : decode cL_law 284 = .ok (.ireturn, 1) := by decide +kernel
theorem dL_law_285 : decode cL_law 285 = .ok (.aload_n 1, 1) := by decide +kernel
theorem dL_law_286 : decode cL_law 286 = .ok (.aload_n 0, 1) := by decide +kernel
theorem dL_law_287 : decode cL_law 287 = .ok (.iload_n 3, 1) := by decide +kernel
theorem dL_law_288 : decode cL_law 288 = .ok (.iconst 1, 1) := by decide +kernel
theorem dL_law_289 : decode cL_law 289 = .ok (.iadd, 1) := by decide +kernel
theorem dL_law_290 : decode cL_law 290 = .ok (.iaload, 1) := by decide +kernel
theorem dL_law_291 : decode cL_law 291 = .ok (.aload_n 0, 1) := by decide +kernel
theorem dL_law_292 : decode cL_law 292 = .ok (.iload_n 3, 1) := by decide +kernel
theorem dL_law_293 : decode cL_law 293 = .ok (.iconst 2, 1) := by decide +kernel
theorem dL_law_294 : decode cL_law 294 = .ok (.iadd, 1) := by decide +kernel
theorem dL_law_295 : decode cL_law 295 = .ok (.iaload, 1) := by decide +kernel
theorem dL_law_296 : decode cL_law 296 = .ok (.invokevirtual 27, 3) := by decide +kernel
theorem dL_law_299 : decode cL_law 299 = .ok (.aload_n 2, 1) := by decide +kernel
theorem dL_law_300 : decode cL_law 300 = .ok (.aload_n 0, 1) := by decide +kernel
theorem dL_law_301 : decode cL_law 301 = .ok (.iload_n 3, 1) := by decide +kernel
theorem dL_law_302 : decode cL_law 302 = .ok (.iconst 1, 1) := by decide +kernel
theorem dL_law_303 : decode cL_law 303 = .ok (.iadd, 1) := by decide +kernel
theorem dL_law_304 : decode cL_law 304 = .ok (.iaload, 1) := by decide +kernel
theorem dL_law_305 : decode cL_law 305 = .ok (.aload_n 0, 1) := by decide +kernel
theorem dL_law_306 : decode cL_law 306 = .ok (.iload_n 3, 1) := by decide +kernel
theorem dL_law_307 : decode cL_law 307 = .ok (.iconst 2, 1) := by decide +kernel
theorem dL_law_308 : decode cL_law 308 = .ok (.iadd, 1) := by decide +kernel
theorem dL_law_309 : decode cL_law 309 = .ok (.iaload, 1) := by decide +kernel
theorem dL_law_310 : decode cL_law 310 = .ok (.invokevirtual 30, 3) := by decide +kernel
theorem dL_law_313 : decode cL_law 313 = .ok (.if_icmp .eq 695, 3) := by decide +kernel
theorem dL_law_316 : decode cL_law 316 = .ok (.iconst 0, 1) := by decide +kernel
theorem dL_law_317 : decode cL_law 317 = .ok (.ireturn, 1) := by decide +kernel
theorem dL_law_318 : decode cL_law 318 = .ok (.aload_n 1, 1) := by decide +kernel
theorem dL_law_319 : decode cL_law 319 = .ok (.aload_n 0, 1) := by decide +kernel
theorem dL_law_320 : decode cL_law 320 = .ok (.iload_n 3, 1) := by decide +kernel
theorem dL_law_321 : decode cL_law 321 = .ok (.iconst 1, 1) := by decide +kernel
theorem dL_law_322 : decode cL_law 322 = .ok (.iadd, 1) := by decide +kernel
theorem dL_law_323 : decode cL_law 323 = .ok (.iaload, 1) := by decide +kernel
theorem dL_law_324 : decode cL_law 324 = .ok (.aload_n 0, 1) := by decide +kernel
theorem dL_law_325 : decode cL_law 325 = .ok (.iload_n 3, 1) := by decide +kernel
theorem dL_law_326 : decode cL_law 326 = .ok (.iconst 2, 1) := by decide +kernel
theorem dL_law_327 : decode cL_law 327 = .ok (.iadd, 1) := by decide +kernel
theorem dL_law_328 : decode cL_law 328 = .ok (.iaload, 1) := by decide +kernel
theorem dL_law_329 : decode cL_law 329 = .ok (.invokevirtual 31, 3) := by decide +kernel
theorem dL_law_332 : decode cL_law 332 = .ok (.aload_n 2, 1) := by decide +kernel
theorem dL_law_333 : decode cL_law 333 = .ok (.aload_n 0, 1) := by decide +kernel
theorem dL_law_334 : decode cL_law 334 = .ok (.iload_n 3, 1) := by decide +kernel
theorem dL_law_335 : decode cL_law 335 = .ok (.iconst 1, 1) := by decide +kernel
theorem dL_law_336 : decode cL_law 336 = .ok (.iadd, 1) := by decide +kernel
theorem dL_law_337 : decode cL_law 337 = .ok (.iaload, 1) := by decide +kernel
theorem dL_law_338 : decode cL_law 338 = .ok (.aload_n 0, 1) := by decide +kernel
theorem dL_law_339 : decode cL_law 339 = .ok (.iload_n 3, 1) := by decide +kernel
theorem dL_law_340 : decode cL_law 340 = .ok (.iconst 2, 1) := by decide +kernel
theorem dL_law_341 : decode cL_law 341 = .ok (.iadd, 1) := by decide +kernel
theorem dL_law_342 : decode cL_law 342 = .ok (.iaload, 1) := by decide +kernel
theorem dL_law_343 : decode cL_law 343 = .ok (.invokevirtual 34, 3) := by decide +kernel
theorem dL_law_346 : decode cL_law 346 = .ok (.if_icmp .eq 662, 3) := by decide +kernel
theorem dL_law_349 : decode cL_law 349 = .ok (.iconst 0, 1) := by decide +kernel
theorem dL_law_350 : decode cL_law 350 = .ok (.ireturn, 1) := by decide +kernel
theorem dL_law_351 : decode cL_law 351 = .ok (.aload_n 1, 1) := by decide +kernel
theorem dL_law_352 : decode cL_law 352 = .ok (.aload_n 0, 1) := by decide +kernel
theorem dL_law_353 : decode cL_law 353 = .ok (.iload_n 3, 1) := by decide +kernel
theorem dL_law_354 : decode cL_law 354 = .ok (.iconst 1, 1) := by decide +kernel
theorem dL_law_355 : decode cL_law 355 = .ok (.iadd, 1) := by decide +kernel
theorem dL_law_356 : decode cL_law 356 = .ok (.iaload, 1) := by decide +kernel
theorem dL_law_357 : decode cL_law 357 = .ok (.aload_n 0, 1) := by decide +kernel
theorem dL_law_358 : decode cL_law 358 = .ok (.iload_n 3, 1) := by decide +kernel
theorem dL_law_359 : decode cL_law 359 = .ok (.iconst 2, 1) := by decide +kernel
theorem dL_law_360 : decode cL_law 360 = .ok (.iadd, 1) := by decide +kernel
theorem dL_law_361 : decode cL_law 361 = .ok (.iaload, 1) := by decide +kernel
theorem dL_law_362 : decode cL_law 362 = .ok (.aload_n 0, 1) := by decide +kernel
theorem dL_law_363 : decode cL_law 363 = .ok (.iload_n 3, 1) := by decide +kernel
theorem dL_law_364 : decode cL_law 364 = .ok (.iconst 3, 1) := by decide +kernel
theorem dL_law_365 : decode cL_law 365 = .ok (.iadd, 1) := by decide +kernel
theorem dL_law_366 : decode cL_law 366 = .ok (.iaload, 1) := by decide +kernel
theorem dL_law_367 : decode cL_law 367 = .ok (.invokevirtual 35, 3) := by decide +kernel
theorem dL_law_370 : decode cL_law 370 = .ok (.aload_n 2, 1) := by decide +kernel
theorem dL_law_371 : decode cL_law 371 = .ok (.aload_n 0, 1) := by decide +kernel
theorem dL_law_372 : decode cL_law 372 = .ok (.iload_n 3, 1) := by decide +kernel
theorem dL_law_373 : decode cL_law 373 = .ok (.iconst 1, 1) := by decide +kernel
theorem dL_law_374 : decode cL_law 374 = .ok (.iadd, 1) := by decide +kernel
theorem dL_law_375 : decode cL_law 375 = .ok (.iaload, 1) := by decide +kernel
theorem dL_law_376 : decode cL_law 376 = .ok (.aload_n 0, 1) := by decide +kernel
theorem dL_law_377 : decode cL_law 377 = .ok (.iload_n 3, 1) := by decide +kernel
theorem dL_law_378 : decode cL_law 378 = .ok (.iconst 2, 1) := by decide +kernel
theorem dL_law_379 : decode cL_law 379 = .ok (.iadd, 1) := by decide +kernel
theorem dL_law_380 : decode cL_law 380 = .ok (.iaload, 1) := by decide +kernel
theorem dL_law_381 : decode cL_law 381 = .ok (.aload_n 0, 1) := by decide +kernel
theorem dL_law_382 : decode cL_law 382 = .ok (.iload_n 3, 1) := by decide +kernel
theorem dL_law_383 : decode cL_law 383 = .ok (.iconst 3, 1) := by decide +kernel
theorem dL_law_384 : decode cL_law 384 = .ok (.iadd, 1) := by decide +kernel
theorem dL_law_385 : decode cL_law 385 = .ok (.iaload, 1) := by decide +kernel
theorem dL_law_386 : decode cL_law 386 = .ok (.invokevirtual 39, 3) := by decide +kernel
theorem dL_law_389 : decode cL_law 389 = .ok (.if_icmp .eq 619, 3) := by decide +kernel
theorem dL_law_392 : decode cL_law 392 = .ok (.iconst 0, 1) := by decide +kernel
theorem dL_law_393 : decode cL_law 393 = .ok (.ireturn, 1) := by decide +kernel
theorem dL_law_394 : decode cL_law 394 = .ok (.aload_n 1, 1) := by decide +kernel
theorem dL_law_395 : decode cL_law 395 = .ok (.aload_n 0, 1) := by decide +kernel
theorem dL_law_396 : decode cL_law 396 = .ok (.iload_n 3, 1) := by decide +kernel
theorem dL_law_397 : decode cL_law 397 = .ok (.iconst 1, 1) := by decide +kernel
theorem dL_law_398 : decode cL_law 398 = .ok (.iadd, 1) := by decide +kernel
theorem dL_law_399 : decode cL_law 399 = .ok (.iaload, 1) := by decide +kernel
theorem dL_law_400 : decode cL_law 400 = .ok (.aload_n 0, 1) := by decide +kernel
theorem dL_law_401 : decode cL_law 401 = .ok (.iload_n 3, 1) := by decide +kernel
theorem dL_law_402 : decode cL_law 402 = .ok (.iconst 2, 1) := by decide +kernel
theorem dL_law_403 : decode cL_law 403 = .ok (.iadd, 1) := by decide +kernel
theorem dL_law_404 : decode cL_law 404 = .ok (.iaload, 1) := by decide +kernel
theorem dL_law_405 : decode cL_law 405 = .ok (.aload_n 0, 1) := by decide +kernel
theorem dL_law_406 : decode cL_law 406 = .ok (.iload_n 3, 1) := by decide +kernel
theorem dL_law_407 : decode cL_law 407 = .ok (.iconst 3, 1) := by decide +kernel
theorem dL_law_408 : decode cL_law 408 = .ok (.iadd, 1) := by decide +kernel
theorem dL_law_409 : decode cL_law 409 = .ok (.iaload, 1) := by decide +kernel
theorem dL_law_410 : decode cL_law 410 = .ok (.aload_n 0, 1) := by decide +kernel
theorem dL_law_411 : decode cL_law 411 = .ok (.iload_n 3, 1) := by decide +kernel
theorem dL_law_412 : decode cL_law 412 = .ok (.iconst 4, 1) := by decide +kernel
theorem dL_law_413 : decode cL_law 413 = .ok (.iadd, 1) := by decide +kernel
theorem dL_law_414 : decode cL_law 414 = .ok (.iaload, 1) := by decide +kernel
theorem dL_law_415 : decode cL_law 415 = .ok (.invokevirtual 40, 3) := by decide +kernel
theorem dL_law_418 : decode cL_law 418 = .ok (.aload_n 2, 1) := by decide +kernel
theorem dL_law_419 : decode cL_law 419 = .ok (.aload_n 0, 1) := by decide +kernel
theorem dL_law_420 : decode cL_law 420 = .ok (.iload_n 3, 1) := by decide +kernel
theorem dL_law_421 : decode cL_law 421 = .ok (.iconst 1, 1) := by decide +kernel
theorem dL_law_422 : decode cL_law 422 = .ok (.iadd, 1) := by decide +kernel
theorem dL_law_423 : decode cL_law 423 = .ok (.iaload, 1) := by decide +kernel
theorem dL_law_424 : decode cL_law 424 = .ok (.aload_n 0, 1) := by decide +kernel
theorem dL_law_425 : decode cL_law 425 = .ok (.iload_n 3, 1) := by decide +kernel
theorem dL_law_426 : decode cL_law 426 = .ok (.iconst 2, 1) := by decide +kernel
theorem dL_law_427 : decode cL_law 427 = .ok (.iadd, 1) := by decide +kernel
theorem dL_law_428 : decode cL_law 428 = .ok (.iaload, 1) := by decide +kernel
theorem dL_law_429 : decode cL_law 429 = .ok (.aload_n 0, 1) := by decide +kernel
theorem dL_law_430 : decode cL_law 430 = .ok (.iload_n 3, 1) := by decide +kernel
theorem dL_law_431 : decode cL_law 431 = .ok (.iconst 3, 1) := by decide +kernel
theorem dL_law_432 : decode cL_law 432 = .ok (.iadd, 1) := by decide +kernel
theorem dL_law_433 : decode cL_law 433 = .ok (.iaload, 1) := by decide +kernel
theorem dL_law_434 : decode cL_law 434 = .ok (.aload_n 0, 1) := by decide +kernel
theorem dL_law_435 : decode cL_law 435 = .ok (.iload_n 3, 1) := by decide +kernel
theorem dL_law_436 : decode cL_law 436 = .ok (.iconst 4, 1) := by decide +kernel
theorem dL_law_437 : decode cL_law 437 = .ok (.iadd, 1) := by decide +kernel
theorem dL_law_438 : decode cL_law 438 = .ok (.iaload, 1) := by decide +kernel
theorem dL_law_439 : decode cL_law 439 = .ok (.invokevirtual 44, 3) := by decide +kernel
theorem dL_law_442 : decode cL_law 442 = .ok (.if_icmp .eq 566, 3) := by decide +kernel
theorem dL_law_445 : decode cL_law 445 = .ok (.iconst 0, 1) := by decide +kernel
theorem dL_law_446 : decode cL_law 446 = .ok (.ireturn, 1) := by decide +kernel
theorem dL_law_447 : decode cL_law 447 = .ok (.aload_n 1, 1) := by decide +kernel
theorem dL_law_448 : decode cL_law 448 = .ok (.aload_n 0, 1) := by decide +kernel
theorem dL_law_449 : decode cL_law 449 = .ok (.iload_n 3, 1) := by decide +kernel
theorem dL_law_450 : decode cL_law 450 = .ok (.iconst 1, 1) := by decide +kernel
theorem dL_law_451 : decode cL_law 451 = .ok (.iadd, 1) := by decide +kernel
theorem dL_law_452 : decode cL_law 452 = .ok (.iaload, 1) := by decide +kernel
theorem dL_law_453 : decode cL_law 453 = .ok (.aload_n 0, 1) := by decide +kernel
theorem dL_law_454 : decode cL_law 454 = .ok (.iload_n 3, 1) := by decide +kernel
theorem dL_law_455 : decode cL_law 455 = .ok (.iconst 2, 1) := by decide +kernel
theorem dL_law_456 : decode cL_law 456 = .ok (.iadd, 1) := by decide +kernel
theorem dL_law_457 : decode cL_law 457 = .ok (.iaload, 1) := by decide +kernel
theorem dL_law_458 : decode cL_law 458 = .ok (.aload_n 0, 1) := by decide +kernel
theorem dL_law_459 : decode cL_law 459 = .ok (.iload_n 3, 1) := by decide +kernel
theorem dL_law_460 : decode cL_law 460 = .ok (.iconst 3, 1) := by decide +kernel
theorem dL_law_461 : decode cL_law 461 = .ok (.iadd, 1) := by decide +kernel
theorem dL_law_462 : decode cL_law 462 = .ok (.iaload, 1) := by decide +kernel
theorem dL_law_463 : decode cL_law 463 = .ok (.invokevirtual 45, 3) := by decide +kernel
theorem dL_law_466 : decode cL_law 466 = .ok (.aload_n 2, 1) := by decide +kernel
theorem dL_law_467 : decode cL_law 467 = .ok (.aload_n 0, 1) := by decide +kernel
theorem dL_law_468 : decode cL_law 468 = .ok (.iload_n 3, 1) := by decide +kernel
theorem dL_law_469 : decode cL_law 469 = .ok (.iconst 1, 1) := by decide +kernel
theorem dL_law_470 : decode cL_law 470 = .ok (.iadd, 1) := by decide +kernel
theorem dL_law_471 : decode cL_law 471 = .ok (.iaload, 1) := by decide +kernel
theorem dL_law_472 : decode cL_law 472 = .ok (.aload_n 0, 1) := by decide +kernel
theorem dL_law_473 : decode cL_law 473 = .ok (.iload_n 3, 1) := by decide +kernel
theorem dL_law_474 : decode cL_law 474 = .ok (.iconst 2, 1) := by decide +kernel
theorem dL_law_475 : decode cL_law 475 = .ok (.iadd, 1) := by decide +kernel
theorem dL_law_476 : decode cL_law 476 = .ok (.iaload, 1) := by decide +kernel
theorem dL_law_477 : decode cL_law 477 = .ok (.aload_n 0, 1) := by decide +kernel
theorem dL_law_478 : decode cL_law 478 = .ok (.iload_n 3, 1) := by decide +kernel
theorem dL_law_479 : decode cL_law 479 = .ok (.iconst 3, 1) := by decide +kernel
theorem dL_law_480 : decode cL_law 480 = .ok (.iadd, 1) := by decide +kernel
theorem dL_law_481 : decode cL_law 481 = .ok (.iaload, 1) := by decide +kernel
theorem dL_law_482 : decode cL_law 482 = .ok (.invokevirtual 48, 3) := by decide +kernel
theorem dL_law_485 : decode cL_law 485 = .ok (.if_icmp .eq 523, 3) := by decide +kernel
theorem dL_law_488 : decode cL_law 488 = .ok (.iconst 0, 1) := by decide +kernel
theorem dL_law_489 : decode cL_law 489 = .ok (.ireturn, 1) := by decide +kernel
theorem dL_law_490 : decode cL_law 490 = .ok (.aload_n 1, 1) := by decide +kernel
theorem dL_law_491 : decode cL_law 491 = .ok (.aload_n 0, 1) := by decide +kernel
theorem dL_law_492 : decode cL_law 492 = .ok (.iload_n 3, 1) := by decide +kernel
theorem dL_law_493 : decode cL_law 493 = .ok (.iconst 1, 1) := by decide +kernel
theorem dL_law_494 : decode cL_law 494 = .ok (.iadd, 1) := by decide +kernel
theorem dL_law_495 : decode cL_law 495 = .ok (.iaload, 1) := by decide +kernel
theorem dL_law_496 : decode cL_law 496 = .ok (.invokevirtual 49, 3) := by decide +kernel
theorem dL_law_499 : decode cL_law 499 = .ok (.aload_n 2, 1) := by decide +kernel
theorem dL_law_500 : decode cL_law 500 = .ok (.aload_n 0, 1) := by decide +kernel
theorem dL_law_501 : decode cL_law 501 = .ok (.iload_n 3, 1) := by decide +kernel
theorem dL_law_502 : decode cL_law 502 = .ok (.iconst 1, 1) := by decide +kernel
theorem dL_law_503 : decode cL_law 503 = .ok (.iadd, 1) := by decide +kernel
theorem dL_law_504 : decode cL_law 504 = .ok (.iaload, 1) := by decide +kernel
theorem dL_law_505 : decode cL_law 505 = .ok (.invokevirtual 53, 3) := by decide +kernel
theorem dL_law_508 : decode cL_law 508 = .ok (.if_icmp .eq 500, 3) := by decide +kernel
theorem dL_law_511 : decode cL_law 511 = .ok (.iconst 0, 1) := by decide +kernel
theorem dL_law_512 : decode cL_law 512 = .ok (.ireturn, 1) := by decide +kernel
theorem dL_law_513 : decode cL_law 513 = .ok (.aload_n 1, 1) := by decide +kernel
theorem dL_law_514 : decode cL_law 514 = .ok (.invokevirtual 54, 3) := by decide +kernel
theorem dL_law_517 : decode cL_law 517 = .ok (.aload_n 2, 1) := by decide +kernel
theorem dL_law_518 : decode cL_law 518 = .ok (.invokevirtual 58, 3) := by decide +kernel
theorem dL_law_521 : decode cL_law 521 = .ok (.if_icmp .eq 487, 3) := by decide +kernel
theorem dL_law_524 : decode cL_law 524 = .ok (.iconst 0, 1) := by decide +kernel
theorem dL_law_525 : decode cL_law 525 = .ok (.ireturn, 1) := by decide +kernel
theorem dL_law_526 : decode cL_law 526 = .ok (.aload_n 1, 1) := by decide +kernel
theorem dL_law_527 : decode cL_law 527 = .ok (.aload_n 0, 1) := by decide +kernel
theorem dL_law_528 : decode cL_law 528 = .ok (.iload_n 3, 1) := by decide +kernel
theorem dL_law_529 : decode cL_law 529 = .ok (.iconst 1, 1) := by decide +kernel
theorem dL_law_530 : decode cL_law 530 = .ok (.iadd, 1) := by decide +kernel
theorem dL_law_531 : decode cL_law 531 = .ok (.iaload, 1) := by decide +kernel
theorem dL_law_532 : decode cL_law 532 = .ok (.aload_n 0, 1) := by decide +kernel
theorem dL_law_533 : decode cL_law 533 = .ok (.iload_n 3, 1) := by decide +kernel
theorem dL_law_534 : decode cL_law 534 = .ok (.iconst 2, 1) := by decide +kernel
theorem dL_law_535 : decode cL_law 535 = .ok (.iadd, 1) := by decide +kernel
theorem dL_law_536 : decode cL_law 536 = .ok (.iaload, 1) := by decide +kernel
theorem dL_law_537 : decode cL_law 537 = .ok (.aload_n 0, 1) := by decide +kernel
theorem dL_law_538 : decode cL_law 538 = .ok (.iload_n 3, 1) := by decide +kernel
theorem dL_law_539 : decode cL_law 539 = .ok (.iconst 3, 1) := by decide +kernel
theorem dL_law_540 : decode cL_law 540 = .ok (.iadd, 1) := by decide +kernel
theorem dL_law_541 : decode cL_law 541 = .ok (.iaload, 1) := by decide +kernel
theorem dL_law_542 : decode cL_law 542 = .ok (.aload_n 0, 1) := by decide +kernel
theorem dL_law_543 : decode cL_law 543 = .ok (.iload_n 3, 1) := by decide +kernel
theorem dL_law_544 : decode cL_law 544 = .ok (.iconst 4, 1) := by decide +kernel
theorem dL_law_545 : decode cL_law 545 = .ok (.iadd, 1) := by decide +kernel
theorem dL_law_546 : decode cL_law 546 = .ok (.iaload, 1) := by decide +kernel
theorem dL_law_547 : decode cL_law 547 = .ok (.invokevirtual 59, 3) := by decide +kernel
theorem dL_law_550 : decode cL_law 550 = .ok (.aload_n 2, 1) := by decide +kernel
theorem dL_law_551 : decode cL_law 551 = .ok (.aload_n 0, 1) := by decide +kernel
theorem dL_law_552 : decode cL_law 552 = .ok (.iload_n 3, 1) := by decide +kernel
theorem dL_law_553 : decode cL_law 553 = .ok (.iconst 1, 1) := by decide +kernel
theorem dL_law_554 : decode cL_law 554 = .ok (.iadd, 1) := by decide +kernel
theorem dL_law_555 : decode cL_law 555 = .ok (.iaload, 1) := by decide +kernel
theorem dL_law_556 : decode cL_law 556 = .ok (.aload_n 0, 1) := by decide +kernel
theorem dL_law_557 : decode cL_law 557 = .ok (.iload_n 3, 1) := by decide +kernel
theorem dL_law_558 : decode cL_law 558 = .ok (.iconst 2, 1) := by decide +kernel
theorem dL_law_559 : decode cL_law 559 = .ok (.iadd, 1) := by decide +kernel
theorem dL_law_560 : decode cL_law 560 = .ok (.iaload, 1) := by decide +kernel
theorem dL_law_561 : decode cL_law 561 = .ok (.aload_n 0, 1) := by decide +kernel
theorem dL_law_562 : decode cL_law 562 = .ok (.iload_n 3, 1) := by decide +kernel
theorem dL_law_563 : decode cL_law 563 = .ok (.iconst 3, 1) := by decide +kernel
theorem dL_law_564 : decode cL_law 564 = .ok (.iadd, 1) := by decide +kernel
theorem dL_law_565 : decode cL_law 565 = .ok (.iaload, 1) := by decide +kernel
theorem dL_law_566 : decode cL_law 566 = .ok (.aload_n 0, 1) := by decide +kernel
theorem dL_law_567 : decode cL_law 567 = .ok (.iload_n 3, 1) := by decide +kernel
theorem dL_law_568 : decode cL_law 568 = .ok (.iconst 4, 1) := by decide +kernel
theorem dL_law_569 : decode cL_law 569 = .ok (.iadd, 1) := by decide +kernel
theorem dL_law_570 : decode cL_law 570 = .ok (.iaload, 1) := by decide +kernel
theorem dL_law_571 : decode cL_law 571 = .ok (.invokevirtual 62, 3) := by decide +kernel
theorem dL_law_574 : decode cL_law 574 = .ok (.if_icmp .eq 434, 3) := by decide +kernel
theorem dL_law_577 : decode cL_law 577 = .ok (.iconst 0, 1) := by decide +kernel
theorem dL_law_578 : decode cL_law 578 = .ok (.ireturn, 1) := by decide +kernel
theorem dL_law_579 : decode cL_law 579 = .ok (.aload_n 1, 1) := by decide +kernel
theorem dL_law_580 : decode cL_law 580 = .ok (.aload_n 0, 1) := by decide +kernel
theorem dL_law_581 : decode cL_law 581 = .ok (.iload_n 3, 1) := by decide +kernel
theorem dL_law_582 : decode cL_law 582 = .ok (.iconst 1, 1) := by decide +kernel
theorem dL_law_583 : decode cL_law 583 = .ok (.iadd, 1) := by decide +kernel
theorem dL_law_584 : decode cL_law 584 = .ok (.iaload, 1) := by decide +kernel
theorem dL_law_585 : decode cL_law 585 = .ok (.aload_n 0, 1) := by decide +kernel
theorem dL_law_586 : decode cL_law 586 = .ok (.iload_n 3, 1) := by decide +kernel
theorem dL_law_587 : decode cL_law 587 = .ok (.iconst 2, 1) := by decide +kernel
theorem dL_law_588 : decode cL_law 588 = .ok (.iadd, 1) := by decide +kernel
theorem dL_law_589 : decode cL_law 589 = .ok (.iaload, 1) := by decide +kernel
theorem dL_law_590 : decode cL_law 590 = .ok (.invokevirtual 63, 3) := by decide +kernel
theorem dL_law_593 : decode cL_law 593 = .ok (.aload_n 2, 1) := by decide +kernel
theorem dL_law_594 : decode cL_law 594 = .ok (.aload_n 0, 1) := by decide +kernel
theorem dL_law_595 : decode cL_law 595 = .ok (.iload_n 3, 1) := by decide +kernel
theorem dL_law_596 : decode cL_law 596 = .ok (.iconst 1, 1) := by decide +kernel
theorem dL_law_597 : decode cL_law 597 = .ok (.iadd, 1) := by decide +kernel
theorem dL_law_598 : decode cL_law 598 = .ok (.iaload, 1) := by decide +kernel
theorem dL_law_599 : decode cL_law 599 = .ok (.aload_n 0, 1) := by decide +kernel
theorem dL_law_600 : decode cL_law 600 = .ok (.iload_n 3, 1) := by decide +kernel
theorem dL_law_601 : decode cL_law 601 = .ok (.iconst 2, 1) := by decide +kernel
theorem dL_law_602 : decode cL_law 602 = .ok (.iadd, 1) := by decide +kernel
theorem dL_law_603 : decode cL_law 603 = .ok (.iaload, 1) := by decide +kernel
theorem dL_law_604 : decode cL_law 604 = .ok (.invokevirtual 66, 3) := by decide +kernel
theorem dL_law_607 : decode cL_law 607 = .ok (.if_icmp .eq 401, 3) := by decide +kernel
theorem dL_law_610 : decode cL_law 610 = .ok (.iconst 0, 1) := by decide +kernel
theorem dL_law_611 : decode cL_law 611 = .ok (.ireturn, 1) := by decide +kernel
theorem dL_law_612 : decode cL_law 612 = .ok (.aload_n 1, 1) := by decide +kernel
theorem dL_law_613 : decode cL_law 613 = .ok (.aload_n 0, 1) := by decide +kernel
theorem dL_law_614 : decode cL_law 614 = .ok (.iload_n 3, 1) := by decide +kernel
theorem dL_law_615 : decode cL_law 615 = .ok (.iconst 1, 1) := by decide +kernel
theorem dL_law_616 : decode cL_law 616 = .ok (.iadd, 1) := by decide +kernel
theorem dL_law_617 : decode cL_law 617 = .ok (.iaload, 1) := by decide +kernel
theorem dL_law_618 : decode cL_law 618 = .ok (.aload_n 0, 1) := by decide +kernel
theorem dL_law_619 : decode cL_law 619 = .ok (.iload_n 3, 1) := by decide +kernel
theorem dL_law_620 : decode cL_law 620 = .ok (.iconst 2, 1) := by decide +kernel
theorem dL_law_621 : decode cL_law 621 = .ok (.iadd, 1) := by decide +kernel
theorem dL_law_622 : decode cL_law 622 = .ok (.iaload, 1) := by decide +kernel
theorem dL_law_623 : decode cL_law 623 = .ok (.aload_n 0, 1) := by decide +kernel
theorem dL_law_624 : decode cL_law 624 = .ok (.iload_n 3, 1) := by decide +kernel
theorem dL_law_625 : decode cL_law 625 = .ok (.iconst 3, 1) := by decide +kernel
theorem dL_law_626 : decode cL_law 626 = .ok (.iadd, 1) := by decide +kernel
theorem dL_law_627 : decode cL_law 627 = .ok (.iaload, 1) := by decide +kernel
theorem dL_law_628 : decode cL_law 628 = .ok (.aload_n 0, 1) := by decide +kernel
theorem dL_law_629 : decode cL_law 629 = .ok (.iload_n 3, 1) := by decide +kernel
theorem dL_law_630 : decode cL_law 630 = .ok (.iconst 4, 1) := by decide +kernel
theorem dL_law_631 : decode cL_law 631 = .ok (.iadd, 1) := by decide +kernel
theorem dL_law_632 : decode cL_law 632 = .ok (.iaload, 1) := by decide +kernel
theorem dL_law_633 : decode cL_law 633 = .ok (.invokevirtual 67, 3) := by decide +kernel
theorem dL_law_636 : decode cL_law 636 = .ok (.aload_n 2, 1) := by decide +kernel
theorem dL_law_637 : decode cL_law 637 = .ok (.aload_n 0, 1) := by decide +kernel
theorem dL_law_638 : decode cL_law 638 = .ok (.iload_n 3, 1) := by decide +kernel
theorem dL_law_639 : decode cL_law 639 = .ok (.iconst 1, 1) := by decide +kernel
theorem dL_law_640 : decode cL_law 640 = .ok (.iadd, 1) := by decide +kernel
theorem dL_law_641 : decode cL_law 641 = .ok (.iaload, 1) := by decide +kernel
theorem dL_law_642 : decode cL_law 642 = .ok (.aload_n 0, 1) := by decide +kernel
theorem dL_law_643 : decode cL_law 643 = .ok (.iload_n 3, 1) := by decide +kernel
theorem dL_law_644 : decode cL_law 644 = .ok (.iconst 2, 1) := by decide +kernel
theorem dL_law_645 : decode cL_law 645 = .ok (.iadd, 1) := by decide +kernel
theorem dL_law_646 : decode cL_law 646 = .ok (.iaload, 1) := by decide +kernel
theorem dL_law_647 : decode cL_law 647 = .ok (.aload_n 0, 1) := by decide +kernel
theorem dL_law_648 : decode cL_law 648 = .ok (.iload_n 3, 1) := by decide +kernel
theorem dL_law_649 : decode cL_law 649 = .ok (.iconst 3, 1) := by decide +kernel
theorem dL_law_650 : decode cL_law 650 = .ok (.iadd, 1) := by decide +kernel
theorem dL_law_651 : decode cL_law 651 = .ok (.iaload, 1) := by decide +kernel
theorem dL_law_652 : decode cL_law 652 = .ok (.aload_n 0, 1) := by decide +kernel
theorem dL_law_653 : decode cL_law 653 = .ok (.iload_n 3, 1) := by decide +kernel
theorem dL_law_654 : decode cL_law 654 = .ok (.iconst 4, 1) := by decide +kernel
theorem dL_law_655 : decode cL_law 655 = .ok (.iadd, 1) := by decide +kernel
theorem dL_law_656 : decode cL_law 656 = .ok (.iaload, 1) := by decide +kernel
theorem dL_law_657 : decode cL_law 657 = .ok (.invokevirtual 70, 3) := by decide +kernel
theorem dL_law_660 : decode cL_law 660 = .ok (.if_icmp .eq 348, 3) := by decide +kernel
theorem dL_law_663 : decode cL_law 663 = .ok (.iconst 0, 1) := by decide +kernel
theorem dL_law_664 : decode cL_law 664 = .ok (.ireturn, 1) := by decide +kernel
theorem dL_law_665 : decode cL_law 665 = .ok (.aload_n 1, 1) := by decide +kernel
theorem dL_law_666 : decode cL_law 666 = .ok (.aload_n 0, 1) := by decide +kernel
theorem dL_law_667 : decode cL_law 667 = .ok (.iload_n 3, 1) := by decide +kernel
theorem dL_law_668 : decode cL_law 668 = .ok (.iconst 1, 1) := by decide +kernel
theorem dL_law_669 : decode cL_law 669 = .ok (.iadd, 1) := by decide +kernel
theorem dL_law_670 : decode cL_law 670 = .ok (.iaload, 1) := by decide +kernel
theorem dL_law_671 : decode cL_law 671 = .ok (.aload_n 0, 1) := by decide +kernel
theorem dL_law_672 : decode cL_law 672 = .ok (.iload_n 3, 1) := by decide +kernel
theorem dL_law_673 : decode cL_law 673 = .ok (.iconst 2, 1) := by decide +kernel
theorem dL_law_674 : decode cL_law 674 = .ok (.iadd, 1) := by decide +kernel
theorem dL_law_675 : decode cL_law 675 = .ok (.iaload, 1) := by decide +kernel
theorem dL_law_676 : decode cL_law 676 = .ok (.aload_n 0, 1) := by decide +kernel
theorem dL_law_677 : decode cL_law 677 = .ok (.iload_n 3, 1) := by decide +kernel
theorem dL_law_678 : decode cL_law 678 = .ok (.iconst 3, 1) := by decide +kernel
theorem dL_law_679 : decode cL_law 679 = .ok (.iadd, 1) := by decide +kernel
theorem dL_law_680 : decode cL_law 680 = .ok (.iaload, 1) := by decide +kernel
theorem dL_law_681 : decode cL_law 681 = .ok (.aload_n 0, 1) := by decide +kernel
theorem dL_law_682 : decode cL_law 682 = .ok (.iload_n 3, 1) := by decide +kernel
theorem dL_law_683 : decode cL_law 683 = .ok (.iconst 4, 1) := by decide +kernel
theorem dL_law_684 : decode cL_law 684 = .ok (.iadd, 1) := by decide +kernel
theorem dL_law_685 : decode cL_law 685 = .ok (.iaload, 1) := by decide +kernel
theorem dL_law_686 : decode cL_law 686 = .ok (.invokevirtual 71, 3) := by decide +kernel
theorem dL_law_689 : decode cL_law 689 = .ok (.aload_n 2, 1) := by decide +kernel
theorem dL_law_690 : decode cL_law 690 = .ok (.aload_n 0, 1) := by decide +kernel
theorem dL_law_691 : decode cL_law 691 = .ok (.iload_n 3, 1) := by decide +kernel
theorem dL_law_692 : decode cL_law 692 = .ok (.iconst 1, 1) := by decide +kernel
theorem dL_law_693 : decode cL_law 693 = .ok (.iadd, 1) := by decide +kernel
theorem dL_law_694 : decode cL_law 694 = .ok (.iaload, 1) := by decide +kernel
theorem dL_law_695 : decode cL_law 695 = .ok (.aload_n 0, 1) := by decide +kernel
theorem dL_law_696 : decode cL_law 696 = .ok (.iload_n 3, 1) := by decide +kernel
theorem dL_law_697 : decode cL_law 697 = .ok (.iconst 2, 1) := by decide +kernel
theorem dL_law_698 : decode cL_law 698 = .ok (.iadd, 1) := by decide +kernel
theorem dL_law_699 : decode cL_law 699 = .ok (.iaload, 1) := by decide +kernel
theorem dL_law_700 : decode cL_law 700 = .ok (.aload_n 0, 1) := by decide +kernel
theorem dL_law_701 : decode cL_law 701 = .ok (.iload_n 3, 1) := by decide +kernel
theorem dL_law_702 : decode cL_law 702 = .ok (.iconst 3, 1) := by decide +kernel
theorem dL_law_703 : decode cL_law 703 = .ok (.iadd, 1) := by decide +kernel
theorem dL_law_704 : decode cL_law 704 = .ok (.iaload, 1) := by decide +kernel
theorem dL_law_705 : decode cL_law 705 = .ok (.aload_n 0, 1) := by decide +kernel
theorem dL_law_706 : decode cL_law 706 = .ok (.iload_n 3, 1) := by decide +kernel
theorem dL_law_707 : decode cL_law 707 = .ok (.iconst 4, 1) := by decide +kernel
theorem dL_law_708 : decode cL_law 708 = .ok (.iadd, 1) := by decide +kernel
theorem dL_law_709 : decode cL_law 709 = .ok (.iaload, 1) := by decide +kernel
theorem dL_law_710 : decode cL_law 710 = .ok (.invokevirtual 74, 3) := by decide +kernel
theorem dL_law_713 : decode cL_law 713 = .ok (.if_icmp .eq 295, 3) := by decide +kernel
theorem dL_law_716 : decode cL_law 716 = .ok (.iconst 0, 1) := by decide +kernel
theorem dL_law_717 : decode cL_law 717 = .ok (.ireturn, 1) := by decide +kernel
theorem dL_law_718 : decode cL_law 718 = .ok (.aload_n 1, 1) := by decide +kernel
theorem dL_law_719 : decode cL_law 719 = .ok (.aload_n 0, 1) := by decide +kernel
theorem dL_law_720 : decode cL_law 720 = .ok (.iload_n 3, 1) := by decide +kernel
theorem dL_law_721 : decode cL_law 721 = .ok (.iconst 1, 1) := by decide +kernel
theorem dL_law_722 : decode cL_law 722 = .ok (.iadd, 1) := by decide +kernel
theorem dL_law_723 : decode cL_law 723 = .ok (.iaload, 1) := by decide +kernel
theorem dL_law_724 : decode cL_law 724 = .ok (.invokevirtual 75, 3) := by decide +kernel
theorem dL_law_727 : decode cL_law 727 = .ok (.aload_n 2, 1) := by decide +kernel
theorem dL_law_728 : decode cL_law 728 = .ok (.aload_n 0, 1) := by decide +kernel
theorem dL_law_729 : decode cL_law 729 = .ok (.iload_n 3, 1) := by decide +kernel
theorem dL_law_730 : decode cL_law 730 = .ok (.iconst 1, 1) := by decide +kernel
theorem dL_law_731 : decode cL_law 731 = .ok (.iadd, 1) := by decide +kernel
theorem dL_law_732 : decode cL_law 732 = .ok (.iaload, 1) := by decide +kernel
theorem dL_law_733 : decode cL_law 733 = .ok (.invokevirtual 78, 3) := by decide +kernel
theorem dL_law_736 : decode cL_law 736 = .ok (.if_icmp .eq 272, 3) := by decide +kernel
theorem dL_law_739 : decode cL_law 739 = .ok (.iconst 0, 1) := by decide +kernel
theorem dL_law_740 : decode cL_law 740 = .ok (.ireturn, 1) := by decide +kernel
theorem dL_law_741 : decode cL_law 741 = .ok (.aload_n 1, 1) := by decide +kernel
theorem dL_law_742 : decode cL_law 742 = .ok (.aload_n 0, 1) := by decide +kernel
theorem dL_law_743 : decode cL_law 743 = .ok (.iload_n 3, 1) := by decide +kernel
theorem dL_law_744 : decode cL_law 744 = .ok (.iconst 1, 1) := by decide +kernel
theorem dL_law_745 : decode cL_law 745 = .ok (.iadd, 1) := by decide +kernel
theorem dL_law_746 : decode cL_law 746 = .ok (.iaload, 1) := by decide +kernel
theorem dL_law_747 : decode cL_law 747 = .ok (.aload_n 0, 1) := by decide +kernel
theorem dL_law_748 : decode cL_law 748 = .ok (.iload_n 3, 1) := by decide +kernel
theorem dL_law_749 : decode cL_law 749 = .ok (.iconst 2, 1) := by decide +kernel
theorem dL_law_750 : decode cL_law 750 = .ok (.iadd, 1) := by decide +kernel
theorem dL_law_751 : decode cL_law 751 = .ok (.iaload, 1) := by decide +kernel
theorem dL_law_752 : decode cL_law 752 = .ok (.invokevirtual 79, 3) := by decide +kernel
theorem dL_law_755 : decode cL_law 755 = .ok (.aload_n 2, 1) := by decide +kernel
theorem dL_law_756 : decode cL_law 756 = .ok (.aload_n 0, 1) := by decide +kernel
theorem dL_law_757 : decode cL_law 757 = .ok (.iload_n 3, 1) := by decide +kernel
theorem dL_law_758 : decode cL_law 758 = .ok (.iconst 1, 1) := by decide +kernel
theorem dL_law_759 : decode cL_law 759 = .ok (.iadd, 1) := by decide +kernel
theorem dL_law_760 : decode cL_law 760 = .ok (.iaload, 1) := by decide +kernel
theorem dL_law_761 : decode cL_law 761 = .ok (.aload_n 0, 1) := by decide +kernel
theorem dL_law_762 : decode cL_law 762 = .ok (.iload_n 3, 1) := by decide +kernel
theorem dL_law_763 : decode cL_law 763 = .ok (.iconst 2, 1) := by decide +kernel
theorem dL_law_764 : decode cL_law 764 = .ok (.iadd, 1) := by decide +kernel
theorem dL_law_765 : decode cL_law 765 = .ok (.iaload, 1) := by decide +kernel
theorem dL_law_766 : decode cL_law 766 = .ok (.invokevirtual 82, 3) := by decide +kernel
theorem dL_law_769 : decode cL_law 769 = .ok (.if_icmp .eq 239, 3) := by decide +kernel
theorem dL_law_772 : decode cL_law 772 = .ok (.iconst 0, 1) := by decide +kernel
theorem dL_law_773 : decode cL_law 773 = .ok (.ireturn, 1) := by decide +kernel
theorem dL_law_774 : decode cL_law 774 = .ok (.aload_n 1, 1) := by decide +kernel
theorem dL_law_775 : decode cL_law 775 = .ok (.aload_n 0, 1) := by decide +kernel
theorem dL_law_776 : decode cL_law 776 = .ok (.iload_n 3, 1) := by decide +kernel
theorem dL_law_777 : decode cL_law 777 = .ok (.iconst 1, 1) := by decide +kernel
theorem dL_law_778 : decode cL_law 778 = .ok (.iadd, 1) := by decide +kernel
theorem dL_law_779 : decode cL_law 779 = .ok (.iaload, 1) := by decide +kernel
theorem dL_law_780 : decode cL_law 780 = .ok (.invokevirtual 83, 3) := by decide +kernel
theorem dL_law_783 : decode cL_law 783 = .ok (.aload_n 2, 1) := by decide +kernel
theorem dL_law_784 : decode cL_law 784 = .ok (.aload_n 0, 1) := by decide +kernel
theorem dL_law_785 : decode cL_law 785 = .ok (.iload_n 3, 1) := by decide +kernel
theorem dL_law_786 : decode cL_law 786 = .ok (.iconst 1, 1) := by decide +kernel
theorem dL_law_787 : decode cL_law 787 = .ok (.iadd, 1) := by decide +kernel
theorem dL_law_788 : decode cL_law 788 = .ok (.iaload, 1) := by decide +kernel
theorem dL_law_789 : decode cL_law 789 = .ok (.invokevirtual 86, 3) := by decide +kernel
theorem dL_law_792 : decode cL_law 792 = .ok (.if_icmp .eq 216, 3) := by decide +kernel
theorem dL_law_795 : decode cL_law 795 = .ok (.iconst 0, 1) := by decide +kernel
theorem dL_law_796 : decode cL_law 796 = .ok (.ireturn, 1) := by decide +kernel
theorem dL_law_797 : decode cL_law 797 = .ok (.aload_n 1, 1) := by decide +kernel
theorem dL_law_798 : decode cL_law 798 = .ok (.aload_n 0, 1) := by decide +kernel
theorem dL_law_799 : decode cL_law 799 = .ok (.iload_n 3, 1) := by decide +kernel
theorem dL_law_800 : decode cL_law 800 = .ok (.iconst 1, 1) := by decide +kernel
theorem dL_law_801 : decode cL_law 801 = .ok (.iadd, 1) := by decide +kernel
theorem dL_law_802 : decode cL_law 802 = .ok (.iaload, 1) := by decide +kernel
theorem dL_law_803 : decode cL_law 803 = .ok (.aload_n 0, 1) := by decide +kernel
theorem dL_law_804 : decode cL_law 804 = .ok (.iload_n 3, 1) := by decide +kernel
theorem dL_law_805 : decode cL_law 805 = .ok (.iconst 2, 1) := by decide +kernel
theorem dL_law_806 : decode cL_law 806 = .ok (.iadd, 1) := by decide +kernel
theorem dL_law_807 : decode cL_law 807 = .ok (.iaload, 1) := by decide +kernel
theorem dL_law_808 : decode cL_law 808 = .ok (.invokevirtual 87, 3) := by decide +kernel
theorem dL_law_811 : decode cL_law 811 = .ok (.aload_n 2, 1) := by decide +kernel
theorem dL_law_812 : decode cL_law 812 = .ok (.aload_n 0, 1) := by decide +kernel
theorem dL_law_813 : decode cL_law 813 = .ok (.iload_n 3, 1) := by decide +kernel
theorem dL_law_814 : decode cL_law 814 = .ok (.iconst 1, 1) := by decide +kernel
theorem dL_law_815 : decode cL_law 815 = .ok (.iadd, 1) := by decide +kernel
theorem dL_law_816 : decode cL_law 816 = .ok (.iaload, 1) := by decide +kernel
theorem dL_law_817 : decode cL_law 817 = .ok (.aload_n 0, 1) := by decide +kernel
theorem dL_law_818 : decode cL_law 818 = .ok (.iload_n 3, 1) := by decide +kernel
theorem dL_law_819 : decode cL_law 819 = .ok (.iconst 2, 1) := by decide +kernel
theorem dL_law_820 : decode cL_law 820 = .ok (.iadd, 1) := by decide +kernel
theorem dL_law_821 : decode cL_law 821 = .ok (.iaload, 1) := by decide +kernel
theorem dL_law_822 : decode cL_law 822 = .ok (.invokevirtual 90, 3) := by decide +kernel
theorem dL_law_825 : decode cL_law 825 = .ok (.if_icmp .eq 183, 3) := by decide +kernel
theorem dL_law_828 : decode cL_law 828 = .ok (.iconst 0, 1) := by decide +kernel
theorem dL_law_829 : decode cL_law 829 = .ok (.ireturn, 1) := by decide +kernel
theorem dL_law_830 : decode cL_law 830 = .ok (.aload_n 1, 1) := by decide +kernel
theorem dL_law_831 : decode cL_law 831 = .ok (.aload_n 0, 1) := by decide +kernel
theorem dL_law_832 : decode cL_law 832 = .ok (.iload_n 3, 1) := by decide +kernel
theorem dL_law_833 : decode cL_law 833 = .ok (.iconst 1, 1) := by decide +kernel
theorem dL_law_834 : decode cL_law 834 = .ok (.iadd, 1) := by decide +kernel
theorem dL_law_835 : decode cL_law 835 = .ok (.iaload, 1) := by decide +kernel
theorem dL_law_836 : decode cL_law 836 = .ok (.aload_n 0, 1) := by decide +kernel
theorem dL_law_837 : decode cL_law 837 = .ok (.iload_n 3, 1) := by decide +kernel
theorem dL_law_838 : decode cL_law 838 = .ok (.iconst 2, 1) := by decide +kernel
theorem dL_law_839 : decode cL_law 839 = .ok (.iadd, 1) := by decide +kernel
theorem dL_law_840 : decode cL_law 840 = .ok (.iaload, 1) := by decide +kernel
theorem dL_law_841 : decode cL_law 841 = .ok (.aload_n 0, 1) := by decide +kernel
theorem dL_law_842 : decode cL_law 842 = .ok (.iload_n 3, 1) := by decide +kernel
theorem dL_law_843 : decode cL_law 843 = .ok (.iconst 3, 1) := by decide +kernel
theorem dL_law_844 : decode cL_law 844 = .ok (.iadd, 1) := by decide +kernel
theorem dL_law_845 : decode cL_law 845 = .ok (.iaload, 1) := by decide +kernel
theorem dL_law_846 : decode cL_law 846 = .ok (.aload_n 0, 1) := by decide +kernel
theorem dL_law_847 : decode cL_law 847 = .ok (.iload_n 3, 1) := by decide +kernel
theorem dL_law_848 : decode cL_law 848 = .ok (.iconst 4, 1) := by decide +kernel
theorem dL_law_849 : decode cL_law 849 = .ok (.iadd, 1) := by decide +kernel
theorem dL_law_850 : decode cL_law 850 = .ok (.iaload, 1) := by decide +kernel
theorem dL_law_851 : decode cL_law 851 = .ok (.invokevirtual 91, 3) := by decide +kernel
theorem dL_law_854 : decode cL_law 854 = .ok (.aload_n 2, 1) := by decide +kernel
theorem dL_law_855 : decode cL_law 855 = .ok (.aload_n 0, 1) := by decide +kernel
theorem dL_law_856 : decode cL_law 856 = .ok (.iload_n 3, 1) := by decide +kernel
theorem dL_law_857 : decode cL_law 857 = .ok (.iconst 1, 1) := by decide +kernel
theorem dL_law_858 : decode cL_law 858 = .ok (.iadd, 1) := by decide +kernel
theorem dL_law_859 : decode cL_law 859 = .ok (.iaload, 1) := by decide +kernel
theorem dL_law_860 : decode cL_law 860 = .ok (.aload_n 0, 1) := by decide +kernel
theorem dL_law_861 : decode cL_law 861 = .ok (.iload_n 3, 1) := by decide +kernel
theorem dL_law_862 : decode cL_law 862 = .ok (.iconst 2, 1) := by decide +kernel
theorem dL_law_863 : decode cL_law 863 = .ok (.iadd, 1) := by decide +kernel
theorem dL_law_864 : decode cL_law 864 = .ok (.iaload, 1) := by decide +kernel
theorem dL_law_865 : decode cL_law 865 = .ok (.aload_n 0, 1) := by decide +kernel
theorem dL_law_866 : decode cL_law 866 = .ok (.iload_n 3, 1) := by decide +kernel
theorem dL_law_867 : decode cL_law 867 = .ok (.iconst 3, 1) := by decide +kernel
theorem dL_law_868 : decode cL_law 868 = .ok (.iadd, 1) := by decide +kernel
theorem dL_law_869 : decode cL_law 869 = .ok (.iaload, 1) := by decide +kernel
theorem dL_law_870 : decode cL_law 870 = .ok (.aload_n 0, 1) := by decide +kernel
theorem dL_law_871 : decode cL_law 871 = .ok (.iload_n 3, 1) := by decide +kernel
theorem dL_law_872 : decode cL_law 872 = .ok (.iconst 4, 1) := by decide +kernel
theorem dL_law_873 : decode cL_law 873 = .ok (.iadd, 1) := by decide +kernel
theorem dL_law_874 : decode cL_law 874 = .ok (.iaload, 1) := by decide +kernel
theorem dL_law_875 : decode cL_law 875 = .ok (.invokevirtual 94, 3) := by decide +kernel
theorem dL_law_878 : decode cL_law 878 = .ok (.if_icmp .eq 130, 3) := by decide +kernel
theorem dL_law_881 : decode cL_law 881 = .ok (.iconst 0, 1) := by decide +kernel
theorem dL_law_882 : decode cL_law 882 = .ok (.ireturn, 1) := by decide +kernel
theorem dL_law_883 : decode cL_law 883 = .ok (.aload_n 1, 1) := by decide +kernel
theorem dL_law_884 : decode cL_law 884 = .ok (.aload_n 0, 1) := by decide +kernel
theorem dL_law_885 : decode cL_law 885 = .ok (.iload_n 3, 1) := by decide +kernel
theorem dL_law_886 : decode cL_law 886 = .ok (.iconst 1, 1) := by decide +kernel
theorem dL_law_887 : decode cL_law 887 = .ok (.iadd, 1) := by decide +kernel
theorem dL_law_888 : decode cL_law 888 = .ok (.iaload, 1) := by decide +kernel
theorem dL_law_889 : decode cL_law 889 = .ok (.aload_n 0, 1) := by decide +kernel
theorem dL_law_890 : decode cL_law 890 = .ok (.iload_n 3, 1) := by decide +kernel
theorem dL_law_891 : decode cL_law 891 = .ok (.iconst 2, 1) := by decide +kernel
theorem dL_law_892 : decode cL_law 892 = .ok (.iadd, 1) := by decide +kernel
theorem dL_law_893 : decode cL_law 893 = .ok (.iaload, 1) := by decide +kernel
theorem dL_law_894 : decode cL_law 894 = .ok (.aload_n 0, 1) := by decide +kernel
theorem dL_law_895 : decode cL_law 895 = .ok (.iload_n 3, 1) := by decide +kernel
theorem dL_law_896 : decode cL_law 896 = .ok (.iconst 3, 1) := by decide +kernel
theorem dL_law_897 : decode cL_law 897 = .ok (.iadd, 1) := by decide +kernel
theorem dL_law_898 : decode cL_law 898 = .ok (.iaload, 1) := by decide +kernel
theorem dL_law_899 : decode cL_law 899 = .ok (.aload_n 0, 1) := by decide +kernel
theorem dL_law_900 : decode cL_law 900 = .ok (.iload_n 3, 1) := by decide +kernel
theorem dL_law_901 : decode cL_law 901 = .ok (.iconst 4, 1) := by decide +kernel
theorem dL_law_902 : decode cL_law 902 = .ok (.iadd, 1) := by decide +kernel
theorem dL_law_903 : decode cL_law 903 = .ok (.iaload, 1) := by decide +kernel
theorem dL_law_904 : decode cL_law 904 = .ok (.invokevirtual 95, 3) := by decide +kernel
theorem dL_law_907 : decode cL_law 907 = .ok (.aload_n 2, 1) := by decide +kernel
theorem dL_law_908 : decode cL_law 908 = .ok (.aload_n 0, 1) := by decide +kernel
theorem dL_law_909 : decode cL_law 909 = .ok (.iload_n 3, 1) := by decide +kernel
theorem dL_law_910 : decode cL_law 910 = .ok (.iconst 1, 1) := by decide +kernel
theorem dL_law_911 : decode cL_law 911 = .ok (.iadd, 1) := by decide +kernel
theorem dL_law_912 : decode cL_law 912 = .ok (.iaload, 1) := by decide +kernel
theorem dL_law_913 : decode cL_law 913 = .ok (.aload_n 0, 1) := by decide +kernel
theorem dL_law_914 : decode cL_law 914 = .ok (.iload_n 3, 1) := by decide +kernel
theorem dL_law_915 : decode cL_law 915 = .ok (.iconst 2, 1) := by decide +kernel
theorem dL_law_916 : decode cL_law 916 = .ok (.iadd, 1) := by decide +kernel
theorem dL_law_917 : decode cL_law 917 = .ok (.iaload, 1) := by decide +kernel
theorem dL_law_918 : decode cL_law 918 = .ok (.aload_n 0, 1) := by decide +kernel
theorem dL_law_919 : decode cL_law 919 = .ok (.iload_n 3, 1) := by decide +kernel
theorem dL_law_920 : decode cL_law 920 = .ok (.iconst 3, 1) := by decide +kernel
theorem dL_law_921 : decode cL_law 921 = .ok (.iadd, 1) := by decide +kernel
theorem dL_law_922 : decode cL_law 922 = .ok (.iaload, 1) := by decide +kernel
theorem dL_law_923 : decode cL_law 923 = .ok (.aload_n 0, 1) := by decide +kernel
theorem dL_law_924 : decode cL_law 924 = .ok (.iload_n 3, 1) := by decide +kernel
theorem dL_law_925 : decode cL_law 925 = .ok (.iconst 4, 1) := by decide +kernel
theorem dL_law_926 : decode cL_law 926 = .ok (.iadd, 1) := by decide +kernel
theorem dL_law_927 : decode cL_law 927 = .ok (.iaload, 1) := by decide +kernel
theorem dL_law_928 : decode cL_law 928 = .ok (.invokevirtual 98, 3) := by decide +kernel
theorem dL_law_931 : decode cL_law 931 = .ok (.if_icmp .eq 77, 3) := by decide +kernel
theorem dL_law_934 : decode cL_law 934 = .ok (.iconst 0, 1) := by decide +kernel
theorem dL_law_935 : decode cL_law 935 = .ok (.ireturn, 1) := by decide +kernel
theorem dL_law_936 : decode cL_law 936 = .ok (.aload_n 1, 1) := by decide +kernel
theorem dL_law_937 : decode cL_law 937 = .ok (.aload_n 0, 1) := by decide +kernel
theorem dL_law_938 : decode cL_law 938 = .ok (.iload_n 3, 1) := by decide +kernel
theorem dL_law_939 : decode cL_law 939 = .ok (.iconst 1, 1) := by decide +kernel
theorem dL_law_940 : decode cL_law 940 = .ok (.iadd, 1) := by decide +kernel
theorem dL_law_941 : decode cL_law 941 = .ok (.iaload, 1) := by decide +kernel
theorem dL_law_942 : decode cL_law 942 = .ok (.invokevirtual 99, 3) := by decide +kernel
theorem dL_law_945 : decode cL_law 945 = .ok (.aload_n 2, 1) := by decide +kernel
theorem dL_law_946 : decode cL_law 946 = .ok (.aload_n 0, 1) := by decide +kernel
theorem dL_law_947 : decode cL_law 947 = .ok (.iload_n 3, 1) := by decide +kernel
theorem dL_law_948 : decode cL_law 948 = .ok (.iconst 1, 1) := by decide +kernel
theorem dL_law_949 : decode cL_law 949 = .ok (.iadd, 1) := by decide +kernel
theorem dL_law_950 : decode cL_law 950 = .ok (.iaload, 1) := by decide +kernel
theorem dL_law_951 : decode cL_law 951 = .ok (.invokevirtual 102, 3) := by decide +kernel
theorem dL_law_954 : decode cL_law 954 = .ok (.if_icmp .eq 54, 3) := by decide +kernel
theorem dL_law_957 : decode cL_law 957 = .ok (.iconst 0, 1) := by decide +kernel
theorem dL_law_958 : decode cL_law 958 = .ok (.ireturn, 1) := by decide +kernel
theorem dL_law_959 : decode cL_law 959 = .ok (.aload_n 1, 1) := by decide +kernel
theorem dL_law_960 : decode cL_law 960 = .ok (.invokevirtual 103, 3) := by decide +kernel
theorem dL_law_963 : decode cL_law 963 = .ok (.aload_n 2, 1) := by decide +kernel
theorem dL_law_964 : decode cL_law 964 = .ok (.invokevirtual 106, 3) := by decide +kernel
theorem dL_law_967 : decode cL_law 967 = .ok (.if_icmp .eq 41, 3) := by decide +kernel
theorem dL_law_970 : decode cL_law 970 = .ok (.iconst 0, 1) := by decide +kernel
theorem dL_law_971 : decode cL_law 971 = .ok (.ireturn, 1) := by decide +kernel
theorem dL_law_972 : decode cL_law 972 = .ok (.aload_n 1, 1) := by decide +kernel
theorem dL_law_973 : decode cL_law 973 = .ok (.aload_n 0, 1) := by decide +kernel
theorem dL_law_974 : decode cL_law 974 = .ok (.iload_n 3, 1) := by decide +kernel
theorem dL_law_975 : decode cL_law 975 = .ok (.iconst 1, 1) := by decide +kernel
theorem dL_law_976 : decode cL_law 976 = .ok (.iadd, 1) := by decide +kernel
theorem dL_law_977 : decode cL_law 977 = .ok (.iaload, 1) := by decide +kernel
theorem dL_law_978 : decode cL_law 978 = .ok (.invokevirtual 107, 3) := by decide +kernel
theorem dL_law_981 : decode cL_law 981 = .ok (.aload_n 2, 1) := by decide +kernel
theorem dL_law_982 : decode cL_law 982 = .ok (.aload_n 0, 1) := by decide +kernel
theorem dL_law_983 : decode cL_law 983 = .ok (.iload_n 3, 1) := by decide +kernel
theorem dL_law_984 : decode cL_law 984 = .ok (.iconst 1, 1) := by decide +kernel
theorem dL_law_985 : decode cL_law 985 = .ok (.iadd, 1) := by decide +kernel
theorem dL_law_986 : decode cL_law 986 = .ok (.iaload, 1) := by decide +kernel
theorem dL_law_987 : decode cL_law 987 = .ok (.invokevirtual 110, 3) := by decide +kernel
theorem dL_law_990 : decode cL_law 990 = .ok (.if_icmp .eq 18, 3) := by decide +kernel
theorem dL_law_993 : decode cL_law 993 = .ok (.iconst 0, 1) := by decide +kernel
theorem dL_law_994 : decode cL_law 994 = .ok (.ireturn, 1) := by decide +kernel
theorem dL_law_995 : decode cL_law 995 = .ok (.aload_n 1, 1) := by decide +kernel
theorem dL_law_996 : decode cL_law 996 = .ok (.invokevirtual 111, 3) := by decide +kernel
theorem dL_law_999 : decode cL_law 999 = .ok (.aload_n 2, 1) := by decide +kernel
theorem dL_law_1000 : decode cL_law 1000 = .ok (.invokevirtual 114, 3) := by decide +kernel
theorem dL_law_1003 : decode cL_law 1003 = .ok (.if_icmp .eq 5, 3) := by decide +kernel
theorem dL_law_1006 : decode cL_law 1006 = .ok (.iconst 0, 1) := by decide +kernel
theorem dL_law_1007 : decode cL_law 1007 = .ok (.ireturn, 1) := by decide +kernel
theorem dL_law_1008 : decode cL_law 1008 = .ok (.iinc 3 7, 3) := by decide +kernel
theorem dL_law_1011 : decode cL_law 1011 = .ok (.goto (-993), 3) := by decide +kernel
theorem dL_law_1014 : decode cL_law 1014 = .ok (.iconst 1, 1) := by decide +kernel
theorem dL_law_1015 : decode cL_law 1015 = .ok (.ireturn, 1) := by decide +kernel
abbrev vwCl : List vw_C := [(RX0, TX0, 7), (RX1, TX1, 7), (RX2, TX2, 13), (RX3, TX3, 9), (RX4, TX4, 5), (RX5, TX5, 9)]
/-! ===== END printed: names ===== -/
end
