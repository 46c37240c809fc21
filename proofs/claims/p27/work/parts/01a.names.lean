-- ===== PART A: goes FIRST, ahead of the names: the tables' words, and 'selects' of the private methods out of them =====
/-- a private method of a class that the tables say can be made, by its rows of tables_1 -/
def lw_okq (q : MethodName × Nat) : Prop := (q.1.cls ≠ "java/lang/invoke/MethodHandle" ∧ q.1.cls ≠ "java/lang/invoke/VarHandle") ∧ Cond.instantiable q.1.cls q.2 ∈ tables_1 ∧ Cond.privateMethod q.1 ∈ tables_1 ∧ Cond.instanceMethod q.1 ∈ tables_1
theorem lw_p0 : lw_okq (⟨"CranePermits", "remember", "()V"⟩, 5) := ⟨⟨by decide +kernel, by decide +kernel⟩, List.mem_of_getElem? (i := 11) (by decide +kernel), List.mem_of_getElem? (i := 157) (by decide +kernel), List.mem_of_getElem? (i := 158) (by decide +kernel)⟩
theorem lw_p1 : lw_okq (⟨"CranePermits", "dropOldest", "()V"⟩, 5) := ⟨⟨by decide +kernel, by decide +kernel⟩, List.mem_of_getElem? (i := 11) (by decide +kernel), List.mem_of_getElem? (i := 161) (by decide +kernel), List.mem_of_getElem? (i := 162) (by decide +kernel)⟩
theorem lw_p2 : lw_okq (⟨"CranePermits", "pastAt", "(I)LCranePermits$Site;"⟩, 5) := ⟨⟨by decide +kernel, by decide +kernel⟩, List.mem_of_getElem? (i := 11) (by decide +kernel), List.mem_of_getElem? (i := 165) (by decide +kernel), List.mem_of_getElem? (i := 166) (by decide +kernel)⟩
theorem lw_p3 : lw_okq (⟨"CranePermits$Crane", "markOwnCell", "(I)V"⟩, 7) := ⟨⟨by decide +kernel, by decide +kernel⟩, List.mem_of_getElem? (i := 176) (by decide +kernel), List.mem_of_getElem? (i := 182) (by decide +kernel), List.mem_of_getElem? (i := 183) (by decide +kernel)⟩
theorem lw_p4 : lw_okq (⟨"CranePermits$Crane", "mark", "(II)V"⟩, 7) := ⟨⟨by decide +kernel, by decide +kernel⟩, List.mem_of_getElem? (i := 176) (by decide +kernel), List.mem_of_getElem? (i := 186) (by decide +kernel), List.mem_of_getElem? (i := 187) (by decide +kernel)⟩
theorem lw_p5 : lw_okq (⟨"CranePermits$Site", "isBusy", "(LCranePermits$Crane;II)Z"⟩, 13) := ⟨⟨by decide +kernel, by decide +kernel⟩, List.mem_of_getElem? (i := 19) (by decide +kernel), List.mem_of_getElem? (i := 382) (by decide +kernel), List.mem_of_getElem? (i := 383) (by decide +kernel)⟩
def lw_privs_1 : List (MethodName × Nat) := [(⟨"CranePermits", "remember", "()V"⟩, 5), (⟨"CranePermits", "dropOldest", "()V"⟩, 5), (⟨"CranePermits", "pastAt", "(I)LCranePermits$Site;"⟩, 5), (⟨"CranePermits$Crane", "markOwnCell", "(I)V"⟩, 7), (⟨"CranePermits$Crane", "mark", "(II)V"⟩, 7), (⟨"CranePermits$Site", "isBusy", "(LCranePermits$Crane;II)Z"⟩, 13)]
theorem lw_r1 : ∀ q ∈ lw_privs_1, lw_okq q := List.forall_mem_cons.mpr ⟨lw_p0, List.forall_mem_cons.mpr ⟨lw_p1, List.forall_mem_cons.mpr ⟨lw_p2, List.forall_mem_cons.mpr ⟨lw_p3, List.forall_mem_cons.mpr ⟨lw_p4, List.forall_mem_cons.mpr ⟨lw_p5, fun _ h => absurd h List.not_mem_nil⟩⟩⟩⟩⟩⟩
def lw_privs : List (MethodName × Nat) := lw_privs_1
def lw_tbl : List Cond := k2_sels lw_privs ++ tables_1
theorem lw_privs_ok : ∀ q ∈ lw_privs, lw_okq q := lw_r1
-- ===== end of PART A; then your names; then what follows =====
/-! ===== BEGIN words of one list among another's, by their places ===== -/
theorem goodIn_r {big : List Cond} (ws : List Cond) (ps : List Nat) (hp : ws = ps.filterMap (fun i => big[i]?)) (h : ws.all goodWord = true) : GoodIn big ws := by
  intro w hw
  have h1 := List.all_eq_true.mp h w hw
  rw [hp] at hw
  obtain ⟨i, -, hi⟩ := List.mem_filterMap.mp hw
  have hm : w ∈ big := by first | exact List.mem_of_getElem? hi | exact List.getElem?_mem hi
  exact ⟨hm, good_of_word h1⟩
theorem goodIn_app {big a b : List Cond} (ha : GoodIn big a) (hb : GoodIn big b) : GoodIn big (a ++ b) := fun w h => (List.mem_append.mp h).elim (ha w) (hb w)
theorem goodIn_ca {big a b : List Cond} {c : Cond} (ha : GoodIn big (c :: a)) (hb : GoodIn big b) : GoodIn big (c :: (a ++ b)) := fun w h => (List.mem_cons.mp h).elim (fun e => ha w (List.mem_cons.mpr (Or.inl e))) (fun h => (List.mem_append.mp h).elim (fun h => ha w (List.mem_cons.mpr (Or.inr h))) (hb w))
theorem goodIn_sub {big ws : List Cond} (hm : ∀ w ∈ ws, w ∈ big) (h : ws.all goodWord = true) : GoodIn big ws := fun w hw => ⟨hm w hw, good_of_word (List.all_eq_true.mp h w hw)⟩
/-! ===== END ===== -/

/-! ===== BEGIN printed: names, fields, word lists, decode rows ===== -/
def RX0 : String := "CranePermits$Crane"
def TX0 : u_T := fun k => match k with
  | 0 => ("CranePermits$Crane", "number", "I", true)
  | 1 => ("CranePermits$Crane", "x", "I", true)
  | 2 => ("CranePermits$Crane", "y", "I", true)
  | 3 => ("CranePermits$Crane", "reach", "I", true)
  | 4 => ("CranePermits$Crane", "height", "I", true)
  | 5 => ("CranePermits$Crane", "street", "I", true)
  | _ => ("CranePermits$Crane", "eighths", "[J", true)
def tyX0 : Nat → FieldType := fun k => match k with
  | 0 => .int
  | 1 => .int
  | 2 => .int
  | 3 => .int
  | 4 => .int
  | 5 => .int
  | _ => .array .long
abbrev wsX00 : List Cond := u_ws RX0 TX0 7
theorem nmX0 : ∀ a, a < 7 → ∀ b, b < 7 → a ≠ b → (TX0 a).2.1 ≠ (TX0 b).2.1 := by decide +kernel
theorem tyX0_ok : ∀ k, k < 7 → parseFieldDescriptor (TX0 k).2.2.1 = some (tyX0 k) := by decide +kernel
abbrev cX0_init : ByteArray := prog_2_method_1_code
def yX0_init : MethodName := ⟨RX0, "<init>", "(IIIIII)V"⟩
abbrev cX0_markOwnCell : ByteArray := prog_2_method_2_code
def yX0_markOwnCell : MethodName := ⟨RX0, "markOwnCell", "(I)V"⟩
abbrev cX0_mark : ByteArray := prog_2_method_3_code
def yX0_mark : MethodName := ⟨RX0, "mark", "(II)V"⟩
abbrev cX0_directionOf : ByteArray := prog_2_method_4_code
def yX0_directionOf : MethodName := ⟨RX0, "directionOf", "(II)I"⟩
abbrev cX0_airOf : ByteArray := prog_2_method_5_code
def yX0_airOf : MethodName := ⟨RX0, "airOf", "(II)J"⟩
def RX1 : String := "CranePermits$Permit"
def TX1 : u_T := fun k => match k with
  | 0 => ("CranePermits$Permit", "number", "I", true)
  | 1 => ("CranePermits$Permit", "crane", "LCranePermits$Crane;", true)
  | 2 => ("CranePermits$Permit", "night", "I", true)
  | 3 => ("CranePermits$Permit", "hours", "I", true)
  | 4 => ("CranePermits$Permit", "first", "I", true)
  | 5 => ("CranePermits$Permit", "last", "I", true)
  | _ => ("CranePermits$Permit", "swing", "I", true)
def tyX1 : Nat → FieldType := fun k => match k with
  | 0 => .int
  | 1 => .object "CranePermits$Crane"
  | 2 => .int
  | 3 => .int
  | 4 => .int
  | 5 => .int
  | _ => .int
abbrev wsX10 : List Cond := u_ws RX1 TX1 7
theorem nmX1 : ∀ a, a < 7 → ∀ b, b < 7 → a ≠ b → (TX1 a).2.1 ≠ (TX1 b).2.1 := by decide +kernel
theorem tyX1_ok : ∀ k, k < 7 → parseFieldDescriptor (TX1 k).2.2.1 = some (tyX1 k) := by decide +kernel
abbrev cX1_init : ByteArray := prog_3_method_1_code
def yX1_init : MethodName := ⟨RX1, "<init>", "(ILCranePermits$Crane;III)V"⟩
abbrev cX1_isFor : ByteArray := prog_3_method_2_code
def yX1_isFor : MethodName := ⟨RX1, "isFor", "(LCranePermits$Crane;)Z"⟩
abbrev cX1_isOf : ByteArray := prog_3_method_3_code
def yX1_isOf : MethodName := ⟨RX1, "isOf", "(II)Z"⟩
abbrev cX1_meets : ByteArray := prog_3_method_4_code
def yX1_meets : MethodName := ⟨RX1, "meets", "(II)Z"⟩
abbrev cX1_isAheadOf : ByteArray := prog_3_method_5_code
def yX1_isAheadOf : MethodName := ⟨RX1, "isAheadOf", "(LCranePermits$Permit;)Z"⟩
def RX2 : String := "CranePermits$Site"
def TX2 : u_T := fun k => match k with
  | 0 => ("CranePermits$Site", "cranes", "[LCranePermits$Crane;", true)
  | 1 => ("CranePermits$Site", "craneCount", "I", false)
  | 2 => ("CranePermits$Site", "noises", "[I", true)
  | 3 => ("CranePermits$Site", "settings", "[I", true)
  | 4 => ("CranePermits$Site", "winds", "[I", true)
  | 5 => ("CranePermits$Site", "allowances", "[I", true)
  | 6 => ("CranePermits$Site", "received", "[I", true)
  | 7 => ("CranePermits$Site", "given", "[I", true)
  | 8 => ("CranePermits$Site", "permits", "[LCranePermits$Permit;", true)
  | 9 => ("CranePermits$Site", "permitCount", "I", false)
  | 10 => ("CranePermits$Site", "states", "[I", true)
  | 11 => ("CranePermits$Site", "valid", "[LCranePermits$Permit;", true)
  | _ => ("CranePermits$Site", "validCount", "I", false)
def tyX2 : Nat → FieldType := fun k => match k with
  | 0 => .array (.object "CranePermits$Crane")
  | 1 => .int
  | 2 => .array .int
  | 3 => .array .int
  | 4 => .array .int
  | 5 => .array .int
  | 6 => .array .int
  | 7 => .array .int
  | 8 => .array (.object "CranePermits$Permit")
  | 9 => .int
  | 10 => .array .int
  | 11 => .array (.object "CranePermits$Permit")
  | _ => .int
abbrev wsX20 : List Cond := u_ws RX2 TX2 13
theorem nmX2 : ∀ a, a < 13 → ∀ b, b < 13 → a ≠ b → (TX2 a).2.1 ≠ (TX2 b).2.1 := by decide +kernel
theorem tyX2_ok : ∀ k, k < 13 → parseFieldDescriptor (TX2 k).2.2.1 = some (tyX2 k) := by decide +kernel
abbrev cX2_init : ByteArray := prog_4_method_1_code
def yX2_init : MethodName := ⟨RX2, "<init>", "()V"⟩
abbrev cX2_copyFrom : ByteArray := prog_4_method_2_code
def yX2_copyFrom : MethodName := ⟨RX2, "copyFrom", "(LCranePermits$Site;)V"⟩
abbrev cX2_craneAt : ByteArray := prog_4_method_3_code
def yX2_craneAt : MethodName := ⟨RX2, "craneAt", "(I)LCranePermits$Crane;"⟩
abbrev cX2_permitAt : ByteArray := prog_4_method_4_code
def yX2_permitAt : MethodName := ⟨RX2, "permitAt", "(I)LCranePermits$Permit;"⟩
abbrev cX2_validAt : ByteArray := prog_4_method_5_code
def yX2_validAt : MethodName := ⟨RX2, "validAt", "(I)LCranePermits$Permit;"⟩
abbrev cX2_hasCraneIn : ByteArray := prog_4_method_6_code
def yX2_hasCraneIn : MethodName := ⟨RX2, "hasCraneIn", "(II)Z"⟩
abbrev cX2_addCrane : ByteArray := prog_4_method_7_code
def yX2_addCrane : MethodName := ⟨RX2, "addCrane", "(LCranePermits$Crane;I)V"⟩
abbrev cX2_stopWindOf : ByteArray := prog_4_method_8_code
def yX2_stopWindOf : MethodName := ⟨RX2, "stopWindOf", "(LCranePermits$Crane;)I"⟩
abbrev cX2_mustStop : ByteArray := prog_4_method_9_code
def yX2_mustStop : MethodName := ⟨RX2, "mustStop", "(LCranePermits$Crane;I)Z"⟩
abbrev cX2_allowanceOf : ByteArray := prog_4_method_10_code
def yX2_allowanceOf : MethodName := ⟨RX2, "allowanceOf", "(II)I"⟩
abbrev cX2_creditsOf : ByteArray := prog_4_method_11_code
def yX2_creditsOf : MethodName := ⟨RX2, "creditsOf", "(II)I"⟩
abbrev cX2_useOf : ByteArray := prog_4_method_12_code
def yX2_useOf : MethodName := ⟨RX2, "useOf", "(LCranePermits$Crane;I)I"⟩
abbrev cX2_usedOf : ByteArray := prog_4_method_13_code
def yX2_usedOf : MethodName := ⟨RX2, "usedOf", "(II)I"⟩
abbrev cX2_freeOf : ByteArray := prog_4_method_14_code
def yX2_freeOf : MethodName := ⟨RX2, "freeOf", "(II)I"⟩
abbrev cX2_usedByAll : ByteArray := prog_4_method_15_code
def yX2_usedByAll : MethodName := ⟨RX2, "usedByAll", "()I"⟩
abbrev cX2_validOfCrane : ByteArray := prog_4_method_16_code
def yX2_validOfCrane : MethodName := ⟨RX2, "validOfCrane", "(LCranePermits$Crane;)I"⟩
abbrev cX2_validOfStreet : ByteArray := prog_4_method_17_code
def yX2_validOfStreet : MethodName := ⟨RX2, "validOfStreet", "(II)I"⟩
abbrev cX2_validAhead : ByteArray := prog_4_method_18_code
def yX2_validAhead : MethodName := ⟨RX2, "validAhead", "(LCranePermits$Permit;)I"⟩
abbrev cX2_permitsWith : ByteArray := prog_4_method_19_code
def yX2_permitsWith : MethodName := ⟨RX2, "permitsWith", "(I)I"⟩
abbrev cX2_shareAir : ByteArray := prog_4_method_20_code
def yX2_shareAir : MethodName := ⟨RX2, "shareAir", "(LCranePermits$Crane;IIILCranePermits$Permit;)Z"⟩
abbrev cX2_lowestSharing : ByteArray := prog_4_method_21_code
def yX2_lowestSharing : MethodName := ⟨RX2, "lowestSharing", "(LCranePermits$Crane;III)I"⟩
abbrev cX2_sharingPairs : ByteArray := prog_4_method_22_code
def yX2_sharingPairs : MethodName := ⟨RX2, "sharingPairs", "()I"⟩
abbrev cX2_isBusy : ByteArray := prog_4_method_23_code
def yX2_isBusy : MethodName := ⟨RX2, "isBusy", "(LCranePermits$Crane;II)Z"⟩
abbrev cX2_refusalOf : ByteArray := prog_4_method_24_code
def yX2_refusalOf : MethodName := ⟨RX2, "refusalOf", "(LCranePermits$Crane;III)I"⟩
abbrev cX2_hasRoom : ByteArray := prog_4_method_25_code
def yX2_hasRoom : MethodName := ⟨RX2, "hasRoom", "()Z"⟩
abbrev cX2_grant : ByteArray := prog_4_method_26_code
def yX2_grant : MethodName := ⟨RX2, "grant", "(LCranePermits$Permit;)V"⟩
abbrev cX2_end : ByteArray := prog_4_method_27_code
def yX2_end : MethodName := ⟨RX2, "end", "(LCranePermits$Permit;I)V"⟩
abbrev cX2_withdrawFailing : ByteArray := prog_4_method_28_code
def yX2_withdrawFailing : MethodName := ⟨RX2, "withdrawFailing", "()I"⟩
def RX3 : String := "CranePermits$Text"
def TX3 : u_T := fun k => match k with
  | 0 => ("CranePermits$Text", "signs", "[C", true)
  | 1 => ("CranePermits$Text", "length", "I", false)
  | 2 => ("CranePermits$Text", "start", "I", false)
  | 3 => ("CranePermits$Text", "next", "I", false)
  | 4 => ("CranePermits$Text", "formed", "Z", false)
  | 5 => ("CranePermits$Text", "crane", "I", false)
  | 6 => ("CranePermits$Text", "night", "I", false)
  | 7 => ("CranePermits$Text", "hours", "I", false)
  | _ => ("CranePermits$Text", "swing", "I", false)
def tyX3 : Nat → FieldType := fun k => match k with
  | 0 => .array .char
  | 1 => .int
  | 2 => .int
  | 3 => .int
  | 4 => .boolean
  | 5 => .int
  | 6 => .int
  | 7 => .int
  | _ => .int
abbrev wsX30 : List Cond := u_ws RX3 TX3 9
theorem nmX3 : ∀ a, a < 9 → ∀ b, b < 9 → a ≠ b → (TX3 a).2.1 ≠ (TX3 b).2.1 := by decide +kernel
theorem tyX3_ok : ∀ k, k < 9 → parseFieldDescriptor (TX3 k).2.2.1 = some (tyX3 k) := by decide +kernel
abbrev cX3_init : ByteArray := prog_5_method_1_code
def yX3_init : MethodName := ⟨RX3, "<init>", "()V"⟩
def RX4 : String := "CranePermits"
def TX4 : u_T := fun k => match k with
  | 0 => ("CranePermits", "now", "LCranePermits$Site;", true)
  | 1 => ("CranePermits", "trial", "LCranePermits$Site;", true)
  | 2 => ("CranePermits", "past", "[LCranePermits$Site;", true)
  | 3 => ("CranePermits", "pastCount", "I", false)
  | _ => ("CranePermits", "text", "LCranePermits$Text;", true)
def tyX4 : Nat → FieldType := fun k => match k with
  | 0 => .object "CranePermits$Site"
  | 1 => .object "CranePermits$Site"
  | 2 => .array (.object "CranePermits$Site")
  | 3 => .int
  | _ => .object "CranePermits$Text"
abbrev wsX40 : List Cond := u_ws RX4 TX4 5
theorem nmX4 : ∀ a, a < 5 → ∀ b, b < 5 → a ≠ b → (TX4 a).2.1 ≠ (TX4 b).2.1 := by decide +kernel
theorem tyX4_ok : ∀ k, k < 5 → parseFieldDescriptor (TX4 k).2.2.1 = some (tyX4 k) := by decide +kernel
abbrev cX4_init : ByteArray := prog_1_method_1_code
def yX4_init : MethodName := ⟨RX4, "<init>", "()V"⟩
abbrev cX4_crane : ByteArray := prog_1_method_2_code
def yX4_crane : MethodName := ⟨RX4, "crane", "(IIIIII)I"⟩
abbrev cX4_noise : ByteArray := prog_1_method_3_code
def yX4_noise : MethodName := ⟨RX4, "noise", "(II)I"⟩
abbrev cX4_craneOf : ByteArray := prog_1_method_4_code
def yX4_craneOf : MethodName := ⟨RX4, "craneOf", "(II)I"⟩
abbrev cX4_set : ByteArray := prog_1_method_5_code
def yX4_set : MethodName := ⟨RX4, "set", "(II)I"⟩
abbrev cX4_wind : ByteArray := prog_1_method_6_code
def yX4_wind : MethodName := ⟨RX4, "wind", "(II)I"⟩
abbrev cX4_allow : ByteArray := prog_1_method_7_code
def yX4_allow : MethodName := ⟨RX4, "allow", "(III)I"⟩
abbrev cX4_transfer : ByteArray := prog_1_method_8_code
def yX4_transfer : MethodName := ⟨RX4, "transfer", "(IIII)I"⟩
abbrev cX4_street : ByteArray := prog_1_method_9_code
def yX4_street : MethodName := ⟨RX4, "street", "(III)I"⟩
abbrev cX4_count : ByteArray := prog_1_method_10_code
def yX4_count : MethodName := ⟨RX4, "count", "(I)I"⟩
abbrev cX4_undo : ByteArray := prog_1_method_11_code
def yX4_undo : MethodName := ⟨RX4, "undo", "()I"⟩
abbrev cX4_covers : ByteArray := prog_1_method_12_code
def yX4_covers : MethodName := ⟨RX4, "covers", "(IIII)I"⟩
abbrev cX4_area : ByteArray := prog_1_method_13_code
def yX4_area : MethodName := ⟨RX4, "area", "(II)I"⟩
abbrev cX4_refusal : ByteArray := prog_1_method_14_code
def yX4_refusal : MethodName := ⟨RX4, "refusal", "(IIII)I"⟩
abbrev cX4_apply : ByteArray := prog_1_method_15_code
def yX4_apply : MethodName := ⟨RX4, "apply", "(IIII)I"⟩
abbrev cX4_withdraw : ByteArray := prog_1_method_16_code
def yX4_withdraw : MethodName := ⟨RX4, "withdraw", "(I)I"⟩
abbrev cX4_permit : ByteArray := prog_1_method_17_code
def yX4_permit : MethodName := ⟨RX4, "permit", "(II)I"⟩
abbrev cX4_inOrder : ByteArray := prog_1_method_18_code
def yX4_inOrder : MethodName := ⟨RX4, "inOrder", "(I)I"⟩
abbrev cX4_inTheWay : ByteArray := prog_1_method_20_code
def yX4_inTheWay : MethodName := ⟨RX4, "inTheWay", "(IIII)I"⟩
abbrev cX4_remember : ByteArray := prog_1_method_26_code
def yX4_remember : MethodName := ⟨RX4, "remember", "()V"⟩
abbrev cX4_dropOldest : ByteArray := prog_1_method_27_code
def yX4_dropOldest : MethodName := ⟨RX4, "dropOldest", "()V"⟩
abbrev cX4_pastAt : ByteArray := prog_1_method_28_code
def yX4_pastAt : MethodName := ⟨RX4, "pastAt", "(I)LCranePermits$Site;"⟩
abbrev cX4_isIn : ByteArray := prog_1_method_31_code
def yX4_isIn : MethodName := ⟨RX4, "isIn", "(III)Z"⟩
abbrev cX4_isCell : ByteArray := prog_1_method_32_code
def yX4_isCell : MethodName := ⟨RX4, "isCell", "(II)Z"⟩
abbrev cX4_isStreet : ByteArray := prog_1_method_33_code
def yX4_isStreet : MethodName := ⟨RX4, "isStreet", "(I)Z"⟩
abbrev cX4_isNight : ByteArray := prog_1_method_34_code
def yX4_isNight : MethodName := ⟨RX4, "isNight", "(I)Z"⟩
abbrev cX4_isSwing : ByteArray := prog_1_method_35_code
def yX4_isSwing : MethodName := ⟨RX4, "isSwing", "(I)Z"⟩
abbrev cX4_isPlan : ByteArray := prog_1_method_36_code
def yX4_isPlan : MethodName := ⟨RX4, "isPlan", "(III)Z"⟩
abbrev cX4_streetNight : ByteArray := prog_1_method_37_code
def yX4_streetNight : MethodName := ⟨RX4, "streetNight", "(II)I"⟩
abbrev cX4_at : ByteArray := prog_1_method_38_code
def yX4_at : MethodName := ⟨RX4, "at", "([II)I"⟩
abbrev cX4_put : ByteArray := prog_1_method_39_code
def yX4_put : MethodName := ⟨RX4, "put", "([III)V"⟩
def RX5 : String := "CranePermitsModel"
def TX5 : u_T := fun k => match k with
  | _ => ("", "", "", false)
def tyX5 : Nat → FieldType := fun k => match k with
  | _ => .int
abbrev wsX50 : List Cond := u_ws RX5 TX5 0
theorem nmX5 : ∀ a, a < 0 → ∀ b, b < 0 → a ≠ b → (TX5 a).2.1 ≠ (TX5 b).2.1 := by decide +kernel
theorem tyX5_ok : ∀ k, k < 0 → parseFieldDescriptor (TX5 k).2.2.1 = some (tyX5 k) := by decide +kernel
def RJ13 : String := "java/lang/Long"
def TJ13 : u_T := fun k => match k with
  | _ => ("", "", "", false)
def tyJ13 : Nat → FieldType := fun k => match k with
  | _ => .int
abbrev wsJ130 : List Cond := u_ws RJ13 TJ13 0
theorem nmJ13 : ∀ a, a < 0 → ∀ b, b < 0 → a ≠ b → (TJ13 a).2.1 ≠ (TJ13 b).2.1 := by decide +kernel
theorem tyJ13_ok : ∀ k, k < 0 → parseFieldDescriptor (TJ13 k).2.2.1 = some (tyJ13 k) := by decide +kernel
abbrev cJ13_bitCount_95d88 : ByteArray := prog_8_method_50_code
def yJ13_bitCount_95d88 : MethodName := ⟨RJ13, "bitCount", "(J)I"⟩
def RJ9 : String := "java/lang/Math"
def TJ9 : u_T := fun k => match k with
  | _ => ("", "", "", false)
def tyJ9 : Nat → FieldType := fun k => match k with
  | _ => .int
abbrev wsJ90 : List Cond := u_ws RJ9 TJ9 0
theorem nmJ9 : ∀ a, a < 0 → ∀ b, b < 0 → a ≠ b → (TJ9 a).2.1 ≠ (TJ9 b).2.1 := by decide +kernel
theorem tyJ9_ok : ∀ k, k < 0 → parseFieldDescriptor (TJ9 k).2.2.1 = some (tyJ9 k) := by decide +kernel
abbrev cJ9_abs_0f7a4 : ByteArray := prog_9_method_59_code
def yJ9_abs_0f7a4 : MethodName := ⟨RJ9, "abs", "(I)I"⟩
def RJ10 : String := "java/lang/System"
def TJ10 : u_T := fun k => match k with
  | _ => ("", "", "", false)
def tyJ10 : Nat → FieldType := fun k => match k with
  | _ => .int
abbrev wsJ100 : List Cond := u_ws RJ10 TJ10 0
theorem nmJ10 : ∀ a, a < 0 → ∀ b, b < 0 → a ≠ b → (TJ10 a).2.1 ≠ (TJ10 b).2.1 := by decide +kernel
theorem tyJ10_ok : ∀ k, k < 0 → parseFieldDescriptor (TJ10 k).2.2.1 = some (tyJ10 k) := by decide +kernel
def RJ7 : String := "java/util/Arrays"
def TJ7 : u_T := fun k => match k with
  | _ => ("", "", "", false)
def tyJ7 : Nat → FieldType := fun k => match k with
  | _ => .int
abbrev wsJ70 : List Cond := u_ws RJ7 TJ7 0
theorem nmJ7 : ∀ a, a < 0 → ∀ b, b < 0 → a ≠ b → (TJ7 a).2.1 ≠ (TJ7 b).2.1 := by decide +kernel
theorem tyJ7_ok : ∀ k, k < 0 → parseFieldDescriptor (TJ7 k).2.2.1 = some (tyJ7 k) := by decide +kernel
abbrev cJ7_fill_53178 : ByteArray := prog_11_method_103_code
def yJ7_fill_53178 : MethodName := ⟨RJ7, "fill", "([II)V"⟩
def RL : String := "CranePermitsLaw"
abbrev cL_cell : ByteArray := method_2_code
def yL_cell : MethodName := ⟨RL, "cell", "([II)I"⟩
abbrev cL_holds : ByteArray := method_3_code
def yL_holds : MethodName := ⟨RL, "holds", "(LCranePermits;)Z"⟩
abbrev cL_swings : ByteArray := method_4_code
def yL_swings : MethodName := ⟨RL, "swings", "(LCranePermits;I)Z"⟩
abbrev cL_law : ByteArray := code
def yL_law : MethodName := ⟨RL, "law", "([I)Z"⟩
def wsX0_mark : List Cond := .code yX0_mark cX0_mark 4 none :: ([.fieldLink RX0 9 "CranePermits$Crane" "eighths" "[J"] ++ wsX00)
def wsX0_markOwnCell : List Cond := .code yX0_markOwnCell cX0_markOwnCell 3 none :: ([.methodLink RX0 42 yX0_mark, .instanceMethod yX0_mark, .selects RX0 yX0_mark yX0_mark, .initialized RX0, .code yX0_mark cX0_mark 4 none, .fieldLink RX0 9 "CranePermits$Crane" "eighths" "[J"] ++ wsX00)
def wsX0_directionOf : List Cond := .code yX0_directionOf cX0_directionOf 2 (some .int) :: ([])
def wsX0_init : List Cond := .code yX0_init cX0_init 10 none :: ([.methodLink RX0 3 objectInit, .instanceMethod objectInit, .code objectInit ⟨#[0xb1]⟩ 1 none, .arrayClass .long, .fieldLink RX0 9 "CranePermits$Crane" "eighths" "[J", .fieldLink RX0 15 "CranePermits$Crane" "number" "I", .fieldLink RX0 19 "CranePermits$Crane" "x" "I", .fieldLink RX0 22 "CranePermits$Crane" "y" "I", .fieldLink RX0 25 "CranePermits$Crane" "reach" "I", .fieldLink RX0 28 "CranePermits$Crane" "height" "I", .fieldLink RX0 31 "CranePermits$Crane" "street" "I", .methodLink RX0 34 yX0_markOwnCell, .instanceMethod yX0_markOwnCell, .selects RX0 yX0_markOwnCell yX0_markOwnCell, .initialized RX0, .code yX0_markOwnCell cX0_markOwnCell 3 none, .methodLink RX0 42 yX0_mark, .instanceMethod yX0_mark, .selects RX0 yX0_mark yX0_mark, .code yX0_mark cX0_mark 4 none, .methodLink RX0 38 yX0_directionOf, .static yX0_directionOf, .code yX0_directionOf cX0_directionOf 2 (some .int)] ++ wsX00)
def wsX0_airOf : List Cond := .code yX0_airOf cX0_airOf 8 (some .long) :: ([.fieldLink RX0 9 "CranePermits$Crane" "eighths" "[J"] ++ wsX00)
def wsX1_init : List Cond := .code yX1_init cX1_init 6 none :: ([.methodLink RX1 1 objectInit, .instanceMethod objectInit, .code objectInit ⟨#[0xb1]⟩ 1 none, .fieldLink RX1 7 "CranePermits$Permit" "number" "I", .fieldLink RX1 13 "CranePermits$Permit" "crane" "LCranePermits$Crane;", .fieldLink RX1 17 "CranePermits$Permit" "night" "I", .fieldLink RX1 20 "CranePermits$Permit" "hours" "I", .fieldLink RX1 23 "CranePermits$Permit" "first" "I", .fieldLink RX1 26 "CranePermits$Permit" "last" "I", .fieldLink RX1 29 "CranePermits$Permit" "swing" "I"] ++ wsX10)
def wsX1_isFor : List Cond := .code yX1_isFor cX1_isFor 2 (some .boolean) :: ([.fieldLink RX1 13 "CranePermits$Permit" "crane" "LCranePermits$Crane;", .fieldLink RX1 32 "CranePermits$Crane" "number" "I"] ++ wsX10 ++ wsX00)
def wsX1_isOf : List Cond := .code yX1_isOf cX1_isOf 3 (some .boolean) :: ([.fieldLink RX1 13 "CranePermits$Permit" "crane" "LCranePermits$Crane;", .fieldLink RX1 35 "CranePermits$Crane" "street" "I", .fieldLink RX1 17 "CranePermits$Permit" "night" "I"] ++ wsX10 ++ wsX00)
def wsX1_meets : List Cond := .code yX1_meets cX1_meets 5 (some .boolean) :: ([.fieldLink RX1 26 "CranePermits$Permit" "last" "I", .fieldLink RX1 23 "CranePermits$Permit" "first" "I", .fieldLink RX1 17 "CranePermits$Permit" "night" "I"] ++ wsX10)
def wsX1_isAheadOf : List Cond := .code yX1_isAheadOf cX1_isAheadOf 2 (some .boolean) :: ([.fieldLink RX1 17 "CranePermits$Permit" "night" "I", .fieldLink RX1 23 "CranePermits$Permit" "first" "I", .fieldLink RX1 7 "CranePermits$Permit" "number" "I"] ++ wsX10)
def wsJ7_fill_53178 : List Cond := .code yJ7_fill_53178 cJ7_fill_53178 4 none :: ([])
def wsX2_init : List Cond := .code yX2_init cX2_init 1 none :: ([.methodLink RX2 3 objectInit, .instanceMethod objectInit, .code objectInit ⟨#[0xb1]⟩ 1 none, .classLink RX2 9 RX0, .fieldLink RX2 11 "CranePermits$Site" "cranes" "[LCranePermits$Crane;", .fieldLink RX2 17 "CranePermits$Site" "craneCount" "I", .arrayClass .int, .fieldLink RX2 21 "CranePermits$Site" "noises" "[I", .fieldLink RX2 25 "CranePermits$Site" "settings" "[I", .fieldLink RX2 28 "CranePermits$Site" "winds" "[I", .fieldLink RX2 31 "CranePermits$Site" "allowances" "[I", .fieldLink RX2 34 "CranePermits$Site" "received" "[I", .fieldLink RX2 37 "CranePermits$Site" "given" "[I", .classLink RX2 40 RX1, .fieldLink RX2 42 "CranePermits$Site" "permits" "[LCranePermits$Permit;", .fieldLink RX2 46 "CranePermits$Site" "permitCount" "I", .fieldLink RX2 49 "CranePermits$Site" "states" "[I", .fieldLink RX2 52 "CranePermits$Site" "valid" "[LCranePermits$Permit;", .fieldLink RX2 55 "CranePermits$Site" "validCount" "I", .methodLink RX2 58 yJ7_fill_53178, .static yJ7_fill_53178, .initialized RJ7, .code yJ7_fill_53178 cJ7_fill_53178 4 none] ++ wsX20)
def wsX2_copyFrom : List Cond := .code yX2_copyFrom cX2_copyFrom 2 none :: ([.fieldLink RX2 11 "CranePermits$Site" "cranes" "[LCranePermits$Crane;", .methodLink RX2 64 arraycopyName, .native arraycopyName, .static arraycopyName, .initialized "java/lang/System", .fieldLink RX2 17 "CranePermits$Site" "craneCount" "I", .fieldLink RX2 21 "CranePermits$Site" "noises" "[I", .fieldLink RX2 25 "CranePermits$Site" "settings" "[I", .fieldLink RX2 28 "CranePermits$Site" "winds" "[I", .fieldLink RX2 31 "CranePermits$Site" "allowances" "[I", .fieldLink RX2 34 "CranePermits$Site" "received" "[I", .fieldLink RX2 37 "CranePermits$Site" "given" "[I", .fieldLink RX2 42 "CranePermits$Site" "permits" "[LCranePermits$Permit;", .fieldLink RX2 46 "CranePermits$Site" "permitCount" "I", .fieldLink RX2 49 "CranePermits$Site" "states" "[I", .fieldLink RX2 52 "CranePermits$Site" "valid" "[LCranePermits$Permit;", .fieldLink RX2 55 "CranePermits$Site" "validCount" "I"] ++ wsX20)
def wsX2_craneAt : List Cond := .code yX2_craneAt cX2_craneAt 3 (some (.object "CranePermits$Crane")) :: ([.fieldLink RX2 17 "CranePermits$Site" "craneCount" "I", .fieldLink RX2 11 "CranePermits$Site" "cranes" "[LCranePermits$Crane;"] ++ wsX20)
def wsX2_permitAt : List Cond := .code yX2_permitAt cX2_permitAt 3 (some (.object "CranePermits$Permit")) :: ([.fieldLink RX2 46 "CranePermits$Site" "permitCount" "I", .fieldLink RX2 42 "CranePermits$Site" "permits" "[LCranePermits$Permit;"] ++ wsX20)
def wsX2_validAt : List Cond := .code yX2_validAt cX2_validAt 3 (some (.object "CranePermits$Permit")) :: ([.fieldLink RX2 55 "CranePermits$Site" "validCount" "I", .fieldLink RX2 52 "CranePermits$Site" "valid" "[LCranePermits$Permit;"] ++ wsX20)
def wsX2_hasCraneIn : List Cond := .code yX2_hasCraneIn cX2_hasCraneIn 5 (some .boolean) :: ([.fieldLink RX2 17 "CranePermits$Site" "craneCount" "I", .fieldLink RX2 74 "CranePermits$Crane" "x" "I", .fieldLink RX2 77 "CranePermits$Crane" "y" "I", .methodLink RX2 70 yX2_craneAt, .instanceMethod yX2_craneAt, .selects RX2 yX2_craneAt yX2_craneAt, .initialized RX2, .code yX2_craneAt cX2_craneAt 3 (some (.object "CranePermits$Crane")), .fieldLink RX2 11 "CranePermits$Site" "cranes" "[LCranePermits$Crane;"] ++ wsX20 ++ wsX00)
def wsX4_put : List Cond := .code yX4_put cX4_put 3 none :: ([])
def wsX2_addCrane : List Cond := .code yX2_addCrane cX2_addCrane 3 none :: ([.fieldLink RX2 17 "CranePermits$Site" "craneCount" "I", .fieldLink RX2 11 "CranePermits$Site" "cranes" "[LCranePermits$Crane;", .fieldLink RX2 21 "CranePermits$Site" "noises" "[I", .static yX4_put, .initialized RX4, .code yX4_put cX4_put 3 none] ++ wsX20)
def wsX4_at : List Cond := .code yX4_at cX4_at 2 (some .int) :: ([])
def wsX2_stopWindOf : List Cond := .code yX2_stopWindOf cX2_stopWindOf 2 (some .int) :: ([.fieldLink RX2 25 "CranePermits$Site" "settings" "[I", .fieldLink RX2 88 "CranePermits$Crane" "height" "I", .static yX4_at, .initialized RX4, .code yX4_at cX4_at 2 (some .int)] ++ wsX20 ++ wsX00)
def wsX2_mustStop : List Cond := .code yX2_mustStop cX2_mustStop 3 (some .boolean) :: ([.fieldLink RX2 28 "CranePermits$Site" "winds" "[I", .static yX4_at, .initialized RX4, .code yX4_at cX4_at 2 (some .int), .methodLink RX2 91 yX2_stopWindOf, .instanceMethod yX2_stopWindOf, .selects RX2 yX2_stopWindOf yX2_stopWindOf, .initialized RX2, .code yX2_stopWindOf cX2_stopWindOf 2 (some .int), .fieldLink RX2 25 "CranePermits$Site" "settings" "[I", .fieldLink RX2 88 "CranePermits$Crane" "height" "I"] ++ wsX20 ++ wsX00)
def wsX4_streetNight : List Cond := .code yX4_streetNight cX4_streetNight 2 (some .int) :: ([])
def wsX2_allowanceOf : List Cond := .code yX2_allowanceOf cX2_allowanceOf 4 (some .int) :: ([.fieldLink RX2 31 "CranePermits$Site" "allowances" "[I", .fieldLink RX2 25 "CranePermits$Site" "settings" "[I", .static yX4_streetNight, .initialized RX4, .code yX4_streetNight cX4_streetNight 2 (some .int), .static yX4_at, .code yX4_at cX4_at 2 (some .int)] ++ wsX20)
def wsX2_creditsOf : List Cond := .code yX2_creditsOf cX2_creditsOf 4 (some .int) :: ([.fieldLink RX2 34 "CranePermits$Site" "received" "[I", .fieldLink RX2 37 "CranePermits$Site" "given" "[I", .static yX4_streetNight, .initialized RX4, .code yX4_streetNight cX4_streetNight 2 (some .int), .methodLink RX2 99 yX2_allowanceOf, .instanceMethod yX2_allowanceOf, .selects RX2 yX2_allowanceOf yX2_allowanceOf, .initialized RX2, .code yX2_allowanceOf cX2_allowanceOf 4 (some .int), .fieldLink RX2 31 "CranePermits$Site" "allowances" "[I", .fieldLink RX2 25 "CranePermits$Site" "settings" "[I", .static yX4_at, .code yX4_at cX4_at 2 (some .int)] ++ wsX20)
def wsX2_useOf : List Cond := .code yX2_useOf cX2_useOf 3 (some .int) :: ([.fieldLink RX2 21 "CranePermits$Site" "noises" "[I", .fieldLink RX2 102 "CranePermits$Crane" "number" "I", .static yX4_at, .initialized RX4, .code yX4_at cX4_at 2 (some .int)] ++ wsX20 ++ wsX00)
def wsX2_usedOf_r1 : List Cond := [Cond.fieldLink RX2 55 "CranePermits$Site" "validCount" "I", Cond.fieldLink RX2 113 "CranePermits$Permit" "crane" "LCranePermits$Crane;", Cond.fieldLink RX2 117 "CranePermits$Permit" "hours" "I", Cond.methodLink RX2 105 yX2_validAt, Cond.instanceMethod yX2_validAt, Cond.selects RX2 yX2_validAt yX2_validAt, Cond.initialized RX2, Cond.code yX2_validAt cX2_validAt 3 (some (.object "CranePermits$Permit")), Cond.fieldLink RX2 52 "CranePermits$Site" "valid" "[LCranePermits$Permit;", Cond.methodLink RX2 109 yX1_isOf, Cond.instanceMethod yX1_isOf, Cond.selects RX1 yX1_isOf yX1_isOf, Cond.initialized RX1, Cond.code yX1_isOf cX1_isOf 3 (some .boolean), Cond.fieldLink RX1 13 "CranePermits$Permit" "crane" "LCranePermits$Crane;", Cond.fieldLink RX1 35 "CranePermits$Crane" "street" "I", Cond.fieldLink RX1 17 "CranePermits$Permit" "night" "I", Cond.methodLink RX2 120 yX2_useOf, Cond.instanceMethod yX2_useOf, Cond.selects RX2 yX2_useOf yX2_useOf, Cond.code yX2_useOf cX2_useOf 3 (some .int), Cond.fieldLink RX2 21 "CranePermits$Site" "noises" "[I", Cond.fieldLink RX2 102 "CranePermits$Crane" "number" "I", Cond.static yX4_at]
def wsX2_usedOf_r2 : List Cond := [Cond.initialized RX4, Cond.code yX4_at cX4_at 2 (some .int)]
def wsX2_usedOf : List Cond := .code yX2_usedOf cX2_usedOf 6 (some .int) :: ((wsX2_usedOf_r1 ++ wsX2_usedOf_r2) ++ wsX20 ++ wsX10 ++ wsX00)
def wsX2_freeOf_r1 : List Cond := [Cond.methodLink RX2 124 yX2_creditsOf, Cond.instanceMethod yX2_creditsOf, Cond.selects RX2 yX2_creditsOf yX2_creditsOf, Cond.initialized RX2, Cond.code yX2_creditsOf cX2_creditsOf 4 (some .int), Cond.fieldLink RX2 34 "CranePermits$Site" "received" "[I", Cond.fieldLink RX2 37 "CranePermits$Site" "given" "[I", Cond.static yX4_streetNight, Cond.initialized RX4, Cond.code yX4_streetNight cX4_streetNight 2 (some .int), Cond.methodLink RX2 99 yX2_allowanceOf, Cond.instanceMethod yX2_allowanceOf, Cond.selects RX2 yX2_allowanceOf yX2_allowanceOf, Cond.code yX2_allowanceOf cX2_allowanceOf 4 (some .int), Cond.fieldLink RX2 31 "CranePermits$Site" "allowances" "[I", Cond.fieldLink RX2 25 "CranePermits$Site" "settings" "[I", Cond.static yX4_at, Cond.code yX4_at cX4_at 2 (some .int), Cond.methodLink RX2 127 yX2_usedOf, Cond.instanceMethod yX2_usedOf, Cond.selects RX2 yX2_usedOf yX2_usedOf, Cond.code yX2_usedOf cX2_usedOf 6 (some .int), Cond.fieldLink RX2 55 "CranePermits$Site" "validCount" "I", Cond.fieldLink RX2 113 "CranePermits$Permit" "crane" "LCranePermits$Crane;"]
def wsX2_freeOf_r2 : List Cond := [Cond.fieldLink RX2 117 "CranePermits$Permit" "hours" "I", Cond.methodLink RX2 105 yX2_validAt, Cond.instanceMethod yX2_validAt, Cond.selects RX2 yX2_validAt yX2_validAt, Cond.code yX2_validAt cX2_validAt 3 (some (.object "CranePermits$Permit")), Cond.fieldLink RX2 52 "CranePermits$Site" "valid" "[LCranePermits$Permit;", Cond.methodLink RX2 109 yX1_isOf, Cond.instanceMethod yX1_isOf, Cond.selects RX1 yX1_isOf yX1_isOf, Cond.initialized RX1, Cond.code yX1_isOf cX1_isOf 3 (some .boolean), Cond.fieldLink RX1 13 "CranePermits$Permit" "crane" "LCranePermits$Crane;", Cond.fieldLink RX1 35 "CranePermits$Crane" "street" "I", Cond.fieldLink RX1 17 "CranePermits$Permit" "night" "I", Cond.methodLink RX2 120 yX2_useOf, Cond.instanceMethod yX2_useOf, Cond.selects RX2 yX2_useOf yX2_useOf, Cond.code yX2_useOf cX2_useOf 3 (some .int), Cond.fieldLink RX2 21 "CranePermits$Site" "noises" "[I", Cond.fieldLink RX2 102 "CranePermits$Crane" "number" "I"]
def wsX2_freeOf : List Cond := .code yX2_freeOf cX2_freeOf 3 (some .int) :: ((wsX2_freeOf_r1 ++ wsX2_freeOf_r2) ++ wsX20 ++ wsX10 ++ wsX00)
def wsX2_usedByAll : List Cond := .code yX2_usedByAll cX2_usedByAll 4 (some .int) :: ([.fieldLink RX2 55 "CranePermits$Site" "validCount" "I", .fieldLink RX2 113 "CranePermits$Permit" "crane" "LCranePermits$Crane;", .fieldLink RX2 117 "CranePermits$Permit" "hours" "I", .methodLink RX2 105 yX2_validAt, .instanceMethod yX2_validAt, .selects RX2 yX2_validAt yX2_validAt, .initialized RX2, .code yX2_validAt cX2_validAt 3 (some (.object "CranePermits$Permit")), .fieldLink RX2 52 "CranePermits$Site" "valid" "[LCranePermits$Permit;", .methodLink RX2 120 yX2_useOf, .instanceMethod yX2_useOf, .selects RX2 yX2_useOf yX2_useOf, .code yX2_useOf cX2_useOf 3 (some .int), .fieldLink RX2 21 "CranePermits$Site" "noises" "[I", .fieldLink RX2 102 "CranePermits$Crane" "number" "I", .static yX4_at, .initialized RX4, .code yX4_at cX4_at 2 (some .int)] ++ wsX20 ++ wsX10 ++ wsX00)
def wsX2_validOfCrane : List Cond := .code yX2_validOfCrane cX2_validOfCrane 5 (some .int) :: ([.fieldLink RX2 55 "CranePermits$Site" "validCount" "I", .methodLink RX2 105 yX2_validAt, .instanceMethod yX2_validAt, .selects RX2 yX2_validAt yX2_validAt, .initialized RX2, .code yX2_validAt cX2_validAt 3 (some (.object "CranePermits$Permit")), .fieldLink RX2 52 "CranePermits$Site" "valid" "[LCranePermits$Permit;", .methodLink RX2 130 yX1_isFor, .instanceMethod yX1_isFor, .selects RX1 yX1_isFor yX1_isFor, .initialized RX1, .code yX1_isFor cX1_isFor 2 (some .boolean), .fieldLink RX1 13 "CranePermits$Permit" "crane" "LCranePermits$Crane;", .fieldLink RX1 32 "CranePermits$Crane" "number" "I"] ++ wsX20 ++ wsX10 ++ wsX00)
def wsX2_validOfStreet : List Cond := .code yX2_validOfStreet cX2_validOfStreet 6 (some .int) :: ([.fieldLink RX2 55 "CranePermits$Site" "validCount" "I", .methodLink RX2 105 yX2_validAt, .instanceMethod yX2_validAt, .selects RX2 yX2_validAt yX2_validAt, .initialized RX2, .code yX2_validAt cX2_validAt 3 (some (.object "CranePermits$Permit")), .fieldLink RX2 52 "CranePermits$Site" "valid" "[LCranePermits$Permit;", .methodLink RX2 109 yX1_isOf, .instanceMethod yX1_isOf, .selects RX1 yX1_isOf yX1_isOf, .initialized RX1, .code yX1_isOf cX1_isOf 3 (some .boolean), .fieldLink RX1 13 "CranePermits$Permit" "crane" "LCranePermits$Crane;", .fieldLink RX1 35 "CranePermits$Crane" "street" "I", .fieldLink RX1 17 "CranePermits$Permit" "night" "I"] ++ wsX20 ++ wsX10 ++ wsX00)
def wsX2_validAhead : List Cond := .code yX2_validAhead cX2_validAhead 5 (some .int) :: ([.fieldLink RX2 55 "CranePermits$Site" "validCount" "I", .methodLink RX2 105 yX2_validAt, .instanceMethod yX2_validAt, .selects RX2 yX2_validAt yX2_validAt, .initialized RX2, .code yX2_validAt cX2_validAt 3 (some (.object "CranePermits$Permit")), .fieldLink RX2 52 "CranePermits$Site" "valid" "[LCranePermits$Permit;", .methodLink RX2 134 yX1_isAheadOf, .instanceMethod yX1_isAheadOf, .selects RX1 yX1_isAheadOf yX1_isAheadOf, .initialized RX1, .code yX1_isAheadOf cX1_isAheadOf 2 (some .boolean), .fieldLink RX1 17 "CranePermits$Permit" "night" "I", .fieldLink RX1 23 "CranePermits$Permit" "first" "I", .fieldLink RX1 7 "CranePermits$Permit" "number" "I"] ++ wsX20 ++ wsX10)
def wsX2_permitsWith : List Cond := .code yX2_permitsWith cX2_permitsWith 4 (some .int) :: ([.fieldLink RX2 46 "CranePermits$Site" "permitCount" "I", .fieldLink RX2 49 "CranePermits$Site" "states" "[I", .static yX4_at, .initialized RX4, .code yX4_at cX4_at 2 (some .int)] ++ wsX20)
def wsX2_shareAir_r1 : List Cond := [Cond.fieldLink RX2 88 "CranePermits$Crane" "height" "I", Cond.fieldLink RX2 113 "CranePermits$Permit" "crane" "LCranePermits$Crane;", Cond.methodLink RX2 141 Lib.Math.abs.name, Cond.static Lib.Math.abs.name, Cond.initialized "java/lang/Math", Cond.code Lib.Math.abs.name Lib.Math.abs.code 1 (some .int), Cond.fieldLink RX2 25 "CranePermits$Site" "settings" "[I", Cond.fieldLink RX2 151 "CranePermits$Permit" "swing" "I", Cond.methodLink RX2 130 yX1_isFor, Cond.instanceMethod yX1_isFor, Cond.selects RX1 yX1_isFor yX1_isFor, Cond.initialized RX1, Cond.code yX1_isFor cX1_isFor 2 (some .boolean), Cond.fieldLink RX1 13 "CranePermits$Permit" "crane" "LCranePermits$Crane;", Cond.fieldLink RX1 32 "CranePermits$Crane" "number" "I", Cond.methodLink RX2 138 yX1_meets, Cond.instanceMethod yX1_meets, Cond.selects RX1 yX1_meets yX1_meets, Cond.code yX1_meets cX1_meets 5 (some .boolean), Cond.fieldLink RX1 26 "CranePermits$Permit" "last" "I", Cond.fieldLink RX1 23 "CranePermits$Permit" "first" "I", Cond.fieldLink RX1 17 "CranePermits$Permit" "night" "I", Cond.static yX4_at, Cond.initialized RX4]
def wsX2_shareAir_r2 : List Cond := [Cond.code yX4_at cX4_at 2 (some .int), Cond.methodLink RX2 147 yX0_airOf, Cond.instanceMethod yX0_airOf, Cond.selects RX0 yX0_airOf yX0_airOf, Cond.initialized RX0, Cond.code yX0_airOf cX0_airOf 8 (some .long), Cond.fieldLink RX0 9 "CranePermits$Crane" "eighths" "[J"]
def wsX2_shareAir : List Cond := .code yX2_shareAir cX2_shareAir 8 (some .boolean) :: ((wsX2_shareAir_r1 ++ wsX2_shareAir_r2) ++ wsX00 ++ wsX10 ++ wsX20)
def wsX2_lowestSharing_r1 : List Cond := [Cond.fieldLink RX2 55 "CranePermits$Site" "validCount" "I", Cond.fieldLink RX2 158 "CranePermits$Permit" "number" "I", Cond.methodLink RX2 105 yX2_validAt, Cond.instanceMethod yX2_validAt, Cond.selects RX2 yX2_validAt yX2_validAt, Cond.initialized RX2, Cond.code yX2_validAt cX2_validAt 3 (some (.object "CranePermits$Permit")), Cond.fieldLink RX2 52 "CranePermits$Site" "valid" "[LCranePermits$Permit;", Cond.methodLink RX2 154 yX2_shareAir, Cond.instanceMethod yX2_shareAir, Cond.selects RX2 yX2_shareAir yX2_shareAir, Cond.code yX2_shareAir cX2_shareAir 8 (some .boolean), Cond.fieldLink RX2 88 "CranePermits$Crane" "height" "I", Cond.fieldLink RX2 113 "CranePermits$Permit" "crane" "LCranePermits$Crane;", Cond.methodLink RX2 141 Lib.Math.abs.name, Cond.static Lib.Math.abs.name, Cond.initialized "java/lang/Math", Cond.code Lib.Math.abs.name Lib.Math.abs.code 1 (some .int), Cond.fieldLink RX2 25 "CranePermits$Site" "settings" "[I", Cond.fieldLink RX2 151 "CranePermits$Permit" "swing" "I", Cond.methodLink RX2 130 yX1_isFor, Cond.instanceMethod yX1_isFor, Cond.selects RX1 yX1_isFor yX1_isFor, Cond.initialized RX1]
def wsX2_lowestSharing_r2 : List Cond := [Cond.code yX1_isFor cX1_isFor 2 (some .boolean), Cond.fieldLink RX1 13 "CranePermits$Permit" "crane" "LCranePermits$Crane;", Cond.fieldLink RX1 32 "CranePermits$Crane" "number" "I", Cond.methodLink RX2 138 yX1_meets, Cond.instanceMethod yX1_meets, Cond.selects RX1 yX1_meets yX1_meets, Cond.code yX1_meets cX1_meets 5 (some .boolean), Cond.fieldLink RX1 26 "CranePermits$Permit" "last" "I", Cond.fieldLink RX1 23 "CranePermits$Permit" "first" "I", Cond.fieldLink RX1 17 "CranePermits$Permit" "night" "I", Cond.static yX4_at, Cond.initialized RX4, Cond.code yX4_at cX4_at 2 (some .int), Cond.methodLink RX2 147 yX0_airOf, Cond.instanceMethod yX0_airOf, Cond.selects RX0 yX0_airOf yX0_airOf, Cond.initialized RX0, Cond.code yX0_airOf cX0_airOf 8 (some .long), Cond.fieldLink RX0 9 "CranePermits$Crane" "eighths" "[J"]
def wsX2_lowestSharing : List Cond := .code yX2_lowestSharing cX2_lowestSharing 7 (some .int) :: ((wsX2_lowestSharing_r1 ++ wsX2_lowestSharing_r2) ++ wsX20 ++ wsX10 ++ wsX00)
def wsX2_sharingPairs_r1 : List Cond := [Cond.fieldLink RX2 55 "CranePermits$Site" "validCount" "I", Cond.fieldLink RX2 113 "CranePermits$Permit" "crane" "LCranePermits$Crane;", Cond.fieldLink RX2 159 "CranePermits$Permit" "night" "I", Cond.fieldLink RX2 117 "CranePermits$Permit" "hours" "I", Cond.fieldLink RX2 151 "CranePermits$Permit" "swing" "I", Cond.methodLink RX2 105 yX2_validAt, Cond.instanceMethod yX2_validAt, Cond.selects RX2 yX2_validAt yX2_validAt, Cond.initialized RX2, Cond.code yX2_validAt cX2_validAt 3 (some (.object "CranePermits$Permit")), Cond.fieldLink RX2 52 "CranePermits$Site" "valid" "[LCranePermits$Permit;", Cond.methodLink RX2 154 yX2_shareAir, Cond.instanceMethod yX2_shareAir, Cond.selects RX2 yX2_shareAir yX2_shareAir, Cond.code yX2_shareAir cX2_shareAir 8 (some .boolean), Cond.fieldLink RX2 88 "CranePermits$Crane" "height" "I", Cond.methodLink RX2 141 Lib.Math.abs.name, Cond.static Lib.Math.abs.name, Cond.initialized "java/lang/Math", Cond.code Lib.Math.abs.name Lib.Math.abs.code 1 (some .int), Cond.fieldLink RX2 25 "CranePermits$Site" "settings" "[I", Cond.methodLink RX2 130 yX1_isFor, Cond.instanceMethod yX1_isFor, Cond.selects RX1 yX1_isFor yX1_isFor]
def wsX2_sharingPairs_r2 : List Cond := [Cond.initialized RX1, Cond.code yX1_isFor cX1_isFor 2 (some .boolean), Cond.fieldLink RX1 13 "CranePermits$Permit" "crane" "LCranePermits$Crane;", Cond.fieldLink RX1 32 "CranePermits$Crane" "number" "I", Cond.methodLink RX2 138 yX1_meets, Cond.instanceMethod yX1_meets, Cond.selects RX1 yX1_meets yX1_meets, Cond.code yX1_meets cX1_meets 5 (some .boolean), Cond.fieldLink RX1 26 "CranePermits$Permit" "last" "I", Cond.fieldLink RX1 23 "CranePermits$Permit" "first" "I", Cond.fieldLink RX1 17 "CranePermits$Permit" "night" "I", Cond.static yX4_at, Cond.initialized RX4, Cond.code yX4_at cX4_at 2 (some .int), Cond.methodLink RX2 147 yX0_airOf, Cond.instanceMethod yX0_airOf, Cond.selects RX0 yX0_airOf yX0_airOf, Cond.initialized RX0, Cond.code yX0_airOf cX0_airOf 8 (some .long), Cond.fieldLink RX0 9 "CranePermits$Crane" "eighths" "[J"]
def wsX2_sharingPairs : List Cond := .code yX2_sharingPairs cX2_sharingPairs 6 (some .int) :: ((wsX2_sharingPairs_r1 ++ wsX2_sharingPairs_r2) ++ wsX20 ++ wsX10 ++ wsX00)
def wsX2_isBusy : List Cond := .code yX2_isBusy cX2_isBusy 6 (some .boolean) :: ([.fieldLink RX2 55 "CranePermits$Site" "validCount" "I", .methodLink RX2 105 yX2_validAt, .instanceMethod yX2_validAt, .selects RX2 yX2_validAt yX2_validAt, .initialized RX2, .code yX2_validAt cX2_validAt 3 (some (.object "CranePermits$Permit")), .fieldLink RX2 52 "CranePermits$Site" "valid" "[LCranePermits$Permit;", .methodLink RX2 130 yX1_isFor, .instanceMethod yX1_isFor, .selects RX1 yX1_isFor yX1_isFor, .initialized RX1, .code yX1_isFor cX1_isFor 2 (some .boolean), .fieldLink RX1 13 "CranePermits$Permit" "crane" "LCranePermits$Crane;", .fieldLink RX1 32 "CranePermits$Crane" "number" "I", .methodLink RX2 138 yX1_meets, .instanceMethod yX1_meets, .selects RX1 yX1_meets yX1_meets, .code yX1_meets cX1_meets 5 (some .boolean), .fieldLink RX1 26 "CranePermits$Permit" "last" "I", .fieldLink RX1 23 "CranePermits$Permit" "first" "I", .fieldLink RX1 17 "CranePermits$Permit" "night" "I"] ++ wsX20 ++ wsX10 ++ wsX00)
def wsX2_refusalOf_r1 : List Cond := [Cond.fieldLink RX2 174 "CranePermits$Crane" "street" "I", Cond.methodLink RX2 162 yX2_isBusy, Cond.instanceMethod yX2_isBusy, Cond.selects RX2 yX2_isBusy yX2_isBusy, Cond.initialized RX2, Cond.code yX2_isBusy cX2_isBusy 6 (some .boolean), Cond.fieldLink RX2 55 "CranePermits$Site" "validCount" "I", Cond.methodLink RX2 105 yX2_validAt, Cond.instanceMethod yX2_validAt, Cond.selects RX2 yX2_validAt yX2_validAt, Cond.code yX2_validAt cX2_validAt 3 (some (.object "CranePermits$Permit")), Cond.fieldLink RX2 52 "CranePermits$Site" "valid" "[LCranePermits$Permit;", Cond.methodLink RX2 130 yX1_isFor, Cond.instanceMethod yX1_isFor, Cond.selects RX1 yX1_isFor yX1_isFor, Cond.initialized RX1, Cond.code yX1_isFor cX1_isFor 2 (some .boolean), Cond.fieldLink RX1 13 "CranePermits$Permit" "crane" "LCranePermits$Crane;", Cond.fieldLink RX1 32 "CranePermits$Crane" "number" "I", Cond.methodLink RX2 138 yX1_meets, Cond.instanceMethod yX1_meets, Cond.selects RX1 yX1_meets yX1_meets, Cond.code yX1_meets cX1_meets 5 (some .boolean), Cond.fieldLink RX1 26 "CranePermits$Permit" "last" "I"]
def wsX2_refusalOf_r2 : List Cond := [Cond.fieldLink RX1 23 "CranePermits$Permit" "first" "I", Cond.fieldLink RX1 17 "CranePermits$Permit" "night" "I", Cond.methodLink RX2 166 yX2_mustStop, Cond.instanceMethod yX2_mustStop, Cond.selects RX2 yX2_mustStop yX2_mustStop, Cond.code yX2_mustStop cX2_mustStop 3 (some .boolean), Cond.fieldLink RX2 28 "CranePermits$Site" "winds" "[I", Cond.static yX4_at, Cond.initialized RX4, Cond.code yX4_at cX4_at 2 (some .int), Cond.methodLink RX2 91 yX2_stopWindOf, Cond.instanceMethod yX2_stopWindOf, Cond.selects RX2 yX2_stopWindOf yX2_stopWindOf, Cond.code yX2_stopWindOf cX2_stopWindOf 2 (some .int), Cond.fieldLink RX2 25 "CranePermits$Site" "settings" "[I", Cond.fieldLink RX2 88 "CranePermits$Crane" "height" "I", Cond.methodLink RX2 170 yX2_lowestSharing, Cond.instanceMethod yX2_lowestSharing, Cond.selects RX2 yX2_lowestSharing yX2_lowestSharing, Cond.code yX2_lowestSharing cX2_lowestSharing 7 (some .int), Cond.fieldLink RX2 158 "CranePermits$Permit" "number" "I", Cond.methodLink RX2 154 yX2_shareAir, Cond.instanceMethod yX2_shareAir, Cond.selects RX2 yX2_shareAir yX2_shareAir]
def wsX2_refusalOf_r3 : List Cond := [Cond.code yX2_shareAir cX2_shareAir 8 (some .boolean), Cond.fieldLink RX2 113 "CranePermits$Permit" "crane" "LCranePermits$Crane;", Cond.methodLink RX2 141 Lib.Math.abs.name, Cond.static Lib.Math.abs.name, Cond.initialized "java/lang/Math", Cond.code Lib.Math.abs.name Lib.Math.abs.code 1 (some .int), Cond.fieldLink RX2 151 "CranePermits$Permit" "swing" "I", Cond.methodLink RX2 147 yX0_airOf, Cond.instanceMethod yX0_airOf, Cond.selects RX0 yX0_airOf yX0_airOf, Cond.initialized RX0, Cond.code yX0_airOf cX0_airOf 8 (some .long), Cond.fieldLink RX0 9 "CranePermits$Crane" "eighths" "[J", Cond.methodLink RX2 127 yX2_usedOf, Cond.instanceMethod yX2_usedOf, Cond.selects RX2 yX2_usedOf yX2_usedOf, Cond.code yX2_usedOf cX2_usedOf 6 (some .int), Cond.fieldLink RX2 117 "CranePermits$Permit" "hours" "I", Cond.methodLink RX2 109 yX1_isOf, Cond.instanceMethod yX1_isOf, Cond.selects RX1 yX1_isOf yX1_isOf, Cond.code yX1_isOf cX1_isOf 3 (some .boolean), Cond.fieldLink RX1 35 "CranePermits$Crane" "street" "I", Cond.methodLink RX2 120 yX2_useOf]
def wsX2_refusalOf_r4 : List Cond := [Cond.instanceMethod yX2_useOf, Cond.selects RX2 yX2_useOf yX2_useOf, Cond.code yX2_useOf cX2_useOf 3 (some .int), Cond.fieldLink RX2 21 "CranePermits$Site" "noises" "[I", Cond.fieldLink RX2 102 "CranePermits$Crane" "number" "I", Cond.methodLink RX2 124 yX2_creditsOf, Cond.instanceMethod yX2_creditsOf, Cond.selects RX2 yX2_creditsOf yX2_creditsOf, Cond.code yX2_creditsOf cX2_creditsOf 4 (some .int), Cond.fieldLink RX2 34 "CranePermits$Site" "received" "[I", Cond.fieldLink RX2 37 "CranePermits$Site" "given" "[I", Cond.static yX4_streetNight, Cond.code yX4_streetNight cX4_streetNight 2 (some .int), Cond.methodLink RX2 99 yX2_allowanceOf, Cond.instanceMethod yX2_allowanceOf, Cond.selects RX2 yX2_allowanceOf yX2_allowanceOf, Cond.code yX2_allowanceOf cX2_allowanceOf 4 (some .int), Cond.fieldLink RX2 31 "CranePermits$Site" "allowances" "[I"]
def wsX2_refusalOf : List Cond := .code yX2_refusalOf cX2_refusalOf 6 (some .int) :: ((wsX2_refusalOf_r1 ++ (wsX2_refusalOf_r2 ++ (wsX2_refusalOf_r3 ++ wsX2_refusalOf_r4))) ++ wsX00 ++ wsX20 ++ wsX10)
def wsX2_hasRoom : List Cond := .code yX2_hasRoom cX2_hasRoom 1 (some .boolean) :: ([.fieldLink RX2 55 "CranePermits$Site" "validCount" "I", .fieldLink RX2 46 "CranePermits$Site" "permitCount" "I"] ++ wsX20)
def wsX2_grant : List Cond := .code yX2_grant cX2_grant 2 none :: ([.fieldLink RX2 55 "CranePermits$Site" "validCount" "I", .fieldLink RX2 52 "CranePermits$Site" "valid" "[LCranePermits$Permit;", .fieldLink RX2 46 "CranePermits$Site" "permitCount" "I", .fieldLink RX2 42 "CranePermits$Site" "permits" "[LCranePermits$Permit;", .fieldLink RX2 49 "CranePermits$Site" "states" "[I", .static yX4_put, .initialized RX4, .code yX4_put cX4_put 3 none] ++ wsX20)
def wsX2_end : List Cond := .code yX2_end cX2_end 6 none :: ([.fieldLink RX2 49 "CranePermits$Site" "states" "[I", .fieldLink RX2 158 "CranePermits$Permit" "number" "I", .fieldLink RX2 55 "CranePermits$Site" "validCount" "I", .fieldLink RX2 52 "CranePermits$Site" "valid" "[LCranePermits$Permit;", .static yX4_put, .initialized RX4, .code yX4_put cX4_put 3 none, .methodLink RX2 105 yX2_validAt, .instanceMethod yX2_validAt, .selects RX2 yX2_validAt yX2_validAt, .initialized RX2, .code yX2_validAt cX2_validAt 3 (some (.object "CranePermits$Permit"))] ++ wsX20 ++ wsX10)
def wsX2_withdrawFailing_r1 : List Cond := [Cond.fieldLink RX2 55 "CranePermits$Site" "validCount" "I", Cond.fieldLink RX2 113 "CranePermits$Permit" "crane" "LCranePermits$Crane;", Cond.fieldLink RX2 159 "CranePermits$Permit" "night" "I", Cond.fieldLink RX2 174 "CranePermits$Crane" "street" "I", Cond.methodLink RX2 105 yX2_validAt, Cond.instanceMethod yX2_validAt, Cond.selects RX2 yX2_validAt yX2_validAt, Cond.initialized RX2, Cond.code yX2_validAt cX2_validAt 3 (some (.object "CranePermits$Permit")), Cond.fieldLink RX2 52 "CranePermits$Site" "valid" "[LCranePermits$Permit;", Cond.methodLink RX2 166 yX2_mustStop, Cond.instanceMethod yX2_mustStop, Cond.selects RX2 yX2_mustStop yX2_mustStop, Cond.code yX2_mustStop cX2_mustStop 3 (some .boolean), Cond.fieldLink RX2 28 "CranePermits$Site" "winds" "[I", Cond.static yX4_at, Cond.initialized RX4, Cond.code yX4_at cX4_at 2 (some .int), Cond.methodLink RX2 91 yX2_stopWindOf, Cond.instanceMethod yX2_stopWindOf, Cond.selects RX2 yX2_stopWindOf yX2_stopWindOf, Cond.code yX2_stopWindOf cX2_stopWindOf 2 (some .int), Cond.fieldLink RX2 25 "CranePermits$Site" "settings" "[I", Cond.fieldLink RX2 88 "CranePermits$Crane" "height" "I"]
def wsX2_withdrawFailing_r2 : List Cond := [Cond.methodLink RX2 177 yX2_freeOf, Cond.instanceMethod yX2_freeOf, Cond.selects RX2 yX2_freeOf yX2_freeOf, Cond.code yX2_freeOf cX2_freeOf 3 (some .int), Cond.methodLink RX2 124 yX2_creditsOf, Cond.instanceMethod yX2_creditsOf, Cond.selects RX2 yX2_creditsOf yX2_creditsOf, Cond.code yX2_creditsOf cX2_creditsOf 4 (some .int), Cond.fieldLink RX2 34 "CranePermits$Site" "received" "[I", Cond.fieldLink RX2 37 "CranePermits$Site" "given" "[I", Cond.static yX4_streetNight, Cond.code yX4_streetNight cX4_streetNight 2 (some .int), Cond.methodLink RX2 99 yX2_allowanceOf, Cond.instanceMethod yX2_allowanceOf, Cond.selects RX2 yX2_allowanceOf yX2_allowanceOf, Cond.code yX2_allowanceOf cX2_allowanceOf 4 (some .int), Cond.fieldLink RX2 31 "CranePermits$Site" "allowances" "[I", Cond.methodLink RX2 127 yX2_usedOf, Cond.instanceMethod yX2_usedOf, Cond.selects RX2 yX2_usedOf yX2_usedOf, Cond.code yX2_usedOf cX2_usedOf 6 (some .int), Cond.fieldLink RX2 117 "CranePermits$Permit" "hours" "I", Cond.methodLink RX2 109 yX1_isOf, Cond.instanceMethod yX1_isOf]
def wsX2_withdrawFailing_r3 : List Cond := [Cond.selects RX1 yX1_isOf yX1_isOf, Cond.initialized RX1, Cond.code yX1_isOf cX1_isOf 3 (some .boolean), Cond.fieldLink RX1 13 "CranePermits$Permit" "crane" "LCranePermits$Crane;", Cond.fieldLink RX1 35 "CranePermits$Crane" "street" "I", Cond.fieldLink RX1 17 "CranePermits$Permit" "night" "I", Cond.methodLink RX2 120 yX2_useOf, Cond.instanceMethod yX2_useOf, Cond.selects RX2 yX2_useOf yX2_useOf, Cond.code yX2_useOf cX2_useOf 3 (some .int), Cond.fieldLink RX2 21 "CranePermits$Site" "noises" "[I", Cond.fieldLink RX2 102 "CranePermits$Crane" "number" "I", Cond.methodLink RX2 180 yX2_end, Cond.instanceMethod yX2_end, Cond.selects RX2 yX2_end yX2_end, Cond.code yX2_end cX2_end 6 none, Cond.fieldLink RX2 49 "CranePermits$Site" "states" "[I", Cond.fieldLink RX2 158 "CranePermits$Permit" "number" "I", Cond.static yX4_put, Cond.code yX4_put cX4_put 3 none]
def wsX2_withdrawFailing : List Cond := .code yX2_withdrawFailing cX2_withdrawFailing 4 (some .int) :: ((wsX2_withdrawFailing_r1 ++ (wsX2_withdrawFailing_r2 ++ wsX2_withdrawFailing_r3)) ++ wsX20 ++ wsX10 ++ wsX00)
def wsX3_init : List Cond := .code yX3_init cX3_init 1 none :: ([.methodLink RX3 3 objectInit, .instanceMethod objectInit, .code objectInit ⟨#[0xb1]⟩ 1 none, .arrayClass .char, .fieldLink RX3 9 "CranePermits$Text" "signs" "[C", .fieldLink RX3 15 "CranePermits$Text" "length" "I", .fieldLink RX3 19 "CranePermits$Text" "start" "I", .fieldLink RX3 22 "CranePermits$Text" "next" "I", .fieldLink RX3 25 "CranePermits$Text" "formed" "Z", .fieldLink RX3 29 "CranePermits$Text" "crane" "I", .fieldLink RX3 32 "CranePermits$Text" "night" "I", .fieldLink RX3 35 "CranePermits$Text" "hours" "I", .fieldLink RX3 38 "CranePermits$Text" "swing" "I"] ++ wsX30)
def wsX4_init_r1 : List Cond := [Cond.methodLink RX4 1 objectInit, Cond.instanceMethod objectInit, Cond.code objectInit ⟨#[0xb1]⟩ 1 none, Cond.classLink RX4 7 RX2, Cond.instantiable RX2 13, Cond.initialized RX2, Cond.fieldLink RX4 10 "CranePermits" "now" "LCranePermits$Site;", Cond.fieldLink RX4 16 "CranePermits" "trial" "LCranePermits$Site;", Cond.fieldLink RX4 19 "CranePermits" "past" "[LCranePermits$Site;", Cond.fieldLink RX4 23 "CranePermits" "pastCount" "I", Cond.classLink RX4 27 RX3, Cond.instantiable RX3 9, Cond.initialized RX3, Cond.fieldLink RX4 30 "CranePermits" "text" "LCranePermits$Text;", Cond.methodLink RX4 9 yX2_init, Cond.instanceMethod yX2_init, Cond.code yX2_init cX2_init 1 none, Cond.methodLink RX2 3 objectInit, Cond.classLink RX2 9 RX0, Cond.fieldLink RX2 11 "CranePermits$Site" "cranes" "[LCranePermits$Crane;", Cond.fieldLink RX2 17 "CranePermits$Site" "craneCount" "I", Cond.arrayClass .int, Cond.fieldLink RX2 21 "CranePermits$Site" "noises" "[I", Cond.fieldLink RX2 25 "CranePermits$Site" "settings" "[I"]
def wsX4_init_r2 : List Cond := [Cond.fieldLink RX2 28 "CranePermits$Site" "winds" "[I", Cond.fieldLink RX2 31 "CranePermits$Site" "allowances" "[I", Cond.fieldLink RX2 34 "CranePermits$Site" "received" "[I", Cond.fieldLink RX2 37 "CranePermits$Site" "given" "[I", Cond.classLink RX2 40 RX1, Cond.fieldLink RX2 42 "CranePermits$Site" "permits" "[LCranePermits$Permit;", Cond.fieldLink RX2 46 "CranePermits$Site" "permitCount" "I", Cond.fieldLink RX2 49 "CranePermits$Site" "states" "[I", Cond.fieldLink RX2 52 "CranePermits$Site" "valid" "[LCranePermits$Permit;", Cond.fieldLink RX2 55 "CranePermits$Site" "validCount" "I", Cond.methodLink RX2 58 yJ7_fill_53178, Cond.static yJ7_fill_53178, Cond.initialized RJ7, Cond.code yJ7_fill_53178 cJ7_fill_53178 4 none, Cond.instanceMethod yX3_init, Cond.code yX3_init cX3_init 1 none, Cond.methodLink RX3 3 objectInit, Cond.arrayClass .char, Cond.fieldLink RX3 9 "CranePermits$Text" "signs" "[C", Cond.fieldLink RX3 15 "CranePermits$Text" "length" "I", Cond.fieldLink RX3 19 "CranePermits$Text" "start" "I", Cond.fieldLink RX3 22 "CranePermits$Text" "next" "I", Cond.fieldLink RX3 25 "CranePermits$Text" "formed" "Z", Cond.fieldLink RX3 29 "CranePermits$Text" "crane" "I"]
def wsX4_init_r3 : List Cond := [Cond.fieldLink RX3 32 "CranePermits$Text" "night" "I", Cond.fieldLink RX3 35 "CranePermits$Text" "hours" "I", Cond.fieldLink RX3 38 "CranePermits$Text" "swing" "I"]
def wsX4_init : List Cond := .code yX4_init cX4_init 2 none :: ((wsX4_init_r1 ++ (wsX4_init_r2 ++ wsX4_init_r3)) ++ wsX20 ++ wsX40 ++ wsX30)
def wsX4_isIn : List Cond := .code yX4_isIn cX4_isIn 3 (some .boolean) :: ([])
def wsX4_isCell : List Cond := .code yX4_isCell cX4_isCell 2 (some .boolean) :: ([.methodLink RX4 38 yX4_isIn, .static yX4_isIn, .initialized RX4, .code yX4_isIn cX4_isIn 3 (some .boolean)])
def wsX4_isStreet : List Cond := .code yX4_isStreet cX4_isStreet 1 (some .boolean) :: ([.methodLink RX4 38 yX4_isIn, .static yX4_isIn, .initialized RX4, .code yX4_isIn cX4_isIn 3 (some .boolean)])
def wsX4_pastAt : List Cond := .code yX4_pastAt cX4_pastAt 2 (some (.object "CranePermits$Site")) :: ([.fieldLink RX4 19 "CranePermits" "past" "[LCranePermits$Site;"] ++ wsX40)
def wsX4_dropOldest : List Cond := .code yX4_dropOldest cX4_dropOldest 3 none :: ([.fieldLink RX4 19 "CranePermits" "past" "[LCranePermits$Site;", .fieldLink RX4 23 "CranePermits" "pastCount" "I", .methodLink RX4 171 yX4_pastAt, .instanceMethod yX4_pastAt, .selects RX4 yX4_pastAt yX4_pastAt, .initialized RX4, .code yX4_pastAt cX4_pastAt 2 (some (.object "CranePermits$Site"))] ++ wsX40)
def wsX4_remember_r1 : List Cond := [Cond.fieldLink RX4 23 "CranePermits" "pastCount" "I", Cond.fieldLink RX4 19 "CranePermits" "past" "[LCranePermits$Site;", Cond.fieldLink RX4 10 "CranePermits" "now" "LCranePermits$Site;", Cond.methodLink RX4 265 yX4_dropOldest, Cond.instanceMethod yX4_dropOldest, Cond.selects RX4 yX4_dropOldest yX4_dropOldest, Cond.initialized RX4, Cond.code yX4_dropOldest cX4_dropOldest 3 none, Cond.methodLink RX4 171 yX4_pastAt, Cond.instanceMethod yX4_pastAt, Cond.selects RX4 yX4_pastAt yX4_pastAt, Cond.code yX4_pastAt cX4_pastAt 2 (some (.object "CranePermits$Site")), Cond.methodLink RX4 175 yX2_copyFrom, Cond.instanceMethod yX2_copyFrom, Cond.selects RX2 yX2_copyFrom yX2_copyFrom, Cond.initialized RX2, Cond.code yX2_copyFrom cX2_copyFrom 2 none, Cond.fieldLink RX2 11 "CranePermits$Site" "cranes" "[LCranePermits$Crane;", Cond.methodLink RX2 64 arraycopyName, Cond.native arraycopyName, Cond.static arraycopyName, Cond.initialized "java/lang/System", Cond.fieldLink RX2 17 "CranePermits$Site" "craneCount" "I", Cond.fieldLink RX2 21 "CranePermits$Site" "noises" "[I"]
def wsX4_remember_r2 : List Cond := [Cond.fieldLink RX2 25 "CranePermits$Site" "settings" "[I", Cond.fieldLink RX2 28 "CranePermits$Site" "winds" "[I", Cond.fieldLink RX2 31 "CranePermits$Site" "allowances" "[I", Cond.fieldLink RX2 34 "CranePermits$Site" "received" "[I", Cond.fieldLink RX2 37 "CranePermits$Site" "given" "[I", Cond.fieldLink RX2 42 "CranePermits$Site" "permits" "[LCranePermits$Permit;", Cond.fieldLink RX2 46 "CranePermits$Site" "permitCount" "I", Cond.fieldLink RX2 49 "CranePermits$Site" "states" "[I", Cond.fieldLink RX2 52 "CranePermits$Site" "valid" "[LCranePermits$Permit;", Cond.fieldLink RX2 55 "CranePermits$Site" "validCount" "I"]
def wsX4_remember : List Cond := .code yX4_remember cX4_remember 2 none :: ((wsX4_remember_r1 ++ wsX4_remember_r2) ++ wsX40 ++ wsX20)
def wsX4_crane_r1 : List Cond := [Cond.fieldLink RX4 10 "CranePermits" "now" "LCranePermits$Site;", Cond.fieldLink RX4 49 "CranePermits$Site" "craneCount" "I", Cond.classLink RX4 55 RX0, Cond.instantiable RX0 7, Cond.initialized RX0, Cond.fieldLink RX4 64 "CranePermits$Crane" "number" "I", Cond.methodLink RX4 34 yX4_isCell, Cond.static yX4_isCell, Cond.initialized RX4, Cond.code yX4_isCell cX4_isCell 2 (some .boolean), Cond.methodLink RX4 38 yX4_isIn, Cond.static yX4_isIn, Cond.code yX4_isIn cX4_isIn 3 (some .boolean), Cond.methodLink RX4 42 yX4_isStreet, Cond.static yX4_isStreet, Cond.code yX4_isStreet cX4_isStreet 1 (some .boolean), Cond.methodLink RX4 46 yX2_hasCraneIn, Cond.instanceMethod yX2_hasCraneIn, Cond.selects RX2 yX2_hasCraneIn yX2_hasCraneIn, Cond.initialized RX2, Cond.code yX2_hasCraneIn cX2_hasCraneIn 5 (some .boolean), Cond.fieldLink RX2 17 "CranePermits$Site" "craneCount" "I", Cond.fieldLink RX2 74 "CranePermits$Crane" "x" "I", Cond.fieldLink RX2 77 "CranePermits$Crane" "y" "I"]
def wsX4_crane_r2 : List Cond := [Cond.methodLink RX2 70 yX2_craneAt, Cond.instanceMethod yX2_craneAt, Cond.selects RX2 yX2_craneAt yX2_craneAt, Cond.code yX2_craneAt cX2_craneAt 3 (some (.object "CranePermits$Crane")), Cond.fieldLink RX2 11 "CranePermits$Site" "cranes" "[LCranePermits$Crane;", Cond.methodLink RX4 52 yX4_remember, Cond.instanceMethod yX4_remember, Cond.selects RX4 yX4_remember yX4_remember, Cond.code yX4_remember cX4_remember 2 none, Cond.fieldLink RX4 23 "CranePermits" "pastCount" "I", Cond.fieldLink RX4 19 "CranePermits" "past" "[LCranePermits$Site;", Cond.methodLink RX4 265 yX4_dropOldest, Cond.instanceMethod yX4_dropOldest, Cond.selects RX4 yX4_dropOldest yX4_dropOldest, Cond.code yX4_dropOldest cX4_dropOldest 3 none, Cond.methodLink RX4 171 yX4_pastAt, Cond.instanceMethod yX4_pastAt, Cond.selects RX4 yX4_pastAt yX4_pastAt, Cond.code yX4_pastAt cX4_pastAt 2 (some (.object "CranePermits$Site")), Cond.methodLink RX4 175 yX2_copyFrom, Cond.instanceMethod yX2_copyFrom, Cond.selects RX2 yX2_copyFrom yX2_copyFrom, Cond.code yX2_copyFrom cX2_copyFrom 2 none, Cond.methodLink RX2 64 arraycopyName]
def wsX4_crane_r3 : List Cond := [Cond.native arraycopyName, Cond.static arraycopyName, Cond.initialized "java/lang/System", Cond.fieldLink RX2 21 "CranePermits$Site" "noises" "[I", Cond.fieldLink RX2 25 "CranePermits$Site" "settings" "[I", Cond.fieldLink RX2 28 "CranePermits$Site" "winds" "[I", Cond.fieldLink RX2 31 "CranePermits$Site" "allowances" "[I", Cond.fieldLink RX2 34 "CranePermits$Site" "received" "[I", Cond.fieldLink RX2 37 "CranePermits$Site" "given" "[I", Cond.fieldLink RX2 42 "CranePermits$Site" "permits" "[LCranePermits$Permit;", Cond.fieldLink RX2 46 "CranePermits$Site" "permitCount" "I", Cond.fieldLink RX2 49 "CranePermits$Site" "states" "[I", Cond.fieldLink RX2 52 "CranePermits$Site" "valid" "[LCranePermits$Permit;", Cond.fieldLink RX2 55 "CranePermits$Site" "validCount" "I", Cond.methodLink RX4 57 yX0_init, Cond.instanceMethod yX0_init, Cond.code yX0_init cX0_init 10 none, Cond.methodLink RX0 3 objectInit, Cond.instanceMethod objectInit, Cond.code objectInit ⟨#[0xb1]⟩ 1 none, Cond.arrayClass .long, Cond.fieldLink RX0 9 "CranePermits$Crane" "eighths" "[J", Cond.fieldLink RX0 15 "CranePermits$Crane" "number" "I", Cond.fieldLink RX0 19 "CranePermits$Crane" "x" "I"]
def wsX4_crane_r4 : List Cond := [Cond.fieldLink RX0 22 "CranePermits$Crane" "y" "I", Cond.fieldLink RX0 25 "CranePermits$Crane" "reach" "I", Cond.fieldLink RX0 28 "CranePermits$Crane" "height" "I", Cond.fieldLink RX0 31 "CranePermits$Crane" "street" "I", Cond.methodLink RX0 34 yX0_markOwnCell, Cond.instanceMethod yX0_markOwnCell, Cond.selects RX0 yX0_markOwnCell yX0_markOwnCell, Cond.code yX0_markOwnCell cX0_markOwnCell 3 none, Cond.methodLink RX0 42 yX0_mark, Cond.instanceMethod yX0_mark, Cond.selects RX0 yX0_mark yX0_mark, Cond.code yX0_mark cX0_mark 4 none, Cond.methodLink RX0 38 yX0_directionOf, Cond.static yX0_directionOf, Cond.code yX0_directionOf cX0_directionOf 2 (some .int), Cond.methodLink RX4 60 yX2_addCrane, Cond.instanceMethod yX2_addCrane, Cond.selects RX2 yX2_addCrane yX2_addCrane, Cond.code yX2_addCrane cX2_addCrane 3 none, Cond.static yX4_put, Cond.code yX4_put cX4_put 3 none]
def wsX4_crane : List Cond := .code yX4_crane cX4_crane 8 (some .int) :: ((wsX4_crane_r1 ++ (wsX4_crane_r2 ++ (wsX4_crane_r3 ++ wsX4_crane_r4))) ++ wsX40 ++ wsX20 ++ wsX00)
def wsX4_noise_r1 : List Cond := [Cond.fieldLink RX4 10 "CranePermits" "now" "LCranePermits$Site;", Cond.fieldLink RX4 71 "CranePermits$Site" "noises" "[I", Cond.fieldLink RX4 64 "CranePermits$Crane" "number" "I", Cond.methodLink RX4 67 yX2_craneAt, Cond.instanceMethod yX2_craneAt, Cond.selects RX2 yX2_craneAt yX2_craneAt, Cond.initialized RX2, Cond.code yX2_craneAt cX2_craneAt 3 (some (.object "CranePermits$Crane")), Cond.fieldLink RX2 17 "CranePermits$Site" "craneCount" "I", Cond.fieldLink RX2 11 "CranePermits$Site" "cranes" "[LCranePermits$Crane;", Cond.methodLink RX4 38 yX4_isIn, Cond.static yX4_isIn, Cond.initialized RX4, Cond.code yX4_isIn cX4_isIn 3 (some .boolean), Cond.methodLink RX4 52 yX4_remember, Cond.instanceMethod yX4_remember, Cond.selects RX4 yX4_remember yX4_remember, Cond.code yX4_remember cX4_remember 2 none, Cond.fieldLink RX4 23 "CranePermits" "pastCount" "I", Cond.fieldLink RX4 19 "CranePermits" "past" "[LCranePermits$Site;", Cond.methodLink RX4 265 yX4_dropOldest, Cond.instanceMethod yX4_dropOldest, Cond.selects RX4 yX4_dropOldest yX4_dropOldest, Cond.code yX4_dropOldest cX4_dropOldest 3 none]
def wsX4_noise_r2 : List Cond := [Cond.methodLink RX4 171 yX4_pastAt, Cond.instanceMethod yX4_pastAt, Cond.selects RX4 yX4_pastAt yX4_pastAt, Cond.code yX4_pastAt cX4_pastAt 2 (some (.object "CranePermits$Site")), Cond.methodLink RX4 175 yX2_copyFrom, Cond.instanceMethod yX2_copyFrom, Cond.selects RX2 yX2_copyFrom yX2_copyFrom, Cond.code yX2_copyFrom cX2_copyFrom 2 none, Cond.methodLink RX2 64 arraycopyName, Cond.native arraycopyName, Cond.static arraycopyName, Cond.initialized "java/lang/System", Cond.fieldLink RX2 21 "CranePermits$Site" "noises" "[I", Cond.fieldLink RX2 25 "CranePermits$Site" "settings" "[I", Cond.fieldLink RX2 28 "CranePermits$Site" "winds" "[I", Cond.fieldLink RX2 31 "CranePermits$Site" "allowances" "[I", Cond.fieldLink RX2 34 "CranePermits$Site" "received" "[I", Cond.fieldLink RX2 37 "CranePermits$Site" "given" "[I", Cond.fieldLink RX2 42 "CranePermits$Site" "permits" "[LCranePermits$Permit;", Cond.fieldLink RX2 46 "CranePermits$Site" "permitCount" "I", Cond.fieldLink RX2 49 "CranePermits$Site" "states" "[I", Cond.fieldLink RX2 52 "CranePermits$Site" "valid" "[LCranePermits$Permit;", Cond.fieldLink RX2 55 "CranePermits$Site" "validCount" "I", Cond.methodLink RX4 75 yX4_put]
def wsX4_noise_r3 : List Cond := [Cond.static yX4_put, Cond.code yX4_put cX4_put 3 none, Cond.methodLink RX4 79 yX2_withdrawFailing, Cond.instanceMethod yX2_withdrawFailing, Cond.selects RX2 yX2_withdrawFailing yX2_withdrawFailing, Cond.code yX2_withdrawFailing cX2_withdrawFailing 4 (some .int), Cond.fieldLink RX2 113 "CranePermits$Permit" "crane" "LCranePermits$Crane;", Cond.fieldLink RX2 159 "CranePermits$Permit" "night" "I", Cond.fieldLink RX2 174 "CranePermits$Crane" "street" "I", Cond.methodLink RX2 105 yX2_validAt, Cond.instanceMethod yX2_validAt, Cond.selects RX2 yX2_validAt yX2_validAt, Cond.code yX2_validAt cX2_validAt 3 (some (.object "CranePermits$Permit")), Cond.methodLink RX2 166 yX2_mustStop, Cond.instanceMethod yX2_mustStop, Cond.selects RX2 yX2_mustStop yX2_mustStop, Cond.code yX2_mustStop cX2_mustStop 3 (some .boolean), Cond.static yX4_at, Cond.code yX4_at cX4_at 2 (some .int), Cond.methodLink RX2 91 yX2_stopWindOf, Cond.instanceMethod yX2_stopWindOf, Cond.selects RX2 yX2_stopWindOf yX2_stopWindOf, Cond.code yX2_stopWindOf cX2_stopWindOf 2 (some .int), Cond.fieldLink RX2 88 "CranePermits$Crane" "height" "I"]
def wsX4_noise_r4 : List Cond := [Cond.methodLink RX2 177 yX2_freeOf, Cond.instanceMethod yX2_freeOf, Cond.selects RX2 yX2_freeOf yX2_freeOf, Cond.code yX2_freeOf cX2_freeOf 3 (some .int), Cond.methodLink RX2 124 yX2_creditsOf, Cond.instanceMethod yX2_creditsOf, Cond.selects RX2 yX2_creditsOf yX2_creditsOf, Cond.code yX2_creditsOf cX2_creditsOf 4 (some .int), Cond.static yX4_streetNight, Cond.code yX4_streetNight cX4_streetNight 2 (some .int), Cond.methodLink RX2 99 yX2_allowanceOf, Cond.instanceMethod yX2_allowanceOf, Cond.selects RX2 yX2_allowanceOf yX2_allowanceOf, Cond.code yX2_allowanceOf cX2_allowanceOf 4 (some .int), Cond.methodLink RX2 127 yX2_usedOf, Cond.instanceMethod yX2_usedOf, Cond.selects RX2 yX2_usedOf yX2_usedOf, Cond.code yX2_usedOf cX2_usedOf 6 (some .int), Cond.fieldLink RX2 117 "CranePermits$Permit" "hours" "I", Cond.methodLink RX2 109 yX1_isOf, Cond.instanceMethod yX1_isOf, Cond.selects RX1 yX1_isOf yX1_isOf, Cond.initialized RX1, Cond.code yX1_isOf cX1_isOf 3 (some .boolean)]
def wsX4_noise_r5 : List Cond := [Cond.fieldLink RX1 13 "CranePermits$Permit" "crane" "LCranePermits$Crane;", Cond.fieldLink RX1 35 "CranePermits$Crane" "street" "I", Cond.fieldLink RX1 17 "CranePermits$Permit" "night" "I", Cond.methodLink RX2 120 yX2_useOf, Cond.instanceMethod yX2_useOf, Cond.selects RX2 yX2_useOf yX2_useOf, Cond.code yX2_useOf cX2_useOf 3 (some .int), Cond.fieldLink RX2 102 "CranePermits$Crane" "number" "I", Cond.methodLink RX2 180 yX2_end, Cond.instanceMethod yX2_end, Cond.selects RX2 yX2_end yX2_end, Cond.code yX2_end cX2_end 6 none, Cond.fieldLink RX2 158 "CranePermits$Permit" "number" "I"]
def wsX4_noise : List Cond := .code yX4_noise cX4_noise 4 (some .int) :: ((wsX4_noise_r1 ++ (wsX4_noise_r2 ++ (wsX4_noise_r3 ++ (wsX4_noise_r4 ++ wsX4_noise_r5)))) ++ wsX40 ++ wsX20 ++ wsX00 ++ wsX10)
def wsX4_craneOf_r1 : List Cond := [Cond.fieldLink RX4 10 "CranePermits" "now" "LCranePermits$Site;", Cond.fieldLink RX4 83 "CranePermits$Crane" "x" "I", Cond.fieldLink RX4 86 "CranePermits$Crane" "y" "I", Cond.fieldLink RX4 89 "CranePermits$Crane" "reach" "I", Cond.fieldLink RX4 92 "CranePermits$Crane" "height" "I", Cond.fieldLink RX4 95 "CranePermits$Crane" "street" "I", Cond.fieldLink RX4 71 "CranePermits$Site" "noises" "[I", Cond.fieldLink RX4 64 "CranePermits$Crane" "number" "I", Cond.methodLink RX4 67 yX2_craneAt, Cond.instanceMethod yX2_craneAt, Cond.selects RX2 yX2_craneAt yX2_craneAt, Cond.initialized RX2, Cond.code yX2_craneAt cX2_craneAt 3 (some (.object "CranePermits$Crane")), Cond.fieldLink RX2 17 "CranePermits$Site" "craneCount" "I", Cond.fieldLink RX2 11 "CranePermits$Site" "cranes" "[LCranePermits$Crane;", Cond.methodLink RX4 98 yX4_at, Cond.static yX4_at, Cond.initialized RX4, Cond.code yX4_at cX4_at 2 (some .int), Cond.methodLink RX4 102 yX2_validOfCrane, Cond.instanceMethod yX2_validOfCrane, Cond.selects RX2 yX2_validOfCrane yX2_validOfCrane, Cond.code yX2_validOfCrane cX2_validOfCrane 5 (some .int), Cond.fieldLink RX2 55 "CranePermits$Site" "validCount" "I"]
def wsX4_craneOf_r2 : List Cond := [Cond.methodLink RX2 105 yX2_validAt, Cond.instanceMethod yX2_validAt, Cond.selects RX2 yX2_validAt yX2_validAt, Cond.code yX2_validAt cX2_validAt 3 (some (.object "CranePermits$Permit")), Cond.fieldLink RX2 52 "CranePermits$Site" "valid" "[LCranePermits$Permit;", Cond.methodLink RX2 130 yX1_isFor, Cond.instanceMethod yX1_isFor, Cond.selects RX1 yX1_isFor yX1_isFor, Cond.initialized RX1, Cond.code yX1_isFor cX1_isFor 2 (some .boolean), Cond.fieldLink RX1 13 "CranePermits$Permit" "crane" "LCranePermits$Crane;", Cond.fieldLink RX1 32 "CranePermits$Crane" "number" "I", Cond.methodLink RX4 106 yX2_stopWindOf, Cond.instanceMethod yX2_stopWindOf, Cond.selects RX2 yX2_stopWindOf yX2_stopWindOf, Cond.code yX2_stopWindOf cX2_stopWindOf 2 (some .int), Cond.fieldLink RX2 25 "CranePermits$Site" "settings" "[I", Cond.fieldLink RX2 88 "CranePermits$Crane" "height" "I"]
def wsX4_craneOf : List Cond := .code yX4_craneOf cX4_craneOf 4 (some .int) :: ((wsX4_craneOf_r1 ++ wsX4_craneOf_r2) ++ wsX40 ++ wsX00 ++ wsX20 ++ wsX10)
def wsX4_set_r1 : List Cond := [Cond.fieldLink RX4 109 "CranePermits" "SETTING_LEAST" "[I", Cond.fieldLink RX4 112 "CranePermits" "SETTING_MOST" "[I", Cond.fieldLink RX4 10 "CranePermits" "now" "LCranePermits$Site;", Cond.fieldLink RX4 115 "CranePermits$Site" "settings" "[I", Cond.methodLink RX4 38 yX4_isIn, Cond.static yX4_isIn, Cond.initialized RX4, Cond.code yX4_isIn cX4_isIn 3 (some .boolean), Cond.methodLink RX4 98 yX4_at, Cond.static yX4_at, Cond.code yX4_at cX4_at 2 (some .int), Cond.methodLink RX4 52 yX4_remember, Cond.instanceMethod yX4_remember, Cond.selects RX4 yX4_remember yX4_remember, Cond.code yX4_remember cX4_remember 2 none, Cond.fieldLink RX4 23 "CranePermits" "pastCount" "I", Cond.fieldLink RX4 19 "CranePermits" "past" "[LCranePermits$Site;", Cond.methodLink RX4 265 yX4_dropOldest, Cond.instanceMethod yX4_dropOldest, Cond.selects RX4 yX4_dropOldest yX4_dropOldest, Cond.code yX4_dropOldest cX4_dropOldest 3 none, Cond.methodLink RX4 171 yX4_pastAt, Cond.instanceMethod yX4_pastAt, Cond.selects RX4 yX4_pastAt yX4_pastAt]
def wsX4_set_r2 : List Cond := [Cond.code yX4_pastAt cX4_pastAt 2 (some (.object "CranePermits$Site")), Cond.methodLink RX4 175 yX2_copyFrom, Cond.instanceMethod yX2_copyFrom, Cond.selects RX2 yX2_copyFrom yX2_copyFrom, Cond.initialized RX2, Cond.code yX2_copyFrom cX2_copyFrom 2 none, Cond.fieldLink RX2 11 "CranePermits$Site" "cranes" "[LCranePermits$Crane;", Cond.methodLink RX2 64 arraycopyName, Cond.native arraycopyName, Cond.static arraycopyName, Cond.initialized "java/lang/System", Cond.fieldLink RX2 17 "CranePermits$Site" "craneCount" "I", Cond.fieldLink RX2 21 "CranePermits$Site" "noises" "[I", Cond.fieldLink RX2 25 "CranePermits$Site" "settings" "[I", Cond.fieldLink RX2 28 "CranePermits$Site" "winds" "[I", Cond.fieldLink RX2 31 "CranePermits$Site" "allowances" "[I", Cond.fieldLink RX2 34 "CranePermits$Site" "received" "[I", Cond.fieldLink RX2 37 "CranePermits$Site" "given" "[I", Cond.fieldLink RX2 42 "CranePermits$Site" "permits" "[LCranePermits$Permit;", Cond.fieldLink RX2 46 "CranePermits$Site" "permitCount" "I", Cond.fieldLink RX2 49 "CranePermits$Site" "states" "[I", Cond.fieldLink RX2 52 "CranePermits$Site" "valid" "[LCranePermits$Permit;", Cond.fieldLink RX2 55 "CranePermits$Site" "validCount" "I", Cond.methodLink RX4 75 yX4_put]
def wsX4_set_r3 : List Cond := [Cond.static yX4_put, Cond.code yX4_put cX4_put 3 none, Cond.methodLink RX4 79 yX2_withdrawFailing, Cond.instanceMethod yX2_withdrawFailing, Cond.selects RX2 yX2_withdrawFailing yX2_withdrawFailing, Cond.code yX2_withdrawFailing cX2_withdrawFailing 4 (some .int), Cond.fieldLink RX2 113 "CranePermits$Permit" "crane" "LCranePermits$Crane;", Cond.fieldLink RX2 159 "CranePermits$Permit" "night" "I", Cond.fieldLink RX2 174 "CranePermits$Crane" "street" "I", Cond.methodLink RX2 105 yX2_validAt, Cond.instanceMethod yX2_validAt, Cond.selects RX2 yX2_validAt yX2_validAt, Cond.code yX2_validAt cX2_validAt 3 (some (.object "CranePermits$Permit")), Cond.methodLink RX2 166 yX2_mustStop, Cond.instanceMethod yX2_mustStop, Cond.selects RX2 yX2_mustStop yX2_mustStop, Cond.code yX2_mustStop cX2_mustStop 3 (some .boolean), Cond.methodLink RX2 91 yX2_stopWindOf, Cond.instanceMethod yX2_stopWindOf, Cond.selects RX2 yX2_stopWindOf yX2_stopWindOf, Cond.code yX2_stopWindOf cX2_stopWindOf 2 (some .int), Cond.fieldLink RX2 88 "CranePermits$Crane" "height" "I", Cond.methodLink RX2 177 yX2_freeOf, Cond.instanceMethod yX2_freeOf]
def wsX4_set_r4 : List Cond := [Cond.selects RX2 yX2_freeOf yX2_freeOf, Cond.code yX2_freeOf cX2_freeOf 3 (some .int), Cond.methodLink RX2 124 yX2_creditsOf, Cond.instanceMethod yX2_creditsOf, Cond.selects RX2 yX2_creditsOf yX2_creditsOf, Cond.code yX2_creditsOf cX2_creditsOf 4 (some .int), Cond.static yX4_streetNight, Cond.code yX4_streetNight cX4_streetNight 2 (some .int), Cond.methodLink RX2 99 yX2_allowanceOf, Cond.instanceMethod yX2_allowanceOf, Cond.selects RX2 yX2_allowanceOf yX2_allowanceOf, Cond.code yX2_allowanceOf cX2_allowanceOf 4 (some .int), Cond.methodLink RX2 127 yX2_usedOf, Cond.instanceMethod yX2_usedOf, Cond.selects RX2 yX2_usedOf yX2_usedOf, Cond.code yX2_usedOf cX2_usedOf 6 (some .int), Cond.fieldLink RX2 117 "CranePermits$Permit" "hours" "I", Cond.methodLink RX2 109 yX1_isOf, Cond.instanceMethod yX1_isOf, Cond.selects RX1 yX1_isOf yX1_isOf, Cond.initialized RX1, Cond.code yX1_isOf cX1_isOf 3 (some .boolean), Cond.fieldLink RX1 13 "CranePermits$Permit" "crane" "LCranePermits$Crane;", Cond.fieldLink RX1 35 "CranePermits$Crane" "street" "I"]
def wsX4_set_r5 : List Cond := [Cond.fieldLink RX1 17 "CranePermits$Permit" "night" "I", Cond.methodLink RX2 120 yX2_useOf, Cond.instanceMethod yX2_useOf, Cond.selects RX2 yX2_useOf yX2_useOf, Cond.code yX2_useOf cX2_useOf 3 (some .int), Cond.fieldLink RX2 102 "CranePermits$Crane" "number" "I", Cond.methodLink RX2 180 yX2_end, Cond.instanceMethod yX2_end, Cond.selects RX2 yX2_end yX2_end, Cond.code yX2_end cX2_end 6 none, Cond.fieldLink RX2 158 "CranePermits$Permit" "number" "I"]
def wsX4_set : List Cond := .code yX4_set cX4_set 3 (some .int) :: ((wsX4_set_r1 ++ (wsX4_set_r2 ++ (wsX4_set_r3 ++ (wsX4_set_r4 ++ wsX4_set_r5)))) ++ wsX40 ++ wsX20 ++ wsX10 ++ wsX00)
def wsX4_isNight : List Cond := .code yX4_isNight cX4_isNight 1 (some .boolean) :: ([.methodLink RX4 38 yX4_isIn, .static yX4_isIn, .initialized RX4, .code yX4_isIn cX4_isIn 3 (some .boolean)])
def wsX4_wind_r1 : List Cond := [Cond.fieldLink RX4 10 "CranePermits" "now" "LCranePermits$Site;", Cond.fieldLink RX4 121 "CranePermits$Site" "winds" "[I", Cond.methodLink RX4 118 yX4_isNight, Cond.static yX4_isNight, Cond.initialized RX4, Cond.code yX4_isNight cX4_isNight 1 (some .boolean), Cond.methodLink RX4 38 yX4_isIn, Cond.static yX4_isIn, Cond.code yX4_isIn cX4_isIn 3 (some .boolean), Cond.methodLink RX4 52 yX4_remember, Cond.instanceMethod yX4_remember, Cond.selects RX4 yX4_remember yX4_remember, Cond.code yX4_remember cX4_remember 2 none, Cond.fieldLink RX4 23 "CranePermits" "pastCount" "I", Cond.fieldLink RX4 19 "CranePermits" "past" "[LCranePermits$Site;", Cond.methodLink RX4 265 yX4_dropOldest, Cond.instanceMethod yX4_dropOldest, Cond.selects RX4 yX4_dropOldest yX4_dropOldest, Cond.code yX4_dropOldest cX4_dropOldest 3 none, Cond.methodLink RX4 171 yX4_pastAt, Cond.instanceMethod yX4_pastAt, Cond.selects RX4 yX4_pastAt yX4_pastAt, Cond.code yX4_pastAt cX4_pastAt 2 (some (.object "CranePermits$Site")), Cond.methodLink RX4 175 yX2_copyFrom]
def wsX4_wind_r2 : List Cond := [Cond.instanceMethod yX2_copyFrom, Cond.selects RX2 yX2_copyFrom yX2_copyFrom, Cond.initialized RX2, Cond.code yX2_copyFrom cX2_copyFrom 2 none, Cond.fieldLink RX2 11 "CranePermits$Site" "cranes" "[LCranePermits$Crane;", Cond.methodLink RX2 64 arraycopyName, Cond.native arraycopyName, Cond.static arraycopyName, Cond.initialized "java/lang/System", Cond.fieldLink RX2 17 "CranePermits$Site" "craneCount" "I", Cond.fieldLink RX2 21 "CranePermits$Site" "noises" "[I", Cond.fieldLink RX2 25 "CranePermits$Site" "settings" "[I", Cond.fieldLink RX2 28 "CranePermits$Site" "winds" "[I", Cond.fieldLink RX2 31 "CranePermits$Site" "allowances" "[I", Cond.fieldLink RX2 34 "CranePermits$Site" "received" "[I", Cond.fieldLink RX2 37 "CranePermits$Site" "given" "[I", Cond.fieldLink RX2 42 "CranePermits$Site" "permits" "[LCranePermits$Permit;", Cond.fieldLink RX2 46 "CranePermits$Site" "permitCount" "I", Cond.fieldLink RX2 49 "CranePermits$Site" "states" "[I", Cond.fieldLink RX2 52 "CranePermits$Site" "valid" "[LCranePermits$Permit;", Cond.fieldLink RX2 55 "CranePermits$Site" "validCount" "I", Cond.methodLink RX4 75 yX4_put, Cond.static yX4_put, Cond.code yX4_put cX4_put 3 none]
def wsX4_wind_r3 : List Cond := [Cond.methodLink RX4 79 yX2_withdrawFailing, Cond.instanceMethod yX2_withdrawFailing, Cond.selects RX2 yX2_withdrawFailing yX2_withdrawFailing, Cond.code yX2_withdrawFailing cX2_withdrawFailing 4 (some .int), Cond.fieldLink RX2 113 "CranePermits$Permit" "crane" "LCranePermits$Crane;", Cond.fieldLink RX2 159 "CranePermits$Permit" "night" "I", Cond.fieldLink RX2 174 "CranePermits$Crane" "street" "I", Cond.methodLink RX2 105 yX2_validAt, Cond.instanceMethod yX2_validAt, Cond.selects RX2 yX2_validAt yX2_validAt, Cond.code yX2_validAt cX2_validAt 3 (some (.object "CranePermits$Permit")), Cond.methodLink RX2 166 yX2_mustStop, Cond.instanceMethod yX2_mustStop, Cond.selects RX2 yX2_mustStop yX2_mustStop, Cond.code yX2_mustStop cX2_mustStop 3 (some .boolean), Cond.static yX4_at, Cond.code yX4_at cX4_at 2 (some .int), Cond.methodLink RX2 91 yX2_stopWindOf, Cond.instanceMethod yX2_stopWindOf, Cond.selects RX2 yX2_stopWindOf yX2_stopWindOf, Cond.code yX2_stopWindOf cX2_stopWindOf 2 (some .int), Cond.fieldLink RX2 88 "CranePermits$Crane" "height" "I", Cond.methodLink RX2 177 yX2_freeOf, Cond.instanceMethod yX2_freeOf]
def wsX4_wind_r4 : List Cond := [Cond.selects RX2 yX2_freeOf yX2_freeOf, Cond.code yX2_freeOf cX2_freeOf 3 (some .int), Cond.methodLink RX2 124 yX2_creditsOf, Cond.instanceMethod yX2_creditsOf, Cond.selects RX2 yX2_creditsOf yX2_creditsOf, Cond.code yX2_creditsOf cX2_creditsOf 4 (some .int), Cond.static yX4_streetNight, Cond.code yX4_streetNight cX4_streetNight 2 (some .int), Cond.methodLink RX2 99 yX2_allowanceOf, Cond.instanceMethod yX2_allowanceOf, Cond.selects RX2 yX2_allowanceOf yX2_allowanceOf, Cond.code yX2_allowanceOf cX2_allowanceOf 4 (some .int), Cond.methodLink RX2 127 yX2_usedOf, Cond.instanceMethod yX2_usedOf, Cond.selects RX2 yX2_usedOf yX2_usedOf, Cond.code yX2_usedOf cX2_usedOf 6 (some .int), Cond.fieldLink RX2 117 "CranePermits$Permit" "hours" "I", Cond.methodLink RX2 109 yX1_isOf, Cond.instanceMethod yX1_isOf, Cond.selects RX1 yX1_isOf yX1_isOf, Cond.initialized RX1, Cond.code yX1_isOf cX1_isOf 3 (some .boolean), Cond.fieldLink RX1 13 "CranePermits$Permit" "crane" "LCranePermits$Crane;", Cond.fieldLink RX1 35 "CranePermits$Crane" "street" "I"]
def wsX4_wind_r5 : List Cond := [Cond.fieldLink RX1 17 "CranePermits$Permit" "night" "I", Cond.methodLink RX2 120 yX2_useOf, Cond.instanceMethod yX2_useOf, Cond.selects RX2 yX2_useOf yX2_useOf, Cond.code yX2_useOf cX2_useOf 3 (some .int), Cond.fieldLink RX2 102 "CranePermits$Crane" "number" "I", Cond.methodLink RX2 180 yX2_end, Cond.instanceMethod yX2_end, Cond.selects RX2 yX2_end yX2_end, Cond.code yX2_end cX2_end 6 none, Cond.fieldLink RX2 158 "CranePermits$Permit" "number" "I"]
def wsX4_wind : List Cond := .code yX4_wind cX4_wind 3 (some .int) :: ((wsX4_wind_r1 ++ (wsX4_wind_r2 ++ (wsX4_wind_r3 ++ (wsX4_wind_r4 ++ wsX4_wind_r5)))) ++ wsX40 ++ wsX20 ++ wsX10 ++ wsX00)
def wsX4_allow_r1 : List Cond := [Cond.fieldLink RX4 10 "CranePermits" "now" "LCranePermits$Site;", Cond.fieldLink RX4 124 "CranePermits$Site" "allowances" "[I", Cond.methodLink RX4 42 yX4_isStreet, Cond.static yX4_isStreet, Cond.initialized RX4, Cond.code yX4_isStreet cX4_isStreet 1 (some .boolean), Cond.methodLink RX4 38 yX4_isIn, Cond.static yX4_isIn, Cond.code yX4_isIn cX4_isIn 3 (some .boolean), Cond.methodLink RX4 118 yX4_isNight, Cond.static yX4_isNight, Cond.code yX4_isNight cX4_isNight 1 (some .boolean), Cond.methodLink RX4 52 yX4_remember, Cond.instanceMethod yX4_remember, Cond.selects RX4 yX4_remember yX4_remember, Cond.code yX4_remember cX4_remember 2 none, Cond.fieldLink RX4 23 "CranePermits" "pastCount" "I", Cond.fieldLink RX4 19 "CranePermits" "past" "[LCranePermits$Site;", Cond.methodLink RX4 265 yX4_dropOldest, Cond.instanceMethod yX4_dropOldest, Cond.selects RX4 yX4_dropOldest yX4_dropOldest, Cond.code yX4_dropOldest cX4_dropOldest 3 none, Cond.methodLink RX4 171 yX4_pastAt, Cond.instanceMethod yX4_pastAt]
def wsX4_allow_r2 : List Cond := [Cond.selects RX4 yX4_pastAt yX4_pastAt, Cond.code yX4_pastAt cX4_pastAt 2 (some (.object "CranePermits$Site")), Cond.methodLink RX4 175 yX2_copyFrom, Cond.instanceMethod yX2_copyFrom, Cond.selects RX2 yX2_copyFrom yX2_copyFrom, Cond.initialized RX2, Cond.code yX2_copyFrom cX2_copyFrom 2 none, Cond.fieldLink RX2 11 "CranePermits$Site" "cranes" "[LCranePermits$Crane;", Cond.methodLink RX2 64 arraycopyName, Cond.native arraycopyName, Cond.static arraycopyName, Cond.initialized "java/lang/System", Cond.fieldLink RX2 17 "CranePermits$Site" "craneCount" "I", Cond.fieldLink RX2 21 "CranePermits$Site" "noises" "[I", Cond.fieldLink RX2 25 "CranePermits$Site" "settings" "[I", Cond.fieldLink RX2 28 "CranePermits$Site" "winds" "[I", Cond.fieldLink RX2 31 "CranePermits$Site" "allowances" "[I", Cond.fieldLink RX2 34 "CranePermits$Site" "received" "[I", Cond.fieldLink RX2 37 "CranePermits$Site" "given" "[I", Cond.fieldLink RX2 42 "CranePermits$Site" "permits" "[LCranePermits$Permit;", Cond.fieldLink RX2 46 "CranePermits$Site" "permitCount" "I", Cond.fieldLink RX2 49 "CranePermits$Site" "states" "[I", Cond.fieldLink RX2 52 "CranePermits$Site" "valid" "[LCranePermits$Permit;", Cond.fieldLink RX2 55 "CranePermits$Site" "validCount" "I"]
def wsX4_allow_r3 : List Cond := [Cond.methodLink RX4 127 yX4_streetNight, Cond.static yX4_streetNight, Cond.code yX4_streetNight cX4_streetNight 2 (some .int), Cond.methodLink RX4 75 yX4_put, Cond.static yX4_put, Cond.code yX4_put cX4_put 3 none, Cond.methodLink RX4 79 yX2_withdrawFailing, Cond.instanceMethod yX2_withdrawFailing, Cond.selects RX2 yX2_withdrawFailing yX2_withdrawFailing, Cond.code yX2_withdrawFailing cX2_withdrawFailing 4 (some .int), Cond.fieldLink RX2 113 "CranePermits$Permit" "crane" "LCranePermits$Crane;", Cond.fieldLink RX2 159 "CranePermits$Permit" "night" "I", Cond.fieldLink RX2 174 "CranePermits$Crane" "street" "I", Cond.methodLink RX2 105 yX2_validAt, Cond.instanceMethod yX2_validAt, Cond.selects RX2 yX2_validAt yX2_validAt, Cond.code yX2_validAt cX2_validAt 3 (some (.object "CranePermits$Permit")), Cond.methodLink RX2 166 yX2_mustStop, Cond.instanceMethod yX2_mustStop, Cond.selects RX2 yX2_mustStop yX2_mustStop, Cond.code yX2_mustStop cX2_mustStop 3 (some .boolean), Cond.static yX4_at, Cond.code yX4_at cX4_at 2 (some .int), Cond.methodLink RX2 91 yX2_stopWindOf]
def wsX4_allow_r4 : List Cond := [Cond.instanceMethod yX2_stopWindOf, Cond.selects RX2 yX2_stopWindOf yX2_stopWindOf, Cond.code yX2_stopWindOf cX2_stopWindOf 2 (some .int), Cond.fieldLink RX2 88 "CranePermits$Crane" "height" "I", Cond.methodLink RX2 177 yX2_freeOf, Cond.instanceMethod yX2_freeOf, Cond.selects RX2 yX2_freeOf yX2_freeOf, Cond.code yX2_freeOf cX2_freeOf 3 (some .int), Cond.methodLink RX2 124 yX2_creditsOf, Cond.instanceMethod yX2_creditsOf, Cond.selects RX2 yX2_creditsOf yX2_creditsOf, Cond.code yX2_creditsOf cX2_creditsOf 4 (some .int), Cond.methodLink RX2 99 yX2_allowanceOf, Cond.instanceMethod yX2_allowanceOf, Cond.selects RX2 yX2_allowanceOf yX2_allowanceOf, Cond.code yX2_allowanceOf cX2_allowanceOf 4 (some .int), Cond.methodLink RX2 127 yX2_usedOf, Cond.instanceMethod yX2_usedOf, Cond.selects RX2 yX2_usedOf yX2_usedOf, Cond.code yX2_usedOf cX2_usedOf 6 (some .int), Cond.fieldLink RX2 117 "CranePermits$Permit" "hours" "I", Cond.methodLink RX2 109 yX1_isOf, Cond.instanceMethod yX1_isOf, Cond.selects RX1 yX1_isOf yX1_isOf]
def wsX4_allow_r5 : List Cond := [Cond.initialized RX1, Cond.code yX1_isOf cX1_isOf 3 (some .boolean), Cond.fieldLink RX1 13 "CranePermits$Permit" "crane" "LCranePermits$Crane;", Cond.fieldLink RX1 35 "CranePermits$Crane" "street" "I", Cond.fieldLink RX1 17 "CranePermits$Permit" "night" "I", Cond.methodLink RX2 120 yX2_useOf, Cond.instanceMethod yX2_useOf, Cond.selects RX2 yX2_useOf yX2_useOf, Cond.code yX2_useOf cX2_useOf 3 (some .int), Cond.fieldLink RX2 102 "CranePermits$Crane" "number" "I", Cond.methodLink RX2 180 yX2_end, Cond.instanceMethod yX2_end, Cond.selects RX2 yX2_end yX2_end, Cond.code yX2_end cX2_end 6 none, Cond.fieldLink RX2 158 "CranePermits$Permit" "number" "I"]
def wsX4_allow : List Cond := .code yX4_allow cX4_allow 4 (some .int) :: ((wsX4_allow_r1 ++ (wsX4_allow_r2 ++ (wsX4_allow_r3 ++ (wsX4_allow_r4 ++ wsX4_allow_r5)))) ++ wsX40 ++ wsX20 ++ wsX10 ++ wsX00)
def wsX4_transfer_r1 : List Cond := [Cond.fieldLink RX4 10 "CranePermits" "now" "LCranePermits$Site;", Cond.fieldLink RX4 134 "CranePermits$Site" "given" "[I", Cond.fieldLink RX4 137 "CranePermits$Site" "received" "[I", Cond.methodLink RX4 42 yX4_isStreet, Cond.static yX4_isStreet, Cond.initialized RX4, Cond.code yX4_isStreet cX4_isStreet 1 (some .boolean), Cond.methodLink RX4 38 yX4_isIn, Cond.static yX4_isIn, Cond.code yX4_isIn cX4_isIn 3 (some .boolean), Cond.methodLink RX4 118 yX4_isNight, Cond.static yX4_isNight, Cond.code yX4_isNight cX4_isNight 1 (some .boolean), Cond.methodLink RX4 131 yX2_freeOf, Cond.instanceMethod yX2_freeOf, Cond.selects RX2 yX2_freeOf yX2_freeOf, Cond.initialized RX2, Cond.code yX2_freeOf cX2_freeOf 3 (some .int), Cond.methodLink RX2 124 yX2_creditsOf, Cond.instanceMethod yX2_creditsOf, Cond.selects RX2 yX2_creditsOf yX2_creditsOf, Cond.code yX2_creditsOf cX2_creditsOf 4 (some .int), Cond.fieldLink RX2 34 "CranePermits$Site" "received" "[I", Cond.fieldLink RX2 37 "CranePermits$Site" "given" "[I"]
def wsX4_transfer_r2 : List Cond := [Cond.static yX4_streetNight, Cond.code yX4_streetNight cX4_streetNight 2 (some .int), Cond.methodLink RX2 99 yX2_allowanceOf, Cond.instanceMethod yX2_allowanceOf, Cond.selects RX2 yX2_allowanceOf yX2_allowanceOf, Cond.code yX2_allowanceOf cX2_allowanceOf 4 (some .int), Cond.fieldLink RX2 31 "CranePermits$Site" "allowances" "[I", Cond.fieldLink RX2 25 "CranePermits$Site" "settings" "[I", Cond.static yX4_at, Cond.code yX4_at cX4_at 2 (some .int), Cond.methodLink RX2 127 yX2_usedOf, Cond.instanceMethod yX2_usedOf, Cond.selects RX2 yX2_usedOf yX2_usedOf, Cond.code yX2_usedOf cX2_usedOf 6 (some .int), Cond.fieldLink RX2 55 "CranePermits$Site" "validCount" "I", Cond.fieldLink RX2 113 "CranePermits$Permit" "crane" "LCranePermits$Crane;", Cond.fieldLink RX2 117 "CranePermits$Permit" "hours" "I", Cond.methodLink RX2 105 yX2_validAt, Cond.instanceMethod yX2_validAt, Cond.selects RX2 yX2_validAt yX2_validAt, Cond.code yX2_validAt cX2_validAt 3 (some (.object "CranePermits$Permit")), Cond.fieldLink RX2 52 "CranePermits$Site" "valid" "[LCranePermits$Permit;", Cond.methodLink RX2 109 yX1_isOf, Cond.instanceMethod yX1_isOf]
def wsX4_transfer_r3 : List Cond := [Cond.selects RX1 yX1_isOf yX1_isOf, Cond.initialized RX1, Cond.code yX1_isOf cX1_isOf 3 (some .boolean), Cond.fieldLink RX1 13 "CranePermits$Permit" "crane" "LCranePermits$Crane;", Cond.fieldLink RX1 35 "CranePermits$Crane" "street" "I", Cond.fieldLink RX1 17 "CranePermits$Permit" "night" "I", Cond.methodLink RX2 120 yX2_useOf, Cond.instanceMethod yX2_useOf, Cond.selects RX2 yX2_useOf yX2_useOf, Cond.code yX2_useOf cX2_useOf 3 (some .int), Cond.fieldLink RX2 21 "CranePermits$Site" "noises" "[I", Cond.fieldLink RX2 102 "CranePermits$Crane" "number" "I", Cond.methodLink RX4 52 yX4_remember, Cond.instanceMethod yX4_remember, Cond.selects RX4 yX4_remember yX4_remember, Cond.code yX4_remember cX4_remember 2 none, Cond.fieldLink RX4 23 "CranePermits" "pastCount" "I", Cond.fieldLink RX4 19 "CranePermits" "past" "[LCranePermits$Site;", Cond.methodLink RX4 265 yX4_dropOldest, Cond.instanceMethod yX4_dropOldest, Cond.selects RX4 yX4_dropOldest yX4_dropOldest, Cond.code yX4_dropOldest cX4_dropOldest 3 none, Cond.methodLink RX4 171 yX4_pastAt, Cond.instanceMethod yX4_pastAt]
def wsX4_transfer_r4 : List Cond := [Cond.selects RX4 yX4_pastAt yX4_pastAt, Cond.code yX4_pastAt cX4_pastAt 2 (some (.object "CranePermits$Site")), Cond.methodLink RX4 175 yX2_copyFrom, Cond.instanceMethod yX2_copyFrom, Cond.selects RX2 yX2_copyFrom yX2_copyFrom, Cond.code yX2_copyFrom cX2_copyFrom 2 none, Cond.fieldLink RX2 11 "CranePermits$Site" "cranes" "[LCranePermits$Crane;", Cond.methodLink RX2 64 arraycopyName, Cond.native arraycopyName, Cond.static arraycopyName, Cond.initialized "java/lang/System", Cond.fieldLink RX2 17 "CranePermits$Site" "craneCount" "I", Cond.fieldLink RX2 28 "CranePermits$Site" "winds" "[I", Cond.fieldLink RX2 42 "CranePermits$Site" "permits" "[LCranePermits$Permit;", Cond.fieldLink RX2 46 "CranePermits$Site" "permitCount" "I", Cond.fieldLink RX2 49 "CranePermits$Site" "states" "[I", Cond.methodLink RX4 127 yX4_streetNight, Cond.methodLink RX4 98 yX4_at, Cond.methodLink RX4 75 yX4_put, Cond.static yX4_put, Cond.code yX4_put cX4_put 3 none]
def wsX4_transfer : List Cond := .code yX4_transfer cX4_transfer 8 (some .int) :: ((wsX4_transfer_r1 ++ (wsX4_transfer_r2 ++ (wsX4_transfer_r3 ++ wsX4_transfer_r4))) ++ wsX40 ++ wsX20 ++ wsX10 ++ wsX00)
def wsX4_street_r1 : List Cond := [Cond.fieldLink RX4 10 "CranePermits" "now" "LCranePermits$Site;", Cond.fieldLink RX4 137 "CranePermits$Site" "received" "[I", Cond.fieldLink RX4 134 "CranePermits$Site" "given" "[I", Cond.fieldLink RX4 121 "CranePermits$Site" "winds" "[I", Cond.methodLink RX4 42 yX4_isStreet, Cond.static yX4_isStreet, Cond.initialized RX4, Cond.code yX4_isStreet cX4_isStreet 1 (some .boolean), Cond.methodLink RX4 38 yX4_isIn, Cond.static yX4_isIn, Cond.code yX4_isIn cX4_isIn 3 (some .boolean), Cond.methodLink RX4 118 yX4_isNight, Cond.static yX4_isNight, Cond.code yX4_isNight cX4_isNight 1 (some .boolean), Cond.methodLink RX4 140 yX2_allowanceOf, Cond.instanceMethod yX2_allowanceOf, Cond.selects RX2 yX2_allowanceOf yX2_allowanceOf, Cond.initialized RX2, Cond.code yX2_allowanceOf cX2_allowanceOf 4 (some .int), Cond.fieldLink RX2 31 "CranePermits$Site" "allowances" "[I", Cond.fieldLink RX2 25 "CranePermits$Site" "settings" "[I", Cond.static yX4_streetNight, Cond.code yX4_streetNight cX4_streetNight 2 (some .int), Cond.static yX4_at]
def wsX4_street_r2 : List Cond := [Cond.code yX4_at cX4_at 2 (some .int), Cond.methodLink RX4 127 yX4_streetNight, Cond.methodLink RX4 98 yX4_at, Cond.methodLink RX4 143 yX2_creditsOf, Cond.instanceMethod yX2_creditsOf, Cond.selects RX2 yX2_creditsOf yX2_creditsOf, Cond.code yX2_creditsOf cX2_creditsOf 4 (some .int), Cond.fieldLink RX2 34 "CranePermits$Site" "received" "[I", Cond.fieldLink RX2 37 "CranePermits$Site" "given" "[I", Cond.methodLink RX2 99 yX2_allowanceOf, Cond.methodLink RX4 146 yX2_usedOf, Cond.instanceMethod yX2_usedOf, Cond.selects RX2 yX2_usedOf yX2_usedOf, Cond.code yX2_usedOf cX2_usedOf 6 (some .int), Cond.fieldLink RX2 55 "CranePermits$Site" "validCount" "I", Cond.fieldLink RX2 113 "CranePermits$Permit" "crane" "LCranePermits$Crane;", Cond.fieldLink RX2 117 "CranePermits$Permit" "hours" "I", Cond.methodLink RX2 105 yX2_validAt, Cond.instanceMethod yX2_validAt, Cond.selects RX2 yX2_validAt yX2_validAt, Cond.code yX2_validAt cX2_validAt 3 (some (.object "CranePermits$Permit")), Cond.fieldLink RX2 52 "CranePermits$Site" "valid" "[LCranePermits$Permit;", Cond.methodLink RX2 109 yX1_isOf, Cond.instanceMethod yX1_isOf]
def wsX4_street_r3 : List Cond := [Cond.selects RX1 yX1_isOf yX1_isOf, Cond.initialized RX1, Cond.code yX1_isOf cX1_isOf 3 (some .boolean), Cond.fieldLink RX1 13 "CranePermits$Permit" "crane" "LCranePermits$Crane;", Cond.fieldLink RX1 35 "CranePermits$Crane" "street" "I", Cond.fieldLink RX1 17 "CranePermits$Permit" "night" "I", Cond.methodLink RX2 120 yX2_useOf, Cond.instanceMethod yX2_useOf, Cond.selects RX2 yX2_useOf yX2_useOf, Cond.code yX2_useOf cX2_useOf 3 (some .int), Cond.fieldLink RX2 21 "CranePermits$Site" "noises" "[I", Cond.fieldLink RX2 102 "CranePermits$Crane" "number" "I", Cond.methodLink RX4 149 yX2_validOfStreet, Cond.instanceMethod yX2_validOfStreet, Cond.selects RX2 yX2_validOfStreet yX2_validOfStreet, Cond.code yX2_validOfStreet cX2_validOfStreet 6 (some .int)]
def wsX4_street : List Cond := .code yX4_street cX4_street 4 (some .int) :: ((wsX4_street_r1 ++ (wsX4_street_r2 ++ wsX4_street_r3)) ++ wsX40 ++ wsX20 ++ wsX10 ++ wsX00)
def wsX4_count_r1 : List Cond := [Cond.fieldLink RX4 10 "CranePermits" "now" "LCranePermits$Site;", Cond.fieldLink RX4 49 "CranePermits$Site" "craneCount" "I", Cond.fieldLink RX4 152 "CranePermits$Site" "validCount" "I", Cond.fieldLink RX4 155 "CranePermits$Site" "permitCount" "I", Cond.fieldLink RX4 23 "CranePermits" "pastCount" "I", Cond.fieldLink RX4 30 "CranePermits" "text" "LCranePermits$Text;", Cond.fieldLink RX4 168 "CranePermits$Text" "length" "I", Cond.fieldLink RX4 115 "CranePermits$Site" "settings" "[I", Cond.methodLink RX4 158 yX2_permitsWith, Cond.instanceMethod yX2_permitsWith, Cond.selects RX2 yX2_permitsWith yX2_permitsWith, Cond.initialized RX2, Cond.code yX2_permitsWith cX2_permitsWith 4 (some .int), Cond.fieldLink RX2 46 "CranePermits$Site" "permitCount" "I", Cond.fieldLink RX2 49 "CranePermits$Site" "states" "[I", Cond.static yX4_at, Cond.initialized RX4, Cond.code yX4_at cX4_at 2 (some .int), Cond.methodLink RX4 162 yX2_usedByAll, Cond.instanceMethod yX2_usedByAll, Cond.selects RX2 yX2_usedByAll yX2_usedByAll, Cond.code yX2_usedByAll cX2_usedByAll 4 (some .int), Cond.fieldLink RX2 55 "CranePermits$Site" "validCount" "I", Cond.fieldLink RX2 113 "CranePermits$Permit" "crane" "LCranePermits$Crane;"]
def wsX4_count_r2 : List Cond := [Cond.fieldLink RX2 117 "CranePermits$Permit" "hours" "I", Cond.methodLink RX2 105 yX2_validAt, Cond.instanceMethod yX2_validAt, Cond.selects RX2 yX2_validAt yX2_validAt, Cond.code yX2_validAt cX2_validAt 3 (some (.object "CranePermits$Permit")), Cond.fieldLink RX2 52 "CranePermits$Site" "valid" "[LCranePermits$Permit;", Cond.methodLink RX2 120 yX2_useOf, Cond.instanceMethod yX2_useOf, Cond.selects RX2 yX2_useOf yX2_useOf, Cond.code yX2_useOf cX2_useOf 3 (some .int), Cond.fieldLink RX2 21 "CranePermits$Site" "noises" "[I", Cond.fieldLink RX2 102 "CranePermits$Crane" "number" "I", Cond.methodLink RX4 165 yX2_sharingPairs, Cond.instanceMethod yX2_sharingPairs, Cond.selects RX2 yX2_sharingPairs yX2_sharingPairs, Cond.code yX2_sharingPairs cX2_sharingPairs 6 (some .int), Cond.fieldLink RX2 159 "CranePermits$Permit" "night" "I", Cond.fieldLink RX2 151 "CranePermits$Permit" "swing" "I", Cond.methodLink RX2 154 yX2_shareAir, Cond.instanceMethod yX2_shareAir, Cond.selects RX2 yX2_shareAir yX2_shareAir, Cond.code yX2_shareAir cX2_shareAir 8 (some .boolean), Cond.fieldLink RX2 88 "CranePermits$Crane" "height" "I", Cond.methodLink RX2 141 Lib.Math.abs.name]
def wsX4_count_r3 : List Cond := [Cond.static Lib.Math.abs.name, Cond.initialized "java/lang/Math", Cond.code Lib.Math.abs.name Lib.Math.abs.code 1 (some .int), Cond.fieldLink RX2 25 "CranePermits$Site" "settings" "[I", Cond.methodLink RX2 130 yX1_isFor, Cond.instanceMethod yX1_isFor, Cond.selects RX1 yX1_isFor yX1_isFor, Cond.initialized RX1, Cond.code yX1_isFor cX1_isFor 2 (some .boolean), Cond.fieldLink RX1 13 "CranePermits$Permit" "crane" "LCranePermits$Crane;", Cond.fieldLink RX1 32 "CranePermits$Crane" "number" "I", Cond.methodLink RX2 138 yX1_meets, Cond.instanceMethod yX1_meets, Cond.selects RX1 yX1_meets yX1_meets, Cond.code yX1_meets cX1_meets 5 (some .boolean), Cond.fieldLink RX1 26 "CranePermits$Permit" "last" "I", Cond.fieldLink RX1 23 "CranePermits$Permit" "first" "I", Cond.fieldLink RX1 17 "CranePermits$Permit" "night" "I", Cond.methodLink RX2 147 yX0_airOf, Cond.instanceMethod yX0_airOf, Cond.selects RX0 yX0_airOf yX0_airOf, Cond.initialized RX0, Cond.code yX0_airOf cX0_airOf 8 (some .long), Cond.fieldLink RX0 9 "CranePermits$Crane" "eighths" "[J"]
def wsX4_count_r4 : List Cond := [Cond.methodLink RX4 98 yX4_at]
def wsX4_count : List Cond := .code yX4_count cX4_count 2 (some .int) :: ((wsX4_count_r1 ++ (wsX4_count_r2 ++ (wsX4_count_r3 ++ wsX4_count_r4))) ++ wsX40 ++ wsX20 ++ wsX30 ++ wsX10 ++ wsX00)
def wsX4_undo_r1 : List Cond := [Cond.fieldLink RX4 23 "CranePermits" "pastCount" "I", Cond.fieldLink RX4 10 "CranePermits" "now" "LCranePermits$Site;", Cond.methodLink RX4 171 yX4_pastAt, Cond.instanceMethod yX4_pastAt, Cond.selects RX4 yX4_pastAt yX4_pastAt, Cond.initialized RX4, Cond.code yX4_pastAt cX4_pastAt 2 (some (.object "CranePermits$Site")), Cond.fieldLink RX4 19 "CranePermits" "past" "[LCranePermits$Site;", Cond.methodLink RX4 175 yX2_copyFrom, Cond.instanceMethod yX2_copyFrom, Cond.selects RX2 yX2_copyFrom yX2_copyFrom, Cond.initialized RX2, Cond.code yX2_copyFrom cX2_copyFrom 2 none, Cond.fieldLink RX2 11 "CranePermits$Site" "cranes" "[LCranePermits$Crane;", Cond.methodLink RX2 64 arraycopyName, Cond.native arraycopyName, Cond.static arraycopyName, Cond.initialized "java/lang/System", Cond.fieldLink RX2 17 "CranePermits$Site" "craneCount" "I", Cond.fieldLink RX2 21 "CranePermits$Site" "noises" "[I", Cond.fieldLink RX2 25 "CranePermits$Site" "settings" "[I", Cond.fieldLink RX2 28 "CranePermits$Site" "winds" "[I", Cond.fieldLink RX2 31 "CranePermits$Site" "allowances" "[I", Cond.fieldLink RX2 34 "CranePermits$Site" "received" "[I"]
def wsX4_undo_r2 : List Cond := [Cond.fieldLink RX2 37 "CranePermits$Site" "given" "[I", Cond.fieldLink RX2 42 "CranePermits$Site" "permits" "[LCranePermits$Permit;", Cond.fieldLink RX2 46 "CranePermits$Site" "permitCount" "I", Cond.fieldLink RX2 49 "CranePermits$Site" "states" "[I", Cond.fieldLink RX2 52 "CranePermits$Site" "valid" "[LCranePermits$Permit;", Cond.fieldLink RX2 55 "CranePermits$Site" "validCount" "I"]
def wsX4_undo : List Cond := .code yX4_undo cX4_undo 2 (some .int) :: ((wsX4_undo_r1 ++ wsX4_undo_r2) ++ wsX40 ++ wsX20)
def wsX4_isSwing : List Cond := .code yX4_isSwing cX4_isSwing 1 (some .boolean) :: ([.methodLink RX4 38 yX4_isIn, .static yX4_isIn, .initialized RX4, .code yX4_isIn cX4_isIn 3 (some .boolean)])
def wsX4_covers : List Cond := .code yX4_covers cX4_covers 9 (some .int) :: ([.fieldLink RX4 10 "CranePermits" "now" "LCranePermits$Site;", .methodLink RX4 67 yX2_craneAt, .instanceMethod yX2_craneAt, .selects RX2 yX2_craneAt yX2_craneAt, .initialized RX2, .code yX2_craneAt cX2_craneAt 3 (some (.object "CranePermits$Crane")), .fieldLink RX2 17 "CranePermits$Site" "craneCount" "I", .fieldLink RX2 11 "CranePermits$Site" "cranes" "[LCranePermits$Crane;", .methodLink RX4 179 yX4_isSwing, .static yX4_isSwing, .initialized RX4, .code yX4_isSwing cX4_isSwing 1 (some .boolean), .methodLink RX4 38 yX4_isIn, .static yX4_isIn, .code yX4_isIn cX4_isIn 3 (some .boolean), .methodLink RX4 34 yX4_isCell, .static yX4_isCell, .code yX4_isCell cX4_isCell 2 (some .boolean), .methodLink RX4 182 yX0_airOf, .instanceMethod yX0_airOf, .selects RX0 yX0_airOf yX0_airOf, .initialized RX0, .code yX0_airOf cX0_airOf 8 (some .long), .fieldLink RX0 9 "CranePermits$Crane" "eighths" "[J"] ++ wsX40 ++ wsX20 ++ wsX00)
def wsJ13_bitCount_95d88 : List Cond := .code yJ13_bitCount_95d88 cJ13_bitCount_95d88 2 (some .int) :: ([.constantLong RJ13 314 (6148914691236517205), .constantLong RJ13 316 (3689348814741910323), .constantLong RJ13 318 (1085102592571150095)])
def wsX4_area_r1 : List Cond := [Cond.fieldLink RX4 10 "CranePermits" "now" "LCranePermits$Site;", Cond.methodLink RX4 67 yX2_craneAt, Cond.instanceMethod yX2_craneAt, Cond.selects RX2 yX2_craneAt yX2_craneAt, Cond.initialized RX2, Cond.code yX2_craneAt cX2_craneAt 3 (some (.object "CranePermits$Crane")), Cond.fieldLink RX2 17 "CranePermits$Site" "craneCount" "I", Cond.fieldLink RX2 11 "CranePermits$Site" "cranes" "[LCranePermits$Crane;", Cond.methodLink RX4 179 yX4_isSwing, Cond.static yX4_isSwing, Cond.initialized RX4, Cond.code yX4_isSwing cX4_isSwing 1 (some .boolean), Cond.methodLink RX4 38 yX4_isIn, Cond.static yX4_isIn, Cond.code yX4_isIn cX4_isIn 3 (some .boolean), Cond.methodLink RX4 182 yX0_airOf, Cond.instanceMethod yX0_airOf, Cond.selects RX0 yX0_airOf yX0_airOf, Cond.initialized RX0, Cond.code yX0_airOf cX0_airOf 8 (some .long), Cond.fieldLink RX0 9 "CranePermits$Crane" "eighths" "[J", Cond.methodLink RX4 186 yJ13_bitCount_95d88, Cond.static yJ13_bitCount_95d88, Cond.initialized RJ13]
def wsX4_area_r2 : List Cond := [Cond.code yJ13_bitCount_95d88 cJ13_bitCount_95d88 2 (some .int), Cond.constantLong RJ13 314 (6148914691236517205), Cond.constantLong RJ13 316 (3689348814741910323), Cond.constantLong RJ13 318 (1085102592571150095)]
def wsX4_area : List Cond := .code yX4_area cX4_area 6 (some .int) :: ((wsX4_area_r1 ++ wsX4_area_r2) ++ wsX40 ++ wsX20 ++ wsX00)
def wsX4_isPlan : List Cond := .code yX4_isPlan cX4_isPlan 3 (some .boolean) :: ([.methodLink RX4 118 yX4_isNight, .static yX4_isNight, .initialized RX4, .code yX4_isNight cX4_isNight 1 (some .boolean), .methodLink RX4 38 yX4_isIn, .static yX4_isIn, .code yX4_isIn cX4_isIn 3 (some .boolean), .methodLink RX4 179 yX4_isSwing, .static yX4_isSwing, .code yX4_isSwing cX4_isSwing 1 (some .boolean)])
def wsX4_refusal_r1 : List Cond := [Cond.fieldLink RX4 10 "CranePermits" "now" "LCranePermits$Site;", Cond.methodLink RX4 67 yX2_craneAt, Cond.instanceMethod yX2_craneAt, Cond.selects RX2 yX2_craneAt yX2_craneAt, Cond.initialized RX2, Cond.code yX2_craneAt cX2_craneAt 3 (some (.object "CranePermits$Crane")), Cond.fieldLink RX2 17 "CranePermits$Site" "craneCount" "I", Cond.fieldLink RX2 11 "CranePermits$Site" "cranes" "[LCranePermits$Crane;", Cond.methodLink RX4 192 yX4_isPlan, Cond.static yX4_isPlan, Cond.initialized RX4, Cond.code yX4_isPlan cX4_isPlan 3 (some .boolean), Cond.methodLink RX4 118 yX4_isNight, Cond.static yX4_isNight, Cond.code yX4_isNight cX4_isNight 1 (some .boolean), Cond.methodLink RX4 38 yX4_isIn, Cond.static yX4_isIn, Cond.code yX4_isIn cX4_isIn 3 (some .boolean), Cond.methodLink RX4 179 yX4_isSwing, Cond.static yX4_isSwing, Cond.code yX4_isSwing cX4_isSwing 1 (some .boolean), Cond.methodLink RX4 195 yX2_refusalOf, Cond.instanceMethod yX2_refusalOf, Cond.selects RX2 yX2_refusalOf yX2_refusalOf]
def wsX4_refusal_r2 : List Cond := [Cond.code yX2_refusalOf cX2_refusalOf 6 (some .int), Cond.fieldLink RX2 174 "CranePermits$Crane" "street" "I", Cond.methodLink RX2 162 yX2_isBusy, Cond.instanceMethod yX2_isBusy, Cond.selects RX2 yX2_isBusy yX2_isBusy, Cond.code yX2_isBusy cX2_isBusy 6 (some .boolean), Cond.fieldLink RX2 55 "CranePermits$Site" "validCount" "I", Cond.methodLink RX2 105 yX2_validAt, Cond.instanceMethod yX2_validAt, Cond.selects RX2 yX2_validAt yX2_validAt, Cond.code yX2_validAt cX2_validAt 3 (some (.object "CranePermits$Permit")), Cond.fieldLink RX2 52 "CranePermits$Site" "valid" "[LCranePermits$Permit;", Cond.methodLink RX2 130 yX1_isFor, Cond.instanceMethod yX1_isFor, Cond.selects RX1 yX1_isFor yX1_isFor, Cond.initialized RX1, Cond.code yX1_isFor cX1_isFor 2 (some .boolean), Cond.fieldLink RX1 13 "CranePermits$Permit" "crane" "LCranePermits$Crane;", Cond.fieldLink RX1 32 "CranePermits$Crane" "number" "I", Cond.methodLink RX2 138 yX1_meets, Cond.instanceMethod yX1_meets, Cond.selects RX1 yX1_meets yX1_meets, Cond.code yX1_meets cX1_meets 5 (some .boolean), Cond.fieldLink RX1 26 "CranePermits$Permit" "last" "I"]
def wsX4_refusal_r3 : List Cond := [Cond.fieldLink RX1 23 "CranePermits$Permit" "first" "I", Cond.fieldLink RX1 17 "CranePermits$Permit" "night" "I", Cond.methodLink RX2 166 yX2_mustStop, Cond.instanceMethod yX2_mustStop, Cond.selects RX2 yX2_mustStop yX2_mustStop, Cond.code yX2_mustStop cX2_mustStop 3 (some .boolean), Cond.fieldLink RX2 28 "CranePermits$Site" "winds" "[I", Cond.static yX4_at, Cond.code yX4_at cX4_at 2 (some .int), Cond.methodLink RX2 91 yX2_stopWindOf, Cond.instanceMethod yX2_stopWindOf, Cond.selects RX2 yX2_stopWindOf yX2_stopWindOf, Cond.code yX2_stopWindOf cX2_stopWindOf 2 (some .int), Cond.fieldLink RX2 25 "CranePermits$Site" "settings" "[I", Cond.fieldLink RX2 88 "CranePermits$Crane" "height" "I", Cond.methodLink RX2 170 yX2_lowestSharing, Cond.instanceMethod yX2_lowestSharing, Cond.selects RX2 yX2_lowestSharing yX2_lowestSharing, Cond.code yX2_lowestSharing cX2_lowestSharing 7 (some .int), Cond.fieldLink RX2 158 "CranePermits$Permit" "number" "I", Cond.methodLink RX2 154 yX2_shareAir, Cond.instanceMethod yX2_shareAir, Cond.selects RX2 yX2_shareAir yX2_shareAir, Cond.code yX2_shareAir cX2_shareAir 8 (some .boolean)]
def wsX4_refusal_r4 : List Cond := [Cond.fieldLink RX2 113 "CranePermits$Permit" "crane" "LCranePermits$Crane;", Cond.methodLink RX2 141 Lib.Math.abs.name, Cond.static Lib.Math.abs.name, Cond.initialized "java/lang/Math", Cond.code Lib.Math.abs.name Lib.Math.abs.code 1 (some .int), Cond.fieldLink RX2 151 "CranePermits$Permit" "swing" "I", Cond.methodLink RX2 147 yX0_airOf, Cond.instanceMethod yX0_airOf, Cond.selects RX0 yX0_airOf yX0_airOf, Cond.initialized RX0, Cond.code yX0_airOf cX0_airOf 8 (some .long), Cond.fieldLink RX0 9 "CranePermits$Crane" "eighths" "[J", Cond.methodLink RX2 127 yX2_usedOf, Cond.instanceMethod yX2_usedOf, Cond.selects RX2 yX2_usedOf yX2_usedOf, Cond.code yX2_usedOf cX2_usedOf 6 (some .int), Cond.fieldLink RX2 117 "CranePermits$Permit" "hours" "I", Cond.methodLink RX2 109 yX1_isOf, Cond.instanceMethod yX1_isOf, Cond.selects RX1 yX1_isOf yX1_isOf, Cond.code yX1_isOf cX1_isOf 3 (some .boolean), Cond.fieldLink RX1 35 "CranePermits$Crane" "street" "I", Cond.methodLink RX2 120 yX2_useOf, Cond.instanceMethod yX2_useOf]
def wsX4_refusal_r5 : List Cond := [Cond.selects RX2 yX2_useOf yX2_useOf, Cond.code yX2_useOf cX2_useOf 3 (some .int), Cond.fieldLink RX2 21 "CranePermits$Site" "noises" "[I", Cond.fieldLink RX2 102 "CranePermits$Crane" "number" "I", Cond.methodLink RX2 124 yX2_creditsOf, Cond.instanceMethod yX2_creditsOf, Cond.selects RX2 yX2_creditsOf yX2_creditsOf, Cond.code yX2_creditsOf cX2_creditsOf 4 (some .int), Cond.fieldLink RX2 34 "CranePermits$Site" "received" "[I", Cond.fieldLink RX2 37 "CranePermits$Site" "given" "[I", Cond.static yX4_streetNight, Cond.code yX4_streetNight cX4_streetNight 2 (some .int), Cond.methodLink RX2 99 yX2_allowanceOf, Cond.instanceMethod yX2_allowanceOf, Cond.selects RX2 yX2_allowanceOf yX2_allowanceOf, Cond.code yX2_allowanceOf cX2_allowanceOf 4 (some .int), Cond.fieldLink RX2 31 "CranePermits$Site" "allowances" "[I"]
def wsX4_refusal : List Cond := .code yX4_refusal cX4_refusal 6 (some .int) :: ((wsX4_refusal_r1 ++ (wsX4_refusal_r2 ++ (wsX4_refusal_r3 ++ (wsX4_refusal_r4 ++ wsX4_refusal_r5)))) ++ wsX40 ++ wsX20 ++ wsX00 ++ wsX10)
def wsX4_apply_r1 : List Cond := [Cond.fieldLink RX4 10 "CranePermits" "now" "LCranePermits$Site;", Cond.classLink RX4 203 RX1, Cond.instantiable RX1 7, Cond.initialized RX1, Cond.fieldLink RX4 155 "CranePermits$Site" "permitCount" "I", Cond.fieldLink RX4 212 "CranePermits$Permit" "number" "I", Cond.methodLink RX4 67 yX2_craneAt, Cond.instanceMethod yX2_craneAt, Cond.selects RX2 yX2_craneAt yX2_craneAt, Cond.initialized RX2, Cond.code yX2_craneAt cX2_craneAt 3 (some (.object "CranePermits$Crane")), Cond.fieldLink RX2 17 "CranePermits$Site" "craneCount" "I", Cond.fieldLink RX2 11 "CranePermits$Site" "cranes" "[LCranePermits$Crane;", Cond.methodLink RX4 192 yX4_isPlan, Cond.static yX4_isPlan, Cond.initialized RX4, Cond.code yX4_isPlan cX4_isPlan 3 (some .boolean), Cond.methodLink RX4 118 yX4_isNight, Cond.static yX4_isNight, Cond.code yX4_isNight cX4_isNight 1 (some .boolean), Cond.methodLink RX4 38 yX4_isIn, Cond.static yX4_isIn, Cond.code yX4_isIn cX4_isIn 3 (some .boolean), Cond.methodLink RX4 179 yX4_isSwing]
def wsX4_apply_r2 : List Cond := [Cond.static yX4_isSwing, Cond.code yX4_isSwing cX4_isSwing 1 (some .boolean), Cond.methodLink RX4 195 yX2_refusalOf, Cond.instanceMethod yX2_refusalOf, Cond.selects RX2 yX2_refusalOf yX2_refusalOf, Cond.code yX2_refusalOf cX2_refusalOf 6 (some .int), Cond.fieldLink RX2 174 "CranePermits$Crane" "street" "I", Cond.methodLink RX2 162 yX2_isBusy, Cond.instanceMethod yX2_isBusy, Cond.selects RX2 yX2_isBusy yX2_isBusy, Cond.code yX2_isBusy cX2_isBusy 6 (some .boolean), Cond.fieldLink RX2 55 "CranePermits$Site" "validCount" "I", Cond.methodLink RX2 105 yX2_validAt, Cond.instanceMethod yX2_validAt, Cond.selects RX2 yX2_validAt yX2_validAt, Cond.code yX2_validAt cX2_validAt 3 (some (.object "CranePermits$Permit")), Cond.fieldLink RX2 52 "CranePermits$Site" "valid" "[LCranePermits$Permit;", Cond.methodLink RX2 130 yX1_isFor, Cond.instanceMethod yX1_isFor, Cond.selects RX1 yX1_isFor yX1_isFor, Cond.code yX1_isFor cX1_isFor 2 (some .boolean), Cond.fieldLink RX1 13 "CranePermits$Permit" "crane" "LCranePermits$Crane;", Cond.fieldLink RX1 32 "CranePermits$Crane" "number" "I", Cond.methodLink RX2 138 yX1_meets]
def wsX4_apply_r3 : List Cond := [Cond.instanceMethod yX1_meets, Cond.selects RX1 yX1_meets yX1_meets, Cond.code yX1_meets cX1_meets 5 (some .boolean), Cond.fieldLink RX1 26 "CranePermits$Permit" "last" "I", Cond.fieldLink RX1 23 "CranePermits$Permit" "first" "I", Cond.fieldLink RX1 17 "CranePermits$Permit" "night" "I", Cond.methodLink RX2 166 yX2_mustStop, Cond.instanceMethod yX2_mustStop, Cond.selects RX2 yX2_mustStop yX2_mustStop, Cond.code yX2_mustStop cX2_mustStop 3 (some .boolean), Cond.fieldLink RX2 28 "CranePermits$Site" "winds" "[I", Cond.static yX4_at, Cond.code yX4_at cX4_at 2 (some .int), Cond.methodLink RX2 91 yX2_stopWindOf, Cond.instanceMethod yX2_stopWindOf, Cond.selects RX2 yX2_stopWindOf yX2_stopWindOf, Cond.code yX2_stopWindOf cX2_stopWindOf 2 (some .int), Cond.fieldLink RX2 25 "CranePermits$Site" "settings" "[I", Cond.fieldLink RX2 88 "CranePermits$Crane" "height" "I", Cond.methodLink RX2 170 yX2_lowestSharing, Cond.instanceMethod yX2_lowestSharing, Cond.selects RX2 yX2_lowestSharing yX2_lowestSharing, Cond.code yX2_lowestSharing cX2_lowestSharing 7 (some .int), Cond.fieldLink RX2 158 "CranePermits$Permit" "number" "I"]
def wsX4_apply_r4 : List Cond := [Cond.methodLink RX2 154 yX2_shareAir, Cond.instanceMethod yX2_shareAir, Cond.selects RX2 yX2_shareAir yX2_shareAir, Cond.code yX2_shareAir cX2_shareAir 8 (some .boolean), Cond.fieldLink RX2 113 "CranePermits$Permit" "crane" "LCranePermits$Crane;", Cond.methodLink RX2 141 Lib.Math.abs.name, Cond.static Lib.Math.abs.name, Cond.initialized "java/lang/Math", Cond.code Lib.Math.abs.name Lib.Math.abs.code 1 (some .int), Cond.fieldLink RX2 151 "CranePermits$Permit" "swing" "I", Cond.methodLink RX2 147 yX0_airOf, Cond.instanceMethod yX0_airOf, Cond.selects RX0 yX0_airOf yX0_airOf, Cond.initialized RX0, Cond.code yX0_airOf cX0_airOf 8 (some .long), Cond.fieldLink RX0 9 "CranePermits$Crane" "eighths" "[J", Cond.methodLink RX2 127 yX2_usedOf, Cond.instanceMethod yX2_usedOf, Cond.selects RX2 yX2_usedOf yX2_usedOf, Cond.code yX2_usedOf cX2_usedOf 6 (some .int), Cond.fieldLink RX2 117 "CranePermits$Permit" "hours" "I", Cond.methodLink RX2 109 yX1_isOf, Cond.instanceMethod yX1_isOf, Cond.selects RX1 yX1_isOf yX1_isOf]
def wsX4_apply_r5 : List Cond := [Cond.code yX1_isOf cX1_isOf 3 (some .boolean), Cond.fieldLink RX1 35 "CranePermits$Crane" "street" "I", Cond.methodLink RX2 120 yX2_useOf, Cond.instanceMethod yX2_useOf, Cond.selects RX2 yX2_useOf yX2_useOf, Cond.code yX2_useOf cX2_useOf 3 (some .int), Cond.fieldLink RX2 21 "CranePermits$Site" "noises" "[I", Cond.fieldLink RX2 102 "CranePermits$Crane" "number" "I", Cond.methodLink RX2 124 yX2_creditsOf, Cond.instanceMethod yX2_creditsOf, Cond.selects RX2 yX2_creditsOf yX2_creditsOf, Cond.code yX2_creditsOf cX2_creditsOf 4 (some .int), Cond.fieldLink RX2 34 "CranePermits$Site" "received" "[I", Cond.fieldLink RX2 37 "CranePermits$Site" "given" "[I", Cond.static yX4_streetNight, Cond.code yX4_streetNight cX4_streetNight 2 (some .int), Cond.methodLink RX2 99 yX2_allowanceOf, Cond.instanceMethod yX2_allowanceOf, Cond.selects RX2 yX2_allowanceOf yX2_allowanceOf, Cond.code yX2_allowanceOf cX2_allowanceOf 4 (some .int), Cond.fieldLink RX2 31 "CranePermits$Site" "allowances" "[I", Cond.methodLink RX4 199 yX2_hasRoom, Cond.instanceMethod yX2_hasRoom, Cond.selects RX2 yX2_hasRoom yX2_hasRoom]
def wsX4_apply_r6 : List Cond := [Cond.code yX2_hasRoom cX2_hasRoom 1 (some .boolean), Cond.fieldLink RX2 46 "CranePermits$Site" "permitCount" "I", Cond.methodLink RX4 52 yX4_remember, Cond.instanceMethod yX4_remember, Cond.selects RX4 yX4_remember yX4_remember, Cond.code yX4_remember cX4_remember 2 none, Cond.fieldLink RX4 23 "CranePermits" "pastCount" "I", Cond.fieldLink RX4 19 "CranePermits" "past" "[LCranePermits$Site;", Cond.methodLink RX4 265 yX4_dropOldest, Cond.instanceMethod yX4_dropOldest, Cond.selects RX4 yX4_dropOldest yX4_dropOldest, Cond.code yX4_dropOldest cX4_dropOldest 3 none, Cond.methodLink RX4 171 yX4_pastAt, Cond.instanceMethod yX4_pastAt, Cond.selects RX4 yX4_pastAt yX4_pastAt, Cond.code yX4_pastAt cX4_pastAt 2 (some (.object "CranePermits$Site")), Cond.methodLink RX4 175 yX2_copyFrom, Cond.instanceMethod yX2_copyFrom, Cond.selects RX2 yX2_copyFrom yX2_copyFrom, Cond.code yX2_copyFrom cX2_copyFrom 2 none, Cond.methodLink RX2 64 arraycopyName, Cond.native arraycopyName, Cond.static arraycopyName, Cond.initialized "java/lang/System"]
def wsX4_apply_r7 : List Cond := [Cond.fieldLink RX2 42 "CranePermits$Site" "permits" "[LCranePermits$Permit;", Cond.fieldLink RX2 49 "CranePermits$Site" "states" "[I", Cond.methodLink RX4 205 yX1_init, Cond.instanceMethod yX1_init, Cond.code yX1_init cX1_init 6 none, Cond.methodLink RX1 1 objectInit, Cond.instanceMethod objectInit, Cond.code objectInit ⟨#[0xb1]⟩ 1 none, Cond.fieldLink RX1 7 "CranePermits$Permit" "number" "I", Cond.fieldLink RX1 20 "CranePermits$Permit" "hours" "I", Cond.fieldLink RX1 29 "CranePermits$Permit" "swing" "I", Cond.methodLink RX4 208 yX2_grant, Cond.instanceMethod yX2_grant, Cond.selects RX2 yX2_grant yX2_grant, Cond.code yX2_grant cX2_grant 2 none, Cond.static yX4_put, Cond.code yX4_put cX4_put 3 none]
def wsX4_apply : List Cond := .code yX4_apply cX4_apply 7 (some .int) :: ((wsX4_apply_r1 ++ (wsX4_apply_r2 ++ (wsX4_apply_r3 ++ (wsX4_apply_r4 ++ (wsX4_apply_r5 ++ (wsX4_apply_r6 ++ wsX4_apply_r7)))))) ++ wsX40 ++ wsX10 ++ wsX20 ++ wsX00)
def wsX4_withdraw_r1 : List Cond := [Cond.fieldLink RX4 10 "CranePermits" "now" "LCranePermits$Site;", Cond.fieldLink RX4 217 "CranePermits$Site" "states" "[I", Cond.fieldLink RX4 212 "CranePermits$Permit" "number" "I", Cond.fieldLink RX4 224 "CranePermits$Permit" "crane" "LCranePermits$Crane;", Cond.fieldLink RX4 228 "CranePermits$Permit" "hours" "I", Cond.methodLink RX4 213 yX2_permitAt, Cond.instanceMethod yX2_permitAt, Cond.selects RX2 yX2_permitAt yX2_permitAt, Cond.initialized RX2, Cond.code yX2_permitAt cX2_permitAt 3 (some (.object "CranePermits$Permit")), Cond.fieldLink RX2 46 "CranePermits$Site" "permitCount" "I", Cond.fieldLink RX2 42 "CranePermits$Site" "permits" "[LCranePermits$Permit;", Cond.methodLink RX4 98 yX4_at, Cond.static yX4_at, Cond.initialized RX4, Cond.code yX4_at cX4_at 2 (some .int), Cond.methodLink RX4 52 yX4_remember, Cond.instanceMethod yX4_remember, Cond.selects RX4 yX4_remember yX4_remember, Cond.code yX4_remember cX4_remember 2 none, Cond.fieldLink RX4 23 "CranePermits" "pastCount" "I", Cond.fieldLink RX4 19 "CranePermits" "past" "[LCranePermits$Site;", Cond.methodLink RX4 265 yX4_dropOldest, Cond.instanceMethod yX4_dropOldest]
def wsX4_withdraw_r2 : List Cond := [Cond.selects RX4 yX4_dropOldest yX4_dropOldest, Cond.code yX4_dropOldest cX4_dropOldest 3 none, Cond.methodLink RX4 171 yX4_pastAt, Cond.instanceMethod yX4_pastAt, Cond.selects RX4 yX4_pastAt yX4_pastAt, Cond.code yX4_pastAt cX4_pastAt 2 (some (.object "CranePermits$Site")), Cond.methodLink RX4 175 yX2_copyFrom, Cond.instanceMethod yX2_copyFrom, Cond.selects RX2 yX2_copyFrom yX2_copyFrom, Cond.code yX2_copyFrom cX2_copyFrom 2 none, Cond.fieldLink RX2 11 "CranePermits$Site" "cranes" "[LCranePermits$Crane;", Cond.methodLink RX2 64 arraycopyName, Cond.native arraycopyName, Cond.static arraycopyName, Cond.initialized "java/lang/System", Cond.fieldLink RX2 17 "CranePermits$Site" "craneCount" "I", Cond.fieldLink RX2 21 "CranePermits$Site" "noises" "[I", Cond.fieldLink RX2 25 "CranePermits$Site" "settings" "[I", Cond.fieldLink RX2 28 "CranePermits$Site" "winds" "[I", Cond.fieldLink RX2 31 "CranePermits$Site" "allowances" "[I", Cond.fieldLink RX2 34 "CranePermits$Site" "received" "[I", Cond.fieldLink RX2 37 "CranePermits$Site" "given" "[I", Cond.fieldLink RX2 49 "CranePermits$Site" "states" "[I", Cond.fieldLink RX2 52 "CranePermits$Site" "valid" "[LCranePermits$Permit;"]
def wsX4_withdraw_r3 : List Cond := [Cond.fieldLink RX2 55 "CranePermits$Site" "validCount" "I", Cond.methodLink RX4 220 yX2_end, Cond.instanceMethod yX2_end, Cond.selects RX2 yX2_end yX2_end, Cond.code yX2_end cX2_end 6 none, Cond.fieldLink RX2 158 "CranePermits$Permit" "number" "I", Cond.static yX4_put, Cond.code yX4_put cX4_put 3 none, Cond.methodLink RX2 105 yX2_validAt, Cond.instanceMethod yX2_validAt, Cond.selects RX2 yX2_validAt yX2_validAt, Cond.code yX2_validAt cX2_validAt 3 (some (.object "CranePermits$Permit")), Cond.methodLink RX4 231 yX2_useOf, Cond.instanceMethod yX2_useOf, Cond.selects RX2 yX2_useOf yX2_useOf, Cond.code yX2_useOf cX2_useOf 3 (some .int), Cond.fieldLink RX2 102 "CranePermits$Crane" "number" "I"]
def wsX4_withdraw : List Cond := .code yX4_withdraw cX4_withdraw 3 (some .int) :: ((wsX4_withdraw_r1 ++ (wsX4_withdraw_r2 ++ wsX4_withdraw_r3)) ++ wsX40 ++ wsX20 ++ wsX10 ++ wsX00)
def wsX4_permit_r1 : List Cond := [Cond.fieldLink RX4 10 "CranePermits" "now" "LCranePermits$Site;", Cond.fieldLink RX4 224 "CranePermits$Permit" "crane" "LCranePermits$Crane;", Cond.fieldLink RX4 64 "CranePermits$Crane" "number" "I", Cond.fieldLink RX4 235 "CranePermits$Permit" "night" "I", Cond.fieldLink RX4 228 "CranePermits$Permit" "hours" "I", Cond.fieldLink RX4 238 "CranePermits$Permit" "swing" "I", Cond.fieldLink RX4 217 "CranePermits$Site" "states" "[I", Cond.fieldLink RX4 212 "CranePermits$Permit" "number" "I", Cond.methodLink RX4 213 yX2_permitAt, Cond.instanceMethod yX2_permitAt, Cond.selects RX2 yX2_permitAt yX2_permitAt, Cond.initialized RX2, Cond.code yX2_permitAt cX2_permitAt 3 (some (.object "CranePermits$Permit")), Cond.fieldLink RX2 46 "CranePermits$Site" "permitCount" "I", Cond.fieldLink RX2 42 "CranePermits$Site" "permits" "[LCranePermits$Permit;", Cond.methodLink RX4 231 yX2_useOf, Cond.instanceMethod yX2_useOf, Cond.selects RX2 yX2_useOf yX2_useOf, Cond.code yX2_useOf cX2_useOf 3 (some .int), Cond.fieldLink RX2 21 "CranePermits$Site" "noises" "[I", Cond.fieldLink RX2 102 "CranePermits$Crane" "number" "I", Cond.static yX4_at, Cond.initialized RX4, Cond.code yX4_at cX4_at 2 (some .int)]
def wsX4_permit_r2 : List Cond := [Cond.methodLink RX4 98 yX4_at]
def wsX4_permit : List Cond := .code yX4_permit cX4_permit 4 (some .int) :: ((wsX4_permit_r1 ++ wsX4_permit_r2) ++ wsX40 ++ wsX10 ++ wsX00 ++ wsX20)
def wsX4_inOrder : List Cond := .code yX4_inOrder cX4_inOrder 4 (some .int) :: ([.fieldLink RX4 10 "CranePermits" "now" "LCranePermits$Site;", .fieldLink RX4 152 "CranePermits$Site" "validCount" "I", .fieldLink RX4 212 "CranePermits$Permit" "number" "I", .methodLink RX4 241 yX2_validAt, .instanceMethod yX2_validAt, .selects RX2 yX2_validAt yX2_validAt, .initialized RX2, .code yX2_validAt cX2_validAt 3 (some (.object "CranePermits$Permit")), .fieldLink RX2 55 "CranePermits$Site" "validCount" "I", .fieldLink RX2 52 "CranePermits$Site" "valid" "[LCranePermits$Permit;", .methodLink RX4 244 yX2_validAhead, .instanceMethod yX2_validAhead, .selects RX2 yX2_validAhead yX2_validAhead, .code yX2_validAhead cX2_validAhead 5 (some .int), .methodLink RX2 105 yX2_validAt, .methodLink RX2 134 yX1_isAheadOf, .instanceMethod yX1_isAheadOf, .selects RX1 yX1_isAheadOf yX1_isAheadOf, .initialized RX1, .code yX1_isAheadOf cX1_isAheadOf 2 (some .boolean), .fieldLink RX1 17 "CranePermits$Permit" "night" "I", .fieldLink RX1 23 "CranePermits$Permit" "first" "I", .fieldLink RX1 7 "CranePermits$Permit" "number" "I"] ++ wsX40 ++ wsX20 ++ wsX10)
def wsX4_inTheWay_r1 : List Cond := [Cond.fieldLink RX4 10 "CranePermits" "now" "LCranePermits$Site;", Cond.methodLink RX4 67 yX2_craneAt, Cond.instanceMethod yX2_craneAt, Cond.selects RX2 yX2_craneAt yX2_craneAt, Cond.initialized RX2, Cond.code yX2_craneAt cX2_craneAt 3 (some (.object "CranePermits$Crane")), Cond.fieldLink RX2 17 "CranePermits$Site" "craneCount" "I", Cond.fieldLink RX2 11 "CranePermits$Site" "cranes" "[LCranePermits$Crane;", Cond.methodLink RX4 192 yX4_isPlan, Cond.static yX4_isPlan, Cond.initialized RX4, Cond.code yX4_isPlan cX4_isPlan 3 (some .boolean), Cond.methodLink RX4 118 yX4_isNight, Cond.static yX4_isNight, Cond.code yX4_isNight cX4_isNight 1 (some .boolean), Cond.methodLink RX4 38 yX4_isIn, Cond.static yX4_isIn, Cond.code yX4_isIn cX4_isIn 3 (some .boolean), Cond.methodLink RX4 179 yX4_isSwing, Cond.static yX4_isSwing, Cond.code yX4_isSwing cX4_isSwing 1 (some .boolean), Cond.methodLink RX4 252 yX2_lowestSharing, Cond.instanceMethod yX2_lowestSharing, Cond.selects RX2 yX2_lowestSharing yX2_lowestSharing]
def wsX4_inTheWay_r2 : List Cond := [Cond.code yX2_lowestSharing cX2_lowestSharing 7 (some .int), Cond.fieldLink RX2 55 "CranePermits$Site" "validCount" "I", Cond.fieldLink RX2 158 "CranePermits$Permit" "number" "I", Cond.methodLink RX2 105 yX2_validAt, Cond.instanceMethod yX2_validAt, Cond.selects RX2 yX2_validAt yX2_validAt, Cond.code yX2_validAt cX2_validAt 3 (some (.object "CranePermits$Permit")), Cond.fieldLink RX2 52 "CranePermits$Site" "valid" "[LCranePermits$Permit;", Cond.methodLink RX2 154 yX2_shareAir, Cond.instanceMethod yX2_shareAir, Cond.selects RX2 yX2_shareAir yX2_shareAir, Cond.code yX2_shareAir cX2_shareAir 8 (some .boolean), Cond.fieldLink RX2 88 "CranePermits$Crane" "height" "I", Cond.fieldLink RX2 113 "CranePermits$Permit" "crane" "LCranePermits$Crane;", Cond.methodLink RX2 141 Lib.Math.abs.name, Cond.static Lib.Math.abs.name, Cond.initialized "java/lang/Math", Cond.code Lib.Math.abs.name Lib.Math.abs.code 1 (some .int), Cond.fieldLink RX2 25 "CranePermits$Site" "settings" "[I", Cond.fieldLink RX2 151 "CranePermits$Permit" "swing" "I", Cond.methodLink RX2 130 yX1_isFor, Cond.instanceMethod yX1_isFor, Cond.selects RX1 yX1_isFor yX1_isFor, Cond.initialized RX1]
def wsX4_inTheWay_r3 : List Cond := [Cond.code yX1_isFor cX1_isFor 2 (some .boolean), Cond.fieldLink RX1 13 "CranePermits$Permit" "crane" "LCranePermits$Crane;", Cond.fieldLink RX1 32 "CranePermits$Crane" "number" "I", Cond.methodLink RX2 138 yX1_meets, Cond.instanceMethod yX1_meets, Cond.selects RX1 yX1_meets yX1_meets, Cond.code yX1_meets cX1_meets 5 (some .boolean), Cond.fieldLink RX1 26 "CranePermits$Permit" "last" "I", Cond.fieldLink RX1 23 "CranePermits$Permit" "first" "I", Cond.fieldLink RX1 17 "CranePermits$Permit" "night" "I", Cond.static yX4_at, Cond.code yX4_at cX4_at 2 (some .int), Cond.methodLink RX2 147 yX0_airOf, Cond.instanceMethod yX0_airOf, Cond.selects RX0 yX0_airOf yX0_airOf, Cond.initialized RX0, Cond.code yX0_airOf cX0_airOf 8 (some .long), Cond.fieldLink RX0 9 "CranePermits$Crane" "eighths" "[J"]
def wsX4_inTheWay : List Cond := .code yX4_inTheWay cX4_inTheWay 7 (some .int) :: ((wsX4_inTheWay_r1 ++ (wsX4_inTheWay_r2 ++ wsX4_inTheWay_r3)) ++ wsX40 ++ wsX20 ++ wsX10 ++ wsX00)
def wsJ9_abs_0f7a4 : List Cond := .code yJ9_abs_0f7a4 cJ9_abs_0f7a4 1 (some .int) :: ([])
def wsL_cell : List Cond := .code yL_cell cL_cell 2 (some .int) :: ([.constant RL 7 (15485959), .constant RL 8 (2147483647)])
def wsL_holds_r1 : List Cond := [Cond.methodLink RL 9 yX4_count, Cond.instanceMethod yX4_count, Cond.selects RX4 yX4_count yX4_count, Cond.initialized RX4, Cond.code yX4_count cX4_count 2 (some .int), Cond.fieldLink RX4 10 "CranePermits" "now" "LCranePermits$Site;", Cond.fieldLink RX4 49 "CranePermits$Site" "craneCount" "I", Cond.fieldLink RX4 152 "CranePermits$Site" "validCount" "I", Cond.fieldLink RX4 155 "CranePermits$Site" "permitCount" "I", Cond.fieldLink RX4 23 "CranePermits" "pastCount" "I", Cond.fieldLink RX4 30 "CranePermits" "text" "LCranePermits$Text;", Cond.fieldLink RX4 168 "CranePermits$Text" "length" "I", Cond.fieldLink RX4 115 "CranePermits$Site" "settings" "[I", Cond.methodLink RX4 158 yX2_permitsWith, Cond.instanceMethod yX2_permitsWith, Cond.selects RX2 yX2_permitsWith yX2_permitsWith, Cond.initialized RX2, Cond.code yX2_permitsWith cX2_permitsWith 4 (some .int), Cond.fieldLink RX2 46 "CranePermits$Site" "permitCount" "I", Cond.fieldLink RX2 49 "CranePermits$Site" "states" "[I", Cond.static yX4_at, Cond.code yX4_at cX4_at 2 (some .int), Cond.methodLink RX4 162 yX2_usedByAll, Cond.instanceMethod yX2_usedByAll]
def wsL_holds_r2 : List Cond := [Cond.selects RX2 yX2_usedByAll yX2_usedByAll, Cond.code yX2_usedByAll cX2_usedByAll 4 (some .int), Cond.fieldLink RX2 55 "CranePermits$Site" "validCount" "I", Cond.fieldLink RX2 113 "CranePermits$Permit" "crane" "LCranePermits$Crane;", Cond.fieldLink RX2 117 "CranePermits$Permit" "hours" "I", Cond.methodLink RX2 105 yX2_validAt, Cond.instanceMethod yX2_validAt, Cond.selects RX2 yX2_validAt yX2_validAt, Cond.code yX2_validAt cX2_validAt 3 (some (.object "CranePermits$Permit")), Cond.fieldLink RX2 52 "CranePermits$Site" "valid" "[LCranePermits$Permit;", Cond.methodLink RX2 120 yX2_useOf, Cond.instanceMethod yX2_useOf, Cond.selects RX2 yX2_useOf yX2_useOf, Cond.code yX2_useOf cX2_useOf 3 (some .int), Cond.fieldLink RX2 21 "CranePermits$Site" "noises" "[I", Cond.fieldLink RX2 102 "CranePermits$Crane" "number" "I", Cond.methodLink RX4 165 yX2_sharingPairs, Cond.instanceMethod yX2_sharingPairs, Cond.selects RX2 yX2_sharingPairs yX2_sharingPairs, Cond.code yX2_sharingPairs cX2_sharingPairs 6 (some .int), Cond.fieldLink RX2 159 "CranePermits$Permit" "night" "I", Cond.fieldLink RX2 151 "CranePermits$Permit" "swing" "I", Cond.methodLink RX2 154 yX2_shareAir, Cond.instanceMethod yX2_shareAir]
def wsL_holds_r3 : List Cond := [Cond.selects RX2 yX2_shareAir yX2_shareAir, Cond.code yX2_shareAir cX2_shareAir 8 (some .boolean), Cond.fieldLink RX2 88 "CranePermits$Crane" "height" "I", Cond.methodLink RX2 141 Lib.Math.abs.name, Cond.static Lib.Math.abs.name, Cond.initialized "java/lang/Math", Cond.code Lib.Math.abs.name Lib.Math.abs.code 1 (some .int), Cond.fieldLink RX2 25 "CranePermits$Site" "settings" "[I", Cond.methodLink RX2 130 yX1_isFor, Cond.instanceMethod yX1_isFor, Cond.selects RX1 yX1_isFor yX1_isFor, Cond.initialized RX1, Cond.code yX1_isFor cX1_isFor 2 (some .boolean), Cond.fieldLink RX1 13 "CranePermits$Permit" "crane" "LCranePermits$Crane;", Cond.fieldLink RX1 32 "CranePermits$Crane" "number" "I", Cond.methodLink RX2 138 yX1_meets, Cond.instanceMethod yX1_meets, Cond.selects RX1 yX1_meets yX1_meets, Cond.code yX1_meets cX1_meets 5 (some .boolean), Cond.fieldLink RX1 26 "CranePermits$Permit" "last" "I", Cond.fieldLink RX1 23 "CranePermits$Permit" "first" "I", Cond.fieldLink RX1 17 "CranePermits$Permit" "night" "I", Cond.methodLink RX2 147 yX0_airOf, Cond.instanceMethod yX0_airOf]
def wsL_holds_r4 : List Cond := [Cond.selects RX0 yX0_airOf yX0_airOf, Cond.initialized RX0, Cond.code yX0_airOf cX0_airOf 8 (some .long), Cond.fieldLink RX0 9 "CranePermits$Crane" "eighths" "[J", Cond.methodLink RX4 98 yX4_at, Cond.methodLink RL 15 yX4_permit, Cond.instanceMethod yX4_permit, Cond.selects RX4 yX4_permit yX4_permit, Cond.code yX4_permit cX4_permit 4 (some .int), Cond.fieldLink RX4 224 "CranePermits$Permit" "crane" "LCranePermits$Crane;", Cond.fieldLink RX4 64 "CranePermits$Crane" "number" "I", Cond.fieldLink RX4 235 "CranePermits$Permit" "night" "I", Cond.fieldLink RX4 228 "CranePermits$Permit" "hours" "I", Cond.fieldLink RX4 238 "CranePermits$Permit" "swing" "I", Cond.fieldLink RX4 217 "CranePermits$Site" "states" "[I", Cond.fieldLink RX4 212 "CranePermits$Permit" "number" "I", Cond.methodLink RX4 213 yX2_permitAt, Cond.instanceMethod yX2_permitAt, Cond.selects RX2 yX2_permitAt yX2_permitAt, Cond.code yX2_permitAt cX2_permitAt 3 (some (.object "CranePermits$Permit")), Cond.fieldLink RX2 42 "CranePermits$Site" "permits" "[LCranePermits$Permit;", Cond.methodLink RX4 231 yX2_useOf, Cond.methodLink RL 19 yX4_street, Cond.instanceMethod yX4_street]
def wsL_holds_r5 : List Cond := [Cond.selects RX4 yX4_street yX4_street, Cond.code yX4_street cX4_street 4 (some .int), Cond.fieldLink RX4 137 "CranePermits$Site" "received" "[I", Cond.fieldLink RX4 134 "CranePermits$Site" "given" "[I", Cond.fieldLink RX4 121 "CranePermits$Site" "winds" "[I", Cond.methodLink RX4 42 yX4_isStreet, Cond.static yX4_isStreet, Cond.code yX4_isStreet cX4_isStreet 1 (some .boolean), Cond.methodLink RX4 38 yX4_isIn, Cond.static yX4_isIn, Cond.code yX4_isIn cX4_isIn 3 (some .boolean), Cond.methodLink RX4 118 yX4_isNight, Cond.static yX4_isNight, Cond.code yX4_isNight cX4_isNight 1 (some .boolean), Cond.methodLink RX4 140 yX2_allowanceOf, Cond.instanceMethod yX2_allowanceOf, Cond.selects RX2 yX2_allowanceOf yX2_allowanceOf, Cond.code yX2_allowanceOf cX2_allowanceOf 4 (some .int), Cond.fieldLink RX2 31 "CranePermits$Site" "allowances" "[I", Cond.static yX4_streetNight, Cond.code yX4_streetNight cX4_streetNight 2 (some .int), Cond.methodLink RX4 127 yX4_streetNight, Cond.methodLink RX4 143 yX2_creditsOf, Cond.instanceMethod yX2_creditsOf]
def wsL_holds_r6 : List Cond := [Cond.selects RX2 yX2_creditsOf yX2_creditsOf, Cond.code yX2_creditsOf cX2_creditsOf 4 (some .int), Cond.fieldLink RX2 34 "CranePermits$Site" "received" "[I", Cond.fieldLink RX2 37 "CranePermits$Site" "given" "[I", Cond.methodLink RX2 99 yX2_allowanceOf, Cond.methodLink RX4 146 yX2_usedOf, Cond.instanceMethod yX2_usedOf, Cond.selects RX2 yX2_usedOf yX2_usedOf, Cond.code yX2_usedOf cX2_usedOf 6 (some .int), Cond.methodLink RX2 109 yX1_isOf, Cond.instanceMethod yX1_isOf, Cond.selects RX1 yX1_isOf yX1_isOf, Cond.code yX1_isOf cX1_isOf 3 (some .boolean), Cond.fieldLink RX1 35 "CranePermits$Crane" "street" "I", Cond.methodLink RX4 149 yX2_validOfStreet, Cond.instanceMethod yX2_validOfStreet, Cond.selects RX2 yX2_validOfStreet yX2_validOfStreet, Cond.code yX2_validOfStreet cX2_validOfStreet 6 (some .int), Cond.methodLink RL 23 yX4_craneOf, Cond.instanceMethod yX4_craneOf, Cond.selects RX4 yX4_craneOf yX4_craneOf, Cond.code yX4_craneOf cX4_craneOf 4 (some .int), Cond.fieldLink RX4 83 "CranePermits$Crane" "x" "I", Cond.fieldLink RX4 86 "CranePermits$Crane" "y" "I"]
def wsL_holds_r7 : List Cond := [Cond.fieldLink RX4 89 "CranePermits$Crane" "reach" "I", Cond.fieldLink RX4 92 "CranePermits$Crane" "height" "I", Cond.fieldLink RX4 95 "CranePermits$Crane" "street" "I", Cond.fieldLink RX4 71 "CranePermits$Site" "noises" "[I", Cond.methodLink RX4 67 yX2_craneAt, Cond.instanceMethod yX2_craneAt, Cond.selects RX2 yX2_craneAt yX2_craneAt, Cond.code yX2_craneAt cX2_craneAt 3 (some (.object "CranePermits$Crane")), Cond.fieldLink RX2 17 "CranePermits$Site" "craneCount" "I", Cond.fieldLink RX2 11 "CranePermits$Site" "cranes" "[LCranePermits$Crane;", Cond.methodLink RX4 102 yX2_validOfCrane, Cond.instanceMethod yX2_validOfCrane, Cond.selects RX2 yX2_validOfCrane yX2_validOfCrane, Cond.code yX2_validOfCrane cX2_validOfCrane 5 (some .int), Cond.methodLink RX4 106 yX2_stopWindOf, Cond.instanceMethod yX2_stopWindOf, Cond.selects RX2 yX2_stopWindOf yX2_stopWindOf, Cond.code yX2_stopWindOf cX2_stopWindOf 2 (some .int), Cond.methodLink RL 26 yX4_refusal, Cond.instanceMethod yX4_refusal, Cond.selects RX4 yX4_refusal yX4_refusal, Cond.code yX4_refusal cX4_refusal 6 (some .int), Cond.methodLink RX4 192 yX4_isPlan, Cond.static yX4_isPlan]
def wsL_holds_r8 : List Cond := [Cond.code yX4_isPlan cX4_isPlan 3 (some .boolean), Cond.methodLink RX4 179 yX4_isSwing, Cond.static yX4_isSwing, Cond.code yX4_isSwing cX4_isSwing 1 (some .boolean), Cond.methodLink RX4 195 yX2_refusalOf, Cond.instanceMethod yX2_refusalOf, Cond.selects RX2 yX2_refusalOf yX2_refusalOf, Cond.code yX2_refusalOf cX2_refusalOf 6 (some .int), Cond.fieldLink RX2 174 "CranePermits$Crane" "street" "I", Cond.methodLink RX2 162 yX2_isBusy, Cond.instanceMethod yX2_isBusy, Cond.selects RX2 yX2_isBusy yX2_isBusy, Cond.code yX2_isBusy cX2_isBusy 6 (some .boolean), Cond.methodLink RX2 166 yX2_mustStop, Cond.instanceMethod yX2_mustStop, Cond.selects RX2 yX2_mustStop yX2_mustStop, Cond.code yX2_mustStop cX2_mustStop 3 (some .boolean), Cond.fieldLink RX2 28 "CranePermits$Site" "winds" "[I", Cond.methodLink RX2 91 yX2_stopWindOf, Cond.methodLink RX2 170 yX2_lowestSharing, Cond.instanceMethod yX2_lowestSharing, Cond.selects RX2 yX2_lowestSharing yX2_lowestSharing, Cond.code yX2_lowestSharing cX2_lowestSharing 7 (some .int), Cond.fieldLink RX2 158 "CranePermits$Permit" "number" "I"]
def wsL_holds_r9 : List Cond := [Cond.methodLink RX2 127 yX2_usedOf, Cond.methodLink RX2 124 yX2_creditsOf]
def wsL_holds : List Cond := .code yL_holds cL_holds 10 (some .boolean) :: ((wsL_holds_r1 ++ (wsL_holds_r2 ++ (wsL_holds_r3 ++ (wsL_holds_r4 ++ (wsL_holds_r5 ++ (wsL_holds_r6 ++ (wsL_holds_r7 ++ (wsL_holds_r8 ++ wsL_holds_r9)))))))) ++ wsX40 ++ wsX20 ++ wsX30 ++ wsX10 ++ wsX00)
def wsL_swings_r1 : List Cond := [Cond.methodLink RL 30 yX4_area, Cond.instanceMethod yX4_area, Cond.selects RX4 yX4_area yX4_area, Cond.initialized RX4, Cond.code yX4_area cX4_area 6 (some .int), Cond.fieldLink RX4 10 "CranePermits" "now" "LCranePermits$Site;", Cond.methodLink RX4 67 yX2_craneAt, Cond.instanceMethod yX2_craneAt, Cond.selects RX2 yX2_craneAt yX2_craneAt, Cond.initialized RX2, Cond.code yX2_craneAt cX2_craneAt 3 (some (.object "CranePermits$Crane")), Cond.fieldLink RX2 17 "CranePermits$Site" "craneCount" "I", Cond.fieldLink RX2 11 "CranePermits$Site" "cranes" "[LCranePermits$Crane;", Cond.methodLink RX4 179 yX4_isSwing, Cond.static yX4_isSwing, Cond.code yX4_isSwing cX4_isSwing 1 (some .boolean), Cond.methodLink RX4 38 yX4_isIn, Cond.static yX4_isIn, Cond.code yX4_isIn cX4_isIn 3 (some .boolean), Cond.methodLink RX4 182 yX0_airOf, Cond.instanceMethod yX0_airOf, Cond.selects RX0 yX0_airOf yX0_airOf, Cond.initialized RX0, Cond.code yX0_airOf cX0_airOf 8 (some .long)]
def wsL_swings_r2 : List Cond := [Cond.fieldLink RX0 9 "CranePermits$Crane" "eighths" "[J", Cond.methodLink RX4 186 yJ13_bitCount_95d88, Cond.static yJ13_bitCount_95d88, Cond.initialized RJ13, Cond.code yJ13_bitCount_95d88 cJ13_bitCount_95d88 2 (some .int), Cond.constantLong RJ13 314 (6148914691236517205), Cond.constantLong RJ13 316 (3689348814741910323), Cond.constantLong RJ13 318 (1085102592571150095), Cond.methodLink RL 23 yX4_craneOf, Cond.instanceMethod yX4_craneOf, Cond.selects RX4 yX4_craneOf yX4_craneOf, Cond.code yX4_craneOf cX4_craneOf 4 (some .int), Cond.fieldLink RX4 83 "CranePermits$Crane" "x" "I", Cond.fieldLink RX4 86 "CranePermits$Crane" "y" "I", Cond.fieldLink RX4 89 "CranePermits$Crane" "reach" "I", Cond.fieldLink RX4 92 "CranePermits$Crane" "height" "I", Cond.fieldLink RX4 95 "CranePermits$Crane" "street" "I", Cond.fieldLink RX4 71 "CranePermits$Site" "noises" "[I", Cond.fieldLink RX4 64 "CranePermits$Crane" "number" "I", Cond.methodLink RX4 98 yX4_at, Cond.static yX4_at, Cond.code yX4_at cX4_at 2 (some .int), Cond.methodLink RX4 102 yX2_validOfCrane, Cond.instanceMethod yX2_validOfCrane]
def wsL_swings_r3 : List Cond := [Cond.selects RX2 yX2_validOfCrane yX2_validOfCrane, Cond.code yX2_validOfCrane cX2_validOfCrane 5 (some .int), Cond.fieldLink RX2 55 "CranePermits$Site" "validCount" "I", Cond.methodLink RX2 105 yX2_validAt, Cond.instanceMethod yX2_validAt, Cond.selects RX2 yX2_validAt yX2_validAt, Cond.code yX2_validAt cX2_validAt 3 (some (.object "CranePermits$Permit")), Cond.fieldLink RX2 52 "CranePermits$Site" "valid" "[LCranePermits$Permit;", Cond.methodLink RX2 130 yX1_isFor, Cond.instanceMethod yX1_isFor, Cond.selects RX1 yX1_isFor yX1_isFor, Cond.initialized RX1, Cond.code yX1_isFor cX1_isFor 2 (some .boolean), Cond.fieldLink RX1 13 "CranePermits$Permit" "crane" "LCranePermits$Crane;", Cond.fieldLink RX1 32 "CranePermits$Crane" "number" "I", Cond.methodLink RX4 106 yX2_stopWindOf, Cond.instanceMethod yX2_stopWindOf, Cond.selects RX2 yX2_stopWindOf yX2_stopWindOf, Cond.code yX2_stopWindOf cX2_stopWindOf 2 (some .int), Cond.fieldLink RX2 25 "CranePermits$Site" "settings" "[I", Cond.fieldLink RX2 88 "CranePermits$Crane" "height" "I", Cond.methodLink RL 33 yX4_covers, Cond.instanceMethod yX4_covers, Cond.selects RX4 yX4_covers yX4_covers]
def wsL_swings_r4 : List Cond := [Cond.code yX4_covers cX4_covers 9 (some .int), Cond.methodLink RX4 34 yX4_isCell, Cond.static yX4_isCell, Cond.code yX4_isCell cX4_isCell 2 (some .boolean)]
def wsL_swings : List Cond := .code yL_swings cL_swings 6 (some .boolean) :: ((wsL_swings_r1 ++ (wsL_swings_r2 ++ (wsL_swings_r3 ++ wsL_swings_r4))) ++ wsX40 ++ wsX20 ++ wsX00 ++ wsX10)
def wsL_law_r1 : List Cond := [Cond.classLink RL 10 RX4, Cond.instantiable RX4 5, Cond.initialized RX4, Cond.constant RL 51 (32768), Cond.constant RL 78 (262144), Cond.methodLink RL 36 yX4_init, Cond.instanceMethod yX4_init, Cond.code yX4_init cX4_init 2 none, Cond.methodLink RX4 1 objectInit, Cond.instanceMethod objectInit, Cond.code objectInit ⟨#[0xb1]⟩ 1 none, Cond.classLink RX4 7 RX2, Cond.instantiable RX2 13, Cond.initialized RX2, Cond.fieldLink RX4 10 "CranePermits" "now" "LCranePermits$Site;", Cond.fieldLink RX4 16 "CranePermits" "trial" "LCranePermits$Site;", Cond.fieldLink RX4 19 "CranePermits" "past" "[LCranePermits$Site;", Cond.fieldLink RX4 23 "CranePermits" "pastCount" "I", Cond.classLink RX4 27 RX3, Cond.instantiable RX3 9, Cond.initialized RX3, Cond.fieldLink RX4 30 "CranePermits" "text" "LCranePermits$Text;", Cond.methodLink RX4 9 yX2_init, Cond.instanceMethod yX2_init]
def wsL_law_r2 : List Cond := [Cond.code yX2_init cX2_init 1 none, Cond.methodLink RX2 3 objectInit, Cond.classLink RX2 9 RX0, Cond.fieldLink RX2 11 "CranePermits$Site" "cranes" "[LCranePermits$Crane;", Cond.fieldLink RX2 17 "CranePermits$Site" "craneCount" "I", Cond.arrayClass .int, Cond.fieldLink RX2 21 "CranePermits$Site" "noises" "[I", Cond.fieldLink RX2 25 "CranePermits$Site" "settings" "[I", Cond.fieldLink RX2 28 "CranePermits$Site" "winds" "[I", Cond.fieldLink RX2 31 "CranePermits$Site" "allowances" "[I", Cond.fieldLink RX2 34 "CranePermits$Site" "received" "[I", Cond.fieldLink RX2 37 "CranePermits$Site" "given" "[I", Cond.classLink RX2 40 RX1, Cond.fieldLink RX2 42 "CranePermits$Site" "permits" "[LCranePermits$Permit;", Cond.fieldLink RX2 46 "CranePermits$Site" "permitCount" "I", Cond.fieldLink RX2 49 "CranePermits$Site" "states" "[I", Cond.fieldLink RX2 52 "CranePermits$Site" "valid" "[LCranePermits$Permit;", Cond.fieldLink RX2 55 "CranePermits$Site" "validCount" "I", Cond.methodLink RX2 58 yJ7_fill_53178, Cond.static yJ7_fill_53178, Cond.initialized RJ7, Cond.code yJ7_fill_53178 cJ7_fill_53178 4 none, Cond.instanceMethod yX3_init, Cond.code yX3_init cX3_init 1 none]
def wsL_law_r3 : List Cond := [Cond.methodLink RX3 3 objectInit, Cond.arrayClass .char, Cond.fieldLink RX3 9 "CranePermits$Text" "signs" "[C", Cond.fieldLink RX3 15 "CranePermits$Text" "length" "I", Cond.fieldLink RX3 19 "CranePermits$Text" "start" "I", Cond.fieldLink RX3 22 "CranePermits$Text" "next" "I", Cond.fieldLink RX3 25 "CranePermits$Text" "formed" "Z", Cond.fieldLink RX3 29 "CranePermits$Text" "crane" "I", Cond.fieldLink RX3 32 "CranePermits$Text" "night" "I", Cond.fieldLink RX3 35 "CranePermits$Text" "hours" "I", Cond.fieldLink RX3 38 "CranePermits$Text" "swing" "I", Cond.methodLink RL 37 yL_holds, Cond.static yL_holds, Cond.initialized RL, Cond.code yL_holds cL_holds 10 (some .boolean), Cond.methodLink RL 9 yX4_count, Cond.instanceMethod yX4_count, Cond.selects RX4 yX4_count yX4_count, Cond.code yX4_count cX4_count 2 (some .int), Cond.fieldLink RX4 49 "CranePermits$Site" "craneCount" "I", Cond.fieldLink RX4 152 "CranePermits$Site" "validCount" "I", Cond.fieldLink RX4 155 "CranePermits$Site" "permitCount" "I", Cond.fieldLink RX4 168 "CranePermits$Text" "length" "I", Cond.fieldLink RX4 115 "CranePermits$Site" "settings" "[I"]
def wsL_law_r4 : List Cond := [Cond.methodLink RX4 158 yX2_permitsWith, Cond.instanceMethod yX2_permitsWith, Cond.selects RX2 yX2_permitsWith yX2_permitsWith, Cond.code yX2_permitsWith cX2_permitsWith 4 (some .int), Cond.static yX4_at, Cond.code yX4_at cX4_at 2 (some .int), Cond.methodLink RX4 162 yX2_usedByAll, Cond.instanceMethod yX2_usedByAll, Cond.selects RX2 yX2_usedByAll yX2_usedByAll, Cond.code yX2_usedByAll cX2_usedByAll 4 (some .int), Cond.fieldLink RX2 113 "CranePermits$Permit" "crane" "LCranePermits$Crane;", Cond.fieldLink RX2 117 "CranePermits$Permit" "hours" "I", Cond.methodLink RX2 105 yX2_validAt, Cond.instanceMethod yX2_validAt, Cond.selects RX2 yX2_validAt yX2_validAt, Cond.code yX2_validAt cX2_validAt 3 (some (.object "CranePermits$Permit")), Cond.methodLink RX2 120 yX2_useOf, Cond.instanceMethod yX2_useOf, Cond.selects RX2 yX2_useOf yX2_useOf, Cond.code yX2_useOf cX2_useOf 3 (some .int), Cond.fieldLink RX2 102 "CranePermits$Crane" "number" "I", Cond.methodLink RX4 165 yX2_sharingPairs, Cond.instanceMethod yX2_sharingPairs, Cond.selects RX2 yX2_sharingPairs yX2_sharingPairs]
def wsL_law_r5 : List Cond := [Cond.code yX2_sharingPairs cX2_sharingPairs 6 (some .int), Cond.fieldLink RX2 159 "CranePermits$Permit" "night" "I", Cond.fieldLink RX2 151 "CranePermits$Permit" "swing" "I", Cond.methodLink RX2 154 yX2_shareAir, Cond.instanceMethod yX2_shareAir, Cond.selects RX2 yX2_shareAir yX2_shareAir, Cond.code yX2_shareAir cX2_shareAir 8 (some .boolean), Cond.fieldLink RX2 88 "CranePermits$Crane" "height" "I", Cond.methodLink RX2 141 Lib.Math.abs.name, Cond.static Lib.Math.abs.name, Cond.initialized "java/lang/Math", Cond.code Lib.Math.abs.name Lib.Math.abs.code 1 (some .int), Cond.methodLink RX2 130 yX1_isFor, Cond.instanceMethod yX1_isFor, Cond.selects RX1 yX1_isFor yX1_isFor, Cond.initialized RX1, Cond.code yX1_isFor cX1_isFor 2 (some .boolean), Cond.fieldLink RX1 13 "CranePermits$Permit" "crane" "LCranePermits$Crane;", Cond.fieldLink RX1 32 "CranePermits$Crane" "number" "I", Cond.methodLink RX2 138 yX1_meets, Cond.instanceMethod yX1_meets, Cond.selects RX1 yX1_meets yX1_meets, Cond.code yX1_meets cX1_meets 5 (some .boolean), Cond.fieldLink RX1 26 "CranePermits$Permit" "last" "I"]
def wsL_law_r6 : List Cond := [Cond.fieldLink RX1 23 "CranePermits$Permit" "first" "I", Cond.fieldLink RX1 17 "CranePermits$Permit" "night" "I", Cond.methodLink RX2 147 yX0_airOf, Cond.instanceMethod yX0_airOf, Cond.selects RX0 yX0_airOf yX0_airOf, Cond.initialized RX0, Cond.code yX0_airOf cX0_airOf 8 (some .long), Cond.fieldLink RX0 9 "CranePermits$Crane" "eighths" "[J", Cond.methodLink RX4 98 yX4_at, Cond.methodLink RL 15 yX4_permit, Cond.instanceMethod yX4_permit, Cond.selects RX4 yX4_permit yX4_permit, Cond.code yX4_permit cX4_permit 4 (some .int), Cond.fieldLink RX4 224 "CranePermits$Permit" "crane" "LCranePermits$Crane;", Cond.fieldLink RX4 64 "CranePermits$Crane" "number" "I", Cond.fieldLink RX4 235 "CranePermits$Permit" "night" "I", Cond.fieldLink RX4 228 "CranePermits$Permit" "hours" "I", Cond.fieldLink RX4 238 "CranePermits$Permit" "swing" "I", Cond.fieldLink RX4 217 "CranePermits$Site" "states" "[I", Cond.fieldLink RX4 212 "CranePermits$Permit" "number" "I", Cond.methodLink RX4 213 yX2_permitAt, Cond.instanceMethod yX2_permitAt, Cond.selects RX2 yX2_permitAt yX2_permitAt, Cond.code yX2_permitAt cX2_permitAt 3 (some (.object "CranePermits$Permit"))]
def wsL_law_r7 : List Cond := [Cond.methodLink RX4 231 yX2_useOf, Cond.methodLink RL 19 yX4_street, Cond.instanceMethod yX4_street, Cond.selects RX4 yX4_street yX4_street, Cond.code yX4_street cX4_street 4 (some .int), Cond.fieldLink RX4 137 "CranePermits$Site" "received" "[I", Cond.fieldLink RX4 134 "CranePermits$Site" "given" "[I", Cond.fieldLink RX4 121 "CranePermits$Site" "winds" "[I", Cond.methodLink RX4 42 yX4_isStreet, Cond.static yX4_isStreet, Cond.code yX4_isStreet cX4_isStreet 1 (some .boolean), Cond.methodLink RX4 38 yX4_isIn, Cond.static yX4_isIn, Cond.code yX4_isIn cX4_isIn 3 (some .boolean), Cond.methodLink RX4 118 yX4_isNight, Cond.static yX4_isNight, Cond.code yX4_isNight cX4_isNight 1 (some .boolean), Cond.methodLink RX4 140 yX2_allowanceOf, Cond.instanceMethod yX2_allowanceOf, Cond.selects RX2 yX2_allowanceOf yX2_allowanceOf, Cond.code yX2_allowanceOf cX2_allowanceOf 4 (some .int), Cond.static yX4_streetNight, Cond.code yX4_streetNight cX4_streetNight 2 (some .int), Cond.methodLink RX4 127 yX4_streetNight]
def wsL_law_r8 : List Cond := [Cond.methodLink RX4 143 yX2_creditsOf, Cond.instanceMethod yX2_creditsOf, Cond.selects RX2 yX2_creditsOf yX2_creditsOf, Cond.code yX2_creditsOf cX2_creditsOf 4 (some .int), Cond.methodLink RX2 99 yX2_allowanceOf, Cond.methodLink RX4 146 yX2_usedOf, Cond.instanceMethod yX2_usedOf, Cond.selects RX2 yX2_usedOf yX2_usedOf, Cond.code yX2_usedOf cX2_usedOf 6 (some .int), Cond.methodLink RX2 109 yX1_isOf, Cond.instanceMethod yX1_isOf, Cond.selects RX1 yX1_isOf yX1_isOf, Cond.code yX1_isOf cX1_isOf 3 (some .boolean), Cond.fieldLink RX1 35 "CranePermits$Crane" "street" "I", Cond.methodLink RX4 149 yX2_validOfStreet, Cond.instanceMethod yX2_validOfStreet, Cond.selects RX2 yX2_validOfStreet yX2_validOfStreet, Cond.code yX2_validOfStreet cX2_validOfStreet 6 (some .int), Cond.methodLink RL 23 yX4_craneOf, Cond.instanceMethod yX4_craneOf, Cond.selects RX4 yX4_craneOf yX4_craneOf, Cond.code yX4_craneOf cX4_craneOf 4 (some .int), Cond.fieldLink RX4 83 "CranePermits$Crane" "x" "I", Cond.fieldLink RX4 86 "CranePermits$Crane" "y" "I"]
def wsL_law_r9 : List Cond := [Cond.fieldLink RX4 89 "CranePermits$Crane" "reach" "I", Cond.fieldLink RX4 92 "CranePermits$Crane" "height" "I", Cond.fieldLink RX4 95 "CranePermits$Crane" "street" "I", Cond.fieldLink RX4 71 "CranePermits$Site" "noises" "[I", Cond.methodLink RX4 67 yX2_craneAt, Cond.instanceMethod yX2_craneAt, Cond.selects RX2 yX2_craneAt yX2_craneAt, Cond.code yX2_craneAt cX2_craneAt 3 (some (.object "CranePermits$Crane")), Cond.methodLink RX4 102 yX2_validOfCrane, Cond.instanceMethod yX2_validOfCrane, Cond.selects RX2 yX2_validOfCrane yX2_validOfCrane, Cond.code yX2_validOfCrane cX2_validOfCrane 5 (some .int), Cond.methodLink RX4 106 yX2_stopWindOf, Cond.instanceMethod yX2_stopWindOf, Cond.selects RX2 yX2_stopWindOf yX2_stopWindOf, Cond.code yX2_stopWindOf cX2_stopWindOf 2 (some .int), Cond.methodLink RL 26 yX4_refusal, Cond.instanceMethod yX4_refusal, Cond.selects RX4 yX4_refusal yX4_refusal, Cond.code yX4_refusal cX4_refusal 6 (some .int), Cond.methodLink RX4 192 yX4_isPlan, Cond.static yX4_isPlan, Cond.code yX4_isPlan cX4_isPlan 3 (some .boolean), Cond.methodLink RX4 179 yX4_isSwing]
def wsL_law_r10 : List Cond := [Cond.static yX4_isSwing, Cond.code yX4_isSwing cX4_isSwing 1 (some .boolean), Cond.methodLink RX4 195 yX2_refusalOf, Cond.instanceMethod yX2_refusalOf, Cond.selects RX2 yX2_refusalOf yX2_refusalOf, Cond.code yX2_refusalOf cX2_refusalOf 6 (some .int), Cond.fieldLink RX2 174 "CranePermits$Crane" "street" "I", Cond.methodLink RX2 162 yX2_isBusy, Cond.instanceMethod yX2_isBusy, Cond.selects RX2 yX2_isBusy yX2_isBusy, Cond.code yX2_isBusy cX2_isBusy 6 (some .boolean), Cond.methodLink RX2 166 yX2_mustStop, Cond.instanceMethod yX2_mustStop, Cond.selects RX2 yX2_mustStop yX2_mustStop, Cond.code yX2_mustStop cX2_mustStop 3 (some .boolean), Cond.methodLink RX2 91 yX2_stopWindOf, Cond.methodLink RX2 170 yX2_lowestSharing, Cond.instanceMethod yX2_lowestSharing, Cond.selects RX2 yX2_lowestSharing yX2_lowestSharing, Cond.code yX2_lowestSharing cX2_lowestSharing 7 (some .int), Cond.fieldLink RX2 158 "CranePermits$Permit" "number" "I", Cond.methodLink RX2 127 yX2_usedOf, Cond.methodLink RX2 124 yX2_creditsOf, Cond.methodLink RL 43 yX4_undo]
def wsL_law_r11 : List Cond := [Cond.instanceMethod yX4_undo, Cond.selects RX4 yX4_undo yX4_undo, Cond.code yX4_undo cX4_undo 2 (some .int), Cond.methodLink RX4 171 yX4_pastAt, Cond.instanceMethod yX4_pastAt, Cond.selects RX4 yX4_pastAt yX4_pastAt, Cond.code yX4_pastAt cX4_pastAt 2 (some (.object "CranePermits$Site")), Cond.methodLink RX4 175 yX2_copyFrom, Cond.instanceMethod yX2_copyFrom, Cond.selects RX2 yX2_copyFrom yX2_copyFrom, Cond.code yX2_copyFrom cX2_copyFrom 2 none, Cond.methodLink RX2 64 arraycopyName, Cond.native arraycopyName, Cond.static arraycopyName, Cond.initialized "java/lang/System", Cond.methodLink RL 47 yL_cell, Cond.static yL_cell, Cond.code yL_cell cL_cell 2 (some .int), Cond.constant RL 7 (15485959), Cond.constant RL 8 (2147483647), Cond.methodLink RL 52 yX4_crane, Cond.instanceMethod yX4_crane, Cond.selects RX4 yX4_crane yX4_crane, Cond.code yX4_crane cX4_crane 8 (some .int)]
def wsL_law_r12 : List Cond := [Cond.classLink RX4 55 RX0, Cond.instantiable RX0 7, Cond.methodLink RX4 34 yX4_isCell, Cond.static yX4_isCell, Cond.code yX4_isCell cX4_isCell 2 (some .boolean), Cond.methodLink RX4 46 yX2_hasCraneIn, Cond.instanceMethod yX2_hasCraneIn, Cond.selects RX2 yX2_hasCraneIn yX2_hasCraneIn, Cond.code yX2_hasCraneIn cX2_hasCraneIn 5 (some .boolean), Cond.fieldLink RX2 74 "CranePermits$Crane" "x" "I", Cond.fieldLink RX2 77 "CranePermits$Crane" "y" "I", Cond.methodLink RX2 70 yX2_craneAt, Cond.methodLink RX4 52 yX4_remember, Cond.instanceMethod yX4_remember, Cond.selects RX4 yX4_remember yX4_remember, Cond.code yX4_remember cX4_remember 2 none, Cond.methodLink RX4 265 yX4_dropOldest, Cond.instanceMethod yX4_dropOldest, Cond.selects RX4 yX4_dropOldest yX4_dropOldest, Cond.code yX4_dropOldest cX4_dropOldest 3 none, Cond.methodLink RX4 57 yX0_init, Cond.instanceMethod yX0_init, Cond.code yX0_init cX0_init 10 none, Cond.methodLink RX0 3 objectInit]
def wsL_law_r13 : List Cond := [Cond.arrayClass .long, Cond.fieldLink RX0 15 "CranePermits$Crane" "number" "I", Cond.fieldLink RX0 19 "CranePermits$Crane" "x" "I", Cond.fieldLink RX0 22 "CranePermits$Crane" "y" "I", Cond.fieldLink RX0 25 "CranePermits$Crane" "reach" "I", Cond.fieldLink RX0 28 "CranePermits$Crane" "height" "I", Cond.fieldLink RX0 31 "CranePermits$Crane" "street" "I", Cond.methodLink RX0 34 yX0_markOwnCell, Cond.instanceMethod yX0_markOwnCell, Cond.selects RX0 yX0_markOwnCell yX0_markOwnCell, Cond.code yX0_markOwnCell cX0_markOwnCell 3 none, Cond.methodLink RX0 42 yX0_mark, Cond.instanceMethod yX0_mark, Cond.selects RX0 yX0_mark yX0_mark, Cond.code yX0_mark cX0_mark 4 none, Cond.methodLink RX0 38 yX0_directionOf, Cond.static yX0_directionOf, Cond.code yX0_directionOf cX0_directionOf 2 (some .int), Cond.methodLink RX4 60 yX2_addCrane, Cond.instanceMethod yX2_addCrane, Cond.selects RX2 yX2_addCrane yX2_addCrane, Cond.code yX2_addCrane cX2_addCrane 3 none, Cond.static yX4_put, Cond.code yX4_put cX4_put 3 none]
def wsL_law_r14 : List Cond := [Cond.methodLink RL 56 yL_swings, Cond.static yL_swings, Cond.code yL_swings cL_swings 6 (some .boolean), Cond.methodLink RL 30 yX4_area, Cond.instanceMethod yX4_area, Cond.selects RX4 yX4_area yX4_area, Cond.code yX4_area cX4_area 6 (some .int), Cond.methodLink RX4 182 yX0_airOf, Cond.methodLink RX4 186 yJ13_bitCount_95d88, Cond.static yJ13_bitCount_95d88, Cond.initialized RJ13, Cond.code yJ13_bitCount_95d88 cJ13_bitCount_95d88 2 (some .int), Cond.constantLong RJ13 314 (6148914691236517205), Cond.constantLong RJ13 316 (3689348814741910323), Cond.constantLong RJ13 318 (1085102592571150095), Cond.methodLink RL 33 yX4_covers, Cond.instanceMethod yX4_covers, Cond.selects RX4 yX4_covers yX4_covers, Cond.code yX4_covers cX4_covers 9 (some .int), Cond.methodLink RL 60 yX4_wind, Cond.instanceMethod yX4_wind, Cond.selects RX4 yX4_wind yX4_wind, Cond.code yX4_wind cX4_wind 3 (some .int), Cond.methodLink RX4 75 yX4_put]
def wsL_law_r15 : List Cond := [Cond.methodLink RX4 79 yX2_withdrawFailing, Cond.instanceMethod yX2_withdrawFailing, Cond.selects RX2 yX2_withdrawFailing yX2_withdrawFailing, Cond.code yX2_withdrawFailing cX2_withdrawFailing 4 (some .int), Cond.methodLink RX2 177 yX2_freeOf, Cond.instanceMethod yX2_freeOf, Cond.selects RX2 yX2_freeOf yX2_freeOf, Cond.code yX2_freeOf cX2_freeOf 3 (some .int), Cond.methodLink RX2 180 yX2_end, Cond.instanceMethod yX2_end, Cond.selects RX2 yX2_end yX2_end, Cond.code yX2_end cX2_end 6 none, Cond.methodLink RL 63 yX4_allow, Cond.instanceMethod yX4_allow, Cond.selects RX4 yX4_allow yX4_allow, Cond.code yX4_allow cX4_allow 4 (some .int), Cond.fieldLink RX4 124 "CranePermits$Site" "allowances" "[I", Cond.methodLink RL 66 yX4_transfer, Cond.instanceMethod yX4_transfer, Cond.selects RX4 yX4_transfer yX4_transfer, Cond.code yX4_transfer cX4_transfer 8 (some .int), Cond.methodLink RX4 131 yX2_freeOf, Cond.methodLink RL 69 yX4_inOrder, Cond.instanceMethod yX4_inOrder]
def wsL_law_r16 : List Cond := [Cond.selects RX4 yX4_inOrder yX4_inOrder, Cond.code yX4_inOrder cX4_inOrder 4 (some .int), Cond.methodLink RX4 241 yX2_validAt, Cond.methodLink RX4 244 yX2_validAhead, Cond.instanceMethod yX2_validAhead, Cond.selects RX2 yX2_validAhead yX2_validAhead, Cond.code yX2_validAhead cX2_validAhead 5 (some .int), Cond.methodLink RX2 134 yX1_isAheadOf, Cond.instanceMethod yX1_isAheadOf, Cond.selects RX1 yX1_isAheadOf yX1_isAheadOf, Cond.code yX1_isAheadOf cX1_isAheadOf 2 (some .boolean), Cond.fieldLink RX1 7 "CranePermits$Permit" "number" "I", Cond.methodLink RL 72 yX4_withdraw, Cond.instanceMethod yX4_withdraw, Cond.selects RX4 yX4_withdraw yX4_withdraw, Cond.code yX4_withdraw cX4_withdraw 3 (some .int), Cond.methodLink RX4 220 yX2_end, Cond.methodLink RL 75 yX4_noise, Cond.instanceMethod yX4_noise, Cond.selects RX4 yX4_noise yX4_noise, Cond.code yX4_noise cX4_noise 4 (some .int), Cond.methodLink RL 79 yX4_apply, Cond.instanceMethod yX4_apply, Cond.selects RX4 yX4_apply yX4_apply]
def wsL_law_r17 : List Cond := [Cond.code yX4_apply cX4_apply 7 (some .int), Cond.classLink RX4 203 RX1, Cond.instantiable RX1 7, Cond.methodLink RX4 199 yX2_hasRoom, Cond.instanceMethod yX2_hasRoom, Cond.selects RX2 yX2_hasRoom yX2_hasRoom, Cond.code yX2_hasRoom cX2_hasRoom 1 (some .boolean), Cond.methodLink RX4 205 yX1_init, Cond.instanceMethod yX1_init, Cond.code yX1_init cX1_init 6 none, Cond.methodLink RX1 1 objectInit, Cond.fieldLink RX1 20 "CranePermits$Permit" "hours" "I", Cond.fieldLink RX1 29 "CranePermits$Permit" "swing" "I", Cond.methodLink RX4 208 yX2_grant, Cond.instanceMethod yX2_grant, Cond.selects RX2 yX2_grant yX2_grant, Cond.code yX2_grant cX2_grant 2 none, Cond.methodLink RL 82 yX4_inTheWay, Cond.instanceMethod yX4_inTheWay, Cond.selects RX4 yX4_inTheWay yX4_inTheWay, Cond.code yX4_inTheWay cX4_inTheWay 7 (some .int), Cond.methodLink RX4 252 yX2_lowestSharing, Cond.methodLink RL 85 yX4_set, Cond.instanceMethod yX4_set]
def wsL_law_r18 : List Cond := [Cond.selects RX4 yX4_set yX4_set, Cond.code yX4_set cX4_set 3 (some .int), Cond.fieldLink RX4 109 "CranePermits" "SETTING_LEAST" "[I", Cond.fieldLink RX4 112 "CranePermits" "SETTING_MOST" "[I"]
def wsL_law : List Cond := (wsL_law_r1 ++ (wsL_law_r2 ++ (wsL_law_r3 ++ (wsL_law_r4 ++ (wsL_law_r5 ++ (wsL_law_r6 ++ (wsL_law_r7 ++ (wsL_law_r8 ++ (wsL_law_r9 ++ (wsL_law_r10 ++ (wsL_law_r11 ++ (wsL_law_r12 ++ (wsL_law_r13 ++ (wsL_law_r14 ++ (wsL_law_r15 ++ (wsL_law_r16 ++ (wsL_law_r17 ++ wsL_law_r18))))))))))))))))) ++ wsX40 ++ wsX20 ++ wsX30 ++ wsX10 ++ wsX00 ++ ([] : List Cond)
theorem inlX0 : ∀ w ∈ wsX00, w ∈ wsL_law := fun _ h => List.mem_append_left _ (List.mem_append_right _ h)
theorem inlX1 : ∀ w ∈ wsX10, w ∈ wsL_law := fun _ h => List.mem_append_left _ (List.mem_append_left _ (List.mem_append_right _ h))
theorem inlX2 : ∀ w ∈ wsX20, w ∈ wsL_law := fun _ h => List.mem_append_left _ (List.mem_append_left _ (List.mem_append_left _ (List.mem_append_left _ (List.mem_append_right _ h))))
theorem inlX3 : ∀ w ∈ wsX30, w ∈ wsL_law := fun _ h => List.mem_append_left _ (List.mem_append_left _ (List.mem_append_left _ (List.mem_append_right _ h)))
theorem inlX4 : ∀ w ∈ wsX40, w ∈ wsL_law := fun _ h => List.mem_append_left _ (List.mem_append_left _ (List.mem_append_left _ (List.mem_append_left _ (List.mem_append_left _ (List.mem_append_right _ h)))))
theorem inJ13 : ∀ w ∈ wsJ130, w ∈ lw_tbl := by decide +kernel
theorem inJ9 : ∀ w ∈ wsJ90, w ∈ lw_tbl := by decide +kernel
theorem inJ10 : ∀ w ∈ wsJ100, w ∈ lw_tbl := by decide +kernel
theorem inJ7 : ∀ w ∈ wsJ70, w ∈ lw_tbl := by decide +kernel
set_option maxRecDepth 20000 in
theorem ggX0_init_X0_markOwnCell : GoodIn wsX0_init wsX0_markOwnCell := goodIn_r _ [16, 17, 18, 19, 15, 20, 5, 24, 25, 26, 27, 28, 29, 30] (by decide +kernel) (by decide +kernel)
set_option maxRecDepth 20000 in
theorem gX0_init_X0_markOwnCell : GoodIn wsX0_init (wsV RX0 34 RX0 yX0_markOwnCell wsX0_markOwnCell) := goodIn_app (goodIn_of _ (by decide +kernel)) ggX0_init_X0_markOwnCell
set_option maxRecDepth 20000 in
theorem ggX0_init_X0_directionOf : GoodIn wsX0_init wsX0_directionOf := goodIn_r _ [23] (by decide +kernel) (by decide +kernel)
set_option maxRecDepth 20000 in
theorem gX0_init_X0_directionOf : GoodIn wsX0_init (va_wsS RX0 38 yX0_directionOf wsX0_directionOf) := goodIn_app (goodIn_of _ (by decide +kernel)) ggX0_init_X0_directionOf
set_option maxRecDepth 20000 in
theorem ggX0_init_X0_mark : GoodIn wsX0_init wsX0_mark := goodIn_r _ [20, 5, 24, 25, 26, 27, 28, 29, 30] (by decide +kernel) (by decide +kernel)
set_option maxRecDepth 20000 in
theorem gX0_init_X0_mark : GoodIn wsX0_init (wsV RX0 42 RX0 yX0_mark wsX0_mark) := goodIn_app (goodIn_of _ (by decide +kernel)) ggX0_init_X0_mark
theorem dX0_init_0 : decode cX0_init 0 = .ok (.aload_n 0, 1) := by decide +kernel
theorem dX0_init_1 : decode cX0_init 1 = .ok (.invokespecial 3, 3) := by decide +kernel
theorem dX0_init_4 : decode cX0_init 4 = .ok (.aload_n 0, 1) := by decide +kernel
theorem dX0_init_5 : decode cX0_init 5 = .ok (.bipush 32, 2) := by decide +kernel
theorem dX0_init_7 : decode cX0_init 7 = .ok (.newarray .long, 2) := by decide +kernel
theorem dX0_init_9 : decode cX0_init 9 = .ok (.putfield 9, 3) := by decide +kernel
theorem dX0_init_12 : decode cX0_init 12 = .ok (.aload_n 0, 1) := by decide +kernel
theorem dX0_init_13 : decode cX0_init 13 = .ok (.iload_n 1, 1) := by decide +kernel
theorem dX0_init_14 : decode cX0_init 14 = .ok (.putfield 15, 3) := by decide +kernel
theorem dX0_init_17 : decode cX0_init 17 = .ok (.aload_n 0, 1) := by decide +kernel
theorem dX0_init_18 : decode cX0_init 18 = .ok (.iload_n 2, 1) := by decide +kernel
theorem dX0_init_19 : decode cX0_init 19 = .ok (.putfield 19, 3) := by decide +kernel
theorem dX0_init_22 : decode cX0_init 22 = .ok (.aload_n 0, 1) := by decide +kernel
theorem dX0_init_23 : decode cX0_init 23 = .ok (.iload_n 3, 1) := by decide +kernel
theorem dX0_init_24 : decode cX0_init 24 = .ok (.putfield 22, 3) := by decide +kernel
theorem dX0_init_27 : decode cX0_init 27 = .ok (.aload_n 0, 1) := by decide +kernel
theorem dX0_init_28 : decode cX0_init 28 = .ok (.iload 4, 2) := by decide +kernel
theorem dX0_init_30 : decode cX0_init 30 = .ok (.putfield 25, 3) := by decide +kernel
theorem dX0_init_33 : decode cX0_init 33 = .ok (.aload_n 0, 1) := by decide +kernel
theorem dX0_init_34 : decode cX0_init 34 = .ok (.iload 5, 2) := by decide +kernel
theorem dX0_init_36 : decode cX0_init 36 = .ok (.putfield 28, 3) := by decide +kernel
theorem dX0_init_39 : decode cX0_init 39 = .ok (.aload_n 0, 1) := by decide +kernel
theorem dX0_init_40 : decode cX0_init 40 = .ok (.iload 6, 2) := by decide +kernel
theorem dX0_init_42 : decode cX0_init 42 = .ok (.putfield 31, 3) := by decide +kernel
theorem dX0_init_45 : decode cX0_init 45 = .ok (.iconst 0, 1) := by decide +kernel
theorem dX0_init_46 : decode cX0_init 46 = .ok (.istore 7, 2) := by decide +kernel
theorem dX0_init_48 : decode cX0_init 48 = .ok (.iload 7, 2) := by decide +kernel
theorem dX0_init_50 : decode cX0_init 50 = .ok (.sipush 256, 3) := by decide +kernel
theorem dX0_init_53 : decode cX0_init 53 = .ok (.if_icmp .ge 78, 3) := by decide +kernel
theorem dX0_init_56 : decode cX0_init 56 = .ok (.iload 7, 2) := by decide +kernel
theorem dX0_init_58 : decode cX0_init 58 = .ok (.bipush 16, 2) := by decide +kernel
theorem dX0_init_60 : decode cX0_init 60 = .ok (.irem, 1) := by decide +kernel
theorem dX0_init_61 : decode cX0_init 61 = .ok (.iload_n 2, 1) := by decide +kernel
theorem dX0_init_62 : decode cX0_init 62 = .ok (.isub, 1) := by decide +kernel
theorem dX0_init_63 : decode cX0_init 63 = .ok (.istore 8, 2) := by decide +kernel
theorem dX0_init_65 : decode cX0_init 65 = .ok (.iload 7, 2) := by decide +kernel
theorem dX0_init_67 : decode cX0_init 67 = .ok (.bipush 16, 2) := by decide +kernel
theorem dX0_init_69 : decode cX0_init 69 = .ok (.idiv, 1) := by decide +kernel
theorem dX0_init_70 : decode cX0_init 70 = .ok (.iload_n 3, 1) := by decide +kernel
theorem dX0_init_71 : decode cX0_init 71 = .ok (.isub, 1) := by decide +kernel
theorem dX0_init_72 : decode cX0_init 72 = .ok (.istore 9, 2) := by decide +kernel
theorem dX0_init_74 : decode cX0_init 74 = .ok (.iload 8, 2) := by decide +kernel
theorem dX0_init_76 : decode cX0_init 76 = .ok (.ifCond .ne 17, 3) := by decide +kernel
theorem dX0_init_79 : decode cX0_init 79 = .ok (.iload 9, 2) := by decide +kernel
theorem dX0_init_81 : decode cX0_init 81 = .ok (.ifCond .ne 12, 3) := by decide +kernel
theorem dX0_init_84 : decode cX0_init 84 = .ok (.aload_n 0, 1) := by decide +kernel
theorem dX0_init_85 : decode cX0_init 85 = .ok (.iload 7, 2) := by decide +kernel
theorem dX0_init_87 : decode cX0_init 87 = .ok (.invokevirtual 34, 3) := by decide +kernel
theorem dX0_init_90 : decode cX0_init 90 = .ok (.goto 35, 3) := by decide +kernel
theorem dX0_init_93 : decode cX0_init 93 = .ok (.iload 8, 2) := by decide +kernel
theorem dX0_init_95 : decode cX0_init 95 = .ok (.iload 8, 2) := by decide +kernel
theorem dX0_init_97 : decode cX0_init 97 = .ok (.imul, 1) := by decide +kernel
theorem dX0_init_98 : decode cX0_init 98 = .ok (.iload 9, 2) := by decide +kernel
theorem dX0_init_100 : decode cX0_init 100 = .ok (.iload 9, 2) := by decide +kernel
theorem dX0_init_102 : decode cX0_init 102 = .ok (.imul, 1) := by decide +kernel
theorem dX0_init_103 : decode cX0_init 103 = .ok (.iadd, 1) := by decide +kernel
theorem dX0_init_104 : decode cX0_init 104 = .ok (.iload 4, 2) := by decide +kernel
theorem dX0_init_106 : decode cX0_init 106 = .ok (.iload 4, 2) := by decide +kernel
theorem dX0_init_108 : decode cX0_init 108 = .ok (.imul, 1) := by decide +kernel
theorem dX0_init_109 : decode cX0_init 109 = .ok (.if_icmp .gt 16, 3) := by decide +kernel
theorem dX0_init_112 : decode cX0_init 112 = .ok (.aload_n 0, 1) := by decide +kernel
theorem dX0_init_113 : decode cX0_init 113 = .ok (.iload 8, 2) := by decide +kernel
theorem dX0_init_115 : decode cX0_init 115 = .ok (.iload 9, 2) := by decide +kernel
theorem dX0_init_117 : decode cX0_init 117 = .ok (.invokestatic 38, 3) := by decide +kernel
theorem dX0_init_120 : decode cX0_init 120 = .ok (.iload 7, 2) := by decide +kernel
theorem dX0_init_122 : decode cX0_init 122 = .ok (.invokevirtual 42, 3) := by decide +kernel
theorem dX0_init_125 : decode cX0_init 125 = .ok (.iinc 7 1, 3) := by decide +kernel
theorem dX0_init_128 : decode cX0_init 128 = .ok (.goto (-80), 3) := by decide +kernel
theorem dX0_init_131 : decode cX0_init 131 = .ok (.return_, 1) := by decide +kernel
set_option maxRecDepth 20000 in
theorem ggX0_markOwnCell_X0_mark : GoodIn wsX0_markOwnCell wsX0_mark := goodIn_r _ [5, 6, 7, 8, 9, 10, 11, 12, 13] (by decide +kernel) (by decide +kernel)
set_option maxRecDepth 20000 in
theorem gX0_markOwnCell_X0_mark : GoodIn wsX0_markOwnCell (wsV RX0 42 RX0 yX0_mark wsX0_mark) := goodIn_app (goodIn_of _ (by decide +kernel)) ggX0_markOwnCell_X0_mark
theorem dX0_markOwnCell_0 : decode cX0_markOwnCell 0 = .ok (.iconst 0, 1) := by decide +kernel
theorem dX0_markOwnCell_1 : decode cX0_markOwnCell 1 = .ok (.istore_n 2, 1) := by decide +kernel
theorem dX0_markOwnCell_2 : decode cX0_markOwnCell 2 = .ok (.iload_n 2, 1) := by decide +kernel
theorem dX0_markOwnCell_3 : decode cX0_markOwnCell 3 = .ok (.bipush 8, 2) := by decide +kernel
theorem dX0_markOwnCell_5 : decode cX0_markOwnCell 5 = .ok (.if_icmp .ge 15, 3) := by decide +kernel
theorem dX0_markOwnCell_8 : decode cX0_markOwnCell 8 = .ok (.aload_n 0, 1) := by decide +kernel
theorem dX0_markOwnCell_9 : decode cX0_markOwnCell 9 = .ok (.iload_n 2, 1) := by decide +kernel
theorem dX0_markOwnCell_10 : decode cX0_markOwnCell 10 = .ok (.iload_n 1, 1) := by decide +kernel
theorem dX0_markOwnCell_11 : decode cX0_markOwnCell 11 = .ok (.invokevirtual 42, 3) := by decide +kernel
theorem dX0_markOwnCell_14 : decode cX0_markOwnCell 14 = .ok (.iinc 2 1, 3) := by decide +kernel
theorem dX0_markOwnCell_17 : decode cX0_markOwnCell 17 = .ok (.goto (-15), 3) := by decide +kernel
theorem dX0_markOwnCell_20 : decode cX0_markOwnCell 20 = .ok (.return_, 1) := by decide +kernel
theorem dX0_mark_0 : decode cX0_mark 0 = .ok (.iconst 4, 1) := by decide +kernel
theorem dX0_mark_1 : decode cX0_mark 1 = .ok (.iload_n 1, 1) := by decide +kernel
theorem dX0_mark_2 : decode cX0_mark 2 = .ok (.imul, 1) := by decide +kernel
theorem dX0_mark_3 : decode cX0_mark 3 = .ok (.iload_n 2, 1) := by decide +kernel
theorem dX0_mark_4 : decode cX0_mark 4 = .ok (.bipush 64, 2) := by decide +kernel
theorem dX0_mark_6 : decode cX0_mark 6 = .ok (.idiv, 1) := by decide +kernel
theorem dX0_mark_7 : decode cX0_mark 7 = .ok (.iadd, 1) := by decide +kernel
theorem dX0_mark_8 : decode cX0_mark 8 = .ok (.istore_n 3, 1) := by decide +kernel
theorem dX0_mark_9 : decode cX0_mark 9 = .ok (.iload_n 3, 1) := by decide +kernel
theorem dX0_mark_10 : decode cX0_mark 10 = .ok (.ifCond .lt 27, 3) := by decide +kernel
theorem dX0_mark_13 : decode cX0_mark 13 = .ok (.iload_n 3, 1) := by decide +kernel
theorem dX0_mark_14 : decode cX0_mark 14 = .ok (.aload_n 0, 1) := by decide +kernel
theorem dX0_mark_15 : decode cX0_mark 15 = .ok (.getfield 9, 3) := by decide +kernel
theorem dX0_mark_18 : decode cX0_mark 18 = .ok (.arraylength, 1) := by decide +kernel
theorem dX0_mark_19 : decode cX0_mark 19 = .ok (.if_icmp .ge 18, 3) := by decide +kernel
theorem dX0_mark_22 : decode cX0_mark 22 = .ok (.aload_n 0, 1) := by decide +kernel
theorem dX0_mark_23 : decode cX0_mark 23 = .ok (.getfield 9, 3) := by decide +kernel
theorem dX0_mark_26 : decode cX0_mark 26 = .ok (.iload_n 3, 1) := by decide +kernel
theorem dX0_mark_27 : decode cX0_mark 27 = .ok (.dup2, 1) := by decide +kernel
theorem dX0_mark_28 : decode cX0_mark 28 = .ok (.laload, 1) := by decide +kernel
theorem dX0_mark_29 : decode cX0_mark 29 = .ok (.lconst 1, 1) := by decide +kernel
theorem dX0_mark_30 : decode cX0_mark 30 = .ok (.iload_n 2, 1) := by decide +kernel
theorem dX0_mark_31 : decode cX0_mark 31 = .ok (.bipush 64, 2) := by decide +kernel
theorem dX0_mark_33 : decode cX0_mark 33 = .ok (.irem, 1) := by decide +kernel
theorem dX0_mark_34 : decode cX0_mark 34 = .ok (.lshl, 1) := by decide +kernel
theorem dX0_mark_35 : decode cX0_mark 35 = .ok (.lor, 1) := by decide +kernel
theorem dX0_mark_36 : decode cX0_mark 36 = .ok (.lastore, 1) := by decide +kernel
theorem dX0_mark_37 : decode cX0_mark 37 = .ok (.return_, 1) := by decide +kernel
theorem dX0_directionOf_0 : decode cX0_directionOf 0 = .ok (.iload_n 0, 1) := by decide +kernel
theorem dX0_directionOf_1 : decode cX0_directionOf 1 = .ok (.ifCond .le 18, 3) := by decide +kernel
theorem dX0_directionOf_4 : decode cX0_directionOf 4 = .ok (.iload_n 1, 1) := by decide +kernel
theorem dX0_directionOf_5 : decode cX0_directionOf 5 = .ok (.ifCond .lt 14, 3) := by decide +kernel
theorem dX0_directionOf_8 : decode cX0_directionOf 8 = .ok (.iload_n 1, 1) := by decide +kernel
theorem dX0_directionOf_9 : decode cX0_directionOf 9 = .ok (.iload_n 0, 1) := by decide +kernel
theorem dX0_directionOf_10 : decode cX0_directionOf 10 = .ok (.if_icmp .ge 7, 3) := by decide +kernel
theorem dX0_directionOf_13 : decode cX0_directionOf 13 = .ok (.iconst 0, 1) := by decide +kernel
theorem dX0_directionOf_14 : decode cX0_directionOf 14 = .ok (.goto 4, 3) := by decide +kernel
theorem dX0_directionOf_17 : decode cX0_directionOf 17 = .ok (.iconst 1, 1) := by decide +kernel
theorem dX0_directionOf_18 : decode cX0_directionOf 18 = .ok (.ireturn, 1) := by decide +kernel
theorem dX0_directionOf_19 : decode cX0_directionOf 19 = .ok (.iload_n 1, 1) := by decide +kernel
theorem dX0_directionOf_20 : decode cX0_directionOf 20 = .ok (.ifCond .le 15, 3) := by decide +kernel
theorem dX0_directionOf_23 : decode cX0_directionOf 23 = .ok (.iload_n 0, 1) := by decide +kernel
theorem dX0_directionOf_24 : decode cX0_directionOf 24 = .ok (.ineg, 1) := by decide +kernel
theorem dX0_directionOf_25 : decode cX0_directionOf 25 = .ok (.iload_n 1, 1) := by decide +kernel
theorem dX0_directionOf_26 : decode cX0_directionOf 26 = .ok (.if_icmp .ge 7, 3) := by decide +kernel
theorem dX0_directionOf_29 : decode cX0_directionOf 29 = .ok (.iconst 2, 1) := by decide +kernel
theorem dX0_directionOf_30 : decode cX0_directionOf 30 = .ok (.goto 4, 3) := by decide +kernel
theorem dX0_directionOf_33 : decode cX0_directionOf 33 = .ok (.iconst 3, 1) := by decide +kernel
theorem dX0_directionOf_34 : decode cX0_directionOf 34 = .ok (.ireturn, 1) := by decide +kernel
theorem dX0_directionOf_35 : decode cX0_directionOf 35 = .ok (.iload_n 0, 1) := by decide +kernel
theorem dX0_directionOf_36 : decode cX0_directionOf 36 = .ok (.ifCond .ge 16, 3) := by decide +kernel
theorem dX0_directionOf_39 : decode cX0_directionOf 39 = .ok (.iload_n 1, 1) := by decide +kernel
theorem dX0_directionOf_40 : decode cX0_directionOf 40 = .ok (.ineg, 1) := by decide +kernel
theorem dX0_directionOf_41 : decode cX0_directionOf 41 = .ok (.iload_n 0, 1) := by decide +kernel
theorem dX0_directionOf_42 : decode cX0_directionOf 42 = .ok (.ineg, 1) := by decide +kernel
theorem dX0_directionOf_43 : decode cX0_directionOf 43 = .ok (.if_icmp .ge 7, 3) := by decide +kernel
theorem dX0_directionOf_46 : decode cX0_directionOf 46 = .ok (.iconst 4, 1) := by decide +kernel
theorem dX0_directionOf_47 : decode cX0_directionOf 47 = .ok (.goto 4, 3) := by decide +kernel
theorem dX0_directionOf_50 : decode cX0_directionOf 50 = .ok (.iconst 5, 1) := by decide +kernel
theorem dX0_directionOf_51 : decode cX0_directionOf 51 = .ok (.ireturn, 1) := by decide +kernel
theorem dX0_directionOf_52 : decode cX0_directionOf 52 = .ok (.iload_n 0, 1) := by decide +kernel
theorem dX0_directionOf_53 : decode cX0_directionOf 53 = .ok (.iload_n 1, 1) := by decide +kernel
theorem dX0_directionOf_54 : decode cX0_directionOf 54 = .ok (.ineg, 1) := by decide +kernel
theorem dX0_directionOf_55 : decode cX0_directionOf 55 = .ok (.if_icmp .ge 8, 3) := by decide +kernel
theorem dX0_directionOf_58 : decode cX0_directionOf 58 = .ok (.bipush 6, 2) := by decide +kernel
theorem dX0_directionOf_60 : decode cX0_directionOf 60 = .ok (.goto 5, 3) := by decide +kernel
theorem dX0_directionOf_63 : decode cX0_directionOf 63 = .ok (.bipush 7, 2) := by decide +kernel
theorem dX0_directionOf_65 : decode cX0_directionOf 65 = .ok (.ireturn, 1) := by decide +kernel
theorem dX0_airOf_0 : decode cX0_airOf 0 = .ok (.lconst 0, 1) := by decide +kernel
theorem dX0_airOf_1 : decode cX0_airOf 1 = .ok (.lstore_n 3, 1) := by decide +kernel
theorem dX0_airOf_2 : decode cX0_airOf 2 = .ok (.iconst 0, 1) := by decide +kernel
theorem dX0_airOf_3 : decode cX0_airOf 3 = .ok (.istore 5, 2) := by decide +kernel
theorem dX0_airOf_5 : decode cX0_airOf 5 = .ok (.iload 5, 2) := by decide +kernel
theorem dX0_airOf_7 : decode cX0_airOf 7 = .ok (.bipush 8, 2) := by decide +kernel
theorem dX0_airOf_9 : decode cX0_airOf 9 = .ok (.if_icmp .ge 63, 3) := by decide +kernel
theorem dX0_airOf_12 : decode cX0_airOf 12 = .ok (.iconst 4, 1) := by decide +kernel
theorem dX0_airOf_13 : decode cX0_airOf 13 = .ok (.iload 5, 2) := by decide +kernel
theorem dX0_airOf_15 : decode cX0_airOf 15 = .ok (.imul, 1) := by decide +kernel
theorem dX0_airOf_16 : decode cX0_airOf 16 = .ok (.iload_n 2, 1) := by decide +kernel
theorem dX0_airOf_17 : decode cX0_airOf 17 = .ok (.iadd, 1) := by decide +kernel
theorem dX0_airOf_18 : decode cX0_airOf 18 = .ok (.istore 6, 2) := by decide +kernel
theorem dX0_airOf_20 : decode cX0_airOf 20 = .ok (.iload_n 1, 1) := by decide +kernel
theorem dX0_airOf_21 : decode cX0_airOf 21 = .ok (.iload 5, 2) := by decide +kernel
theorem dX0_airOf_23 : decode cX0_airOf 23 = .ok (.ishr, 1) := by decide +kernel
theorem dX0_airOf_24 : decode cX0_airOf 24 = .ok (.iconst 1, 1) := by decide +kernel
theorem dX0_airOf_25 : decode cX0_airOf 25 = .ok (.iand, 1) := by decide +kernel
theorem dX0_airOf_26 : decode cX0_airOf 26 = .ok (.ifCond .eq 7, 3) := by decide +kernel
theorem dX0_airOf_29 : decode cX0_airOf 29 = .ok (.iconst 1, 1) := by decide +kernel
theorem dX0_airOf_30 : decode cX0_airOf 30 = .ok (.goto 4, 3) := by decide +kernel
theorem dX0_airOf_33 : decode cX0_airOf 33 = .ok (.iconst 0, 1) := by decide +kernel
theorem dX0_airOf_34 : decode cX0_airOf 34 = .ok (.istore 7, 2) := by decide +kernel
theorem dX0_airOf_36 : decode cX0_airOf 36 = .ok (.iload 7, 2) := by decide +kernel
theorem dX0_airOf_38 : decode cX0_airOf 38 = .ok (.ifCond .eq 28, 3) := by decide +kernel
theorem dX0_airOf_41 : decode cX0_airOf 41 = .ok (.iload 6, 2) := by decide +kernel
theorem dX0_airOf_43 : decode cX0_airOf 43 = .ok (.ifCond .lt 23, 3) := by decide +kernel
theorem dX0_airOf_46 : decode cX0_airOf 46 = .ok (.iload 6, 2) := by decide +kernel
theorem dX0_airOf_48 : decode cX0_airOf 48 = .ok (.aload_n 0, 1) := by decide +kernel
theorem dX0_airOf_49 : decode cX0_airOf 49 = .ok (.getfield 9, 3) := by decide +kernel
theorem dX0_airOf_52 : decode cX0_airOf 52 = .ok (.arraylength, 1) := by decide +kernel
theorem dX0_airOf_53 : decode cX0_airOf 53 = .ok (.if_icmp .ge 13, 3) := by decide +kernel
theorem dX0_airOf_56 : decode cX0_airOf 56 = .ok (.lload_n 3, 1) := by decide +kernel
theorem dX0_airOf_57 : decode cX0_airOf 57 = .ok (.aload_n 0, 1) := by decide +kernel
theorem dX0_airOf_58 : decode cX0_airOf 58 = .ok (.getfield 9, 3) := by decide +kernel
theorem dX0_airOf_61 : decode cX0_airOf 61 = .ok (.iload 6, 2) := by decide +kernel
theorem dX0_airOf_63 : decode cX0_airOf 63 = .ok (.laload, 1) := by decide +kernel
theorem dX0_airOf_64 : decode cX0_airOf 64 = .ok (.lor, 1) := by decide +kernel
theorem dX0_airOf_65 : decode cX0_airOf 65 = .ok (.lstore_n 3, 1) := by decide +kernel
theorem dX0_airOf_66 : decode cX0_airOf 66 = .ok (.iinc 5 1, 3) := by decide +kernel
theorem dX0_airOf_69 : decode cX0_airOf 69 = .ok (.goto (-64), 3) := by decide +kernel
theorem dX0_airOf_72 : decode cX0_airOf 72 = .ok (.lload_n 3, 1) := by decide +kernel
theorem dX0_airOf_73 : decode cX0_airOf 73 = .ok (.lreturn, 1) := by decide +kernel
theorem dX1_init_0 : decode cX1_init 0 = .ok (.aload_n 0, 1) := by decide +kernel
theorem dX1_init_1 : decode cX1_init 1 = .ok (.invokespecial 1, 3) := by decide +kernel
theorem dX1_init_4 : decode cX1_init 4 = .ok (.aload_n 0, 1) := by decide +kernel
theorem dX1_init_5 : decode cX1_init 5 = .ok (.iload_n 1, 1) := by decide +kernel
theorem dX1_init_6 : decode cX1_init 6 = .ok (.putfield 7, 3) := by decide +kernel
theorem dX1_init_9 : decode cX1_init 9 = .ok (.aload_n 0, 1) := by decide +kernel
theorem dX1_init_10 : decode cX1_init 10 = .ok (.aload_n 2, 1) := by decide +kernel
theorem dX1_init_11 : decode cX1_init 11 = .ok (.putfield 13, 3) := by decide +kernel
theorem dX1_init_14 : decode cX1_init 14 = .ok (.aload_n 0, 1) := by decide +kernel
theorem dX1_init_15 : decode cX1_init 15 = .ok (.iload_n 3, 1) := by decide +kernel
theorem dX1_init_16 : decode cX1_init 16 = .ok (.putfield 17, 3) := by decide +kernel
theorem dX1_init_19 : decode cX1_init 19 = .ok (.aload_n 0, 1) := by decide +kernel
theorem dX1_init_20 : decode cX1_init 20 = .ok (.iload 4, 2) := by decide +kernel
theorem dX1_init_22 : decode cX1_init 22 = .ok (.putfield 20, 3) := by decide +kernel
theorem dX1_init_25 : decode cX1_init 25 = .ok (.aload_n 0, 1) := by decide +kernel
theorem dX1_init_26 : decode cX1_init 26 = .ok (.iload 4, 2) := by decide +kernel
theorem dX1_init_28 : decode cX1_init 28 = .ok (.bipush 10, 2) := by decide +kernel
theorem dX1_init_30 : decode cX1_init 30 = .ok (.idiv, 1) := by decide +kernel
theorem dX1_init_31 : decode cX1_init 31 = .ok (.putfield 23, 3) := by decide +kernel
theorem dX1_init_34 : decode cX1_init 34 = .ok (.aload_n 0, 1) := by decide +kernel
theorem dX1_init_35 : decode cX1_init 35 = .ok (.iload 4, 2) := by decide +kernel
theorem dX1_init_37 : decode cX1_init 37 = .ok (.bipush 10, 2) := by decide +kernel
theorem dX1_init_39 : decode cX1_init 39 = .ok (.irem, 1) := by decide +kernel
theorem dX1_init_40 : decode cX1_init 40 = .ok (.putfield 26, 3) := by decide +kernel
theorem dX1_init_43 : decode cX1_init 43 = .ok (.aload_n 0, 1) := by decide +kernel
theorem dX1_init_44 : decode cX1_init 44 = .ok (.iload 5, 2) := by decide +kernel
theorem dX1_init_46 : decode cX1_init 46 = .ok (.putfield 29, 3) := by decide +kernel
theorem dX1_init_49 : decode cX1_init 49 = .ok (.return_, 1) := by decide +kernel
theorem dX1_isFor_0 : decode cX1_isFor 0 = .ok (.aload_n 0, 1) := by decide +kernel
theorem dX1_isFor_1 : decode cX1_isFor 1 = .ok (.getfield 13, 3) := by decide +kernel
theorem dX1_isFor_4 : decode cX1_isFor 4 = .ok (.getfield 32, 3) := by decide +kernel
theorem dX1_isFor_7 : decode cX1_isFor 7 = .ok (.aload_n 1, 1) := by decide +kernel
theorem dX1_isFor_8 : decode cX1_isFor 8 = .ok (.getfield 32, 3) := by decide +kernel
theorem dX1_isFor_11 : decode cX1_isFor 11 = .ok (.if_icmp .ne 7, 3) := by decide +kernel
theorem dX1_isFor_14 : decode cX1_isFor 14 = .ok (.iconst 1, 1) := by decide +kernel
theorem dX1_isFor_15 : decode cX1_isFor 15 = .ok (.goto 4, 3) := by decide +kernel
theorem dX1_isFor_18 : decode cX1_isFor 18 = .ok (.iconst 0, 1) := by decide +kernel
theorem dX1_isFor_19 : decode cX1_isFor 19 = .ok (.ireturn, 1) := by decide +kernel
theorem dX1_isOf_0 : decode cX1_isOf 0 = .ok (.aload_n 0, 1) := by decide +kernel
theorem dX1_isOf_1 : decode cX1_isOf 1 = .ok (.getfield 13, 3) := by decide +kernel
theorem dX1_isOf_4 : decode cX1_isOf 4 = .ok (.getfield 35, 3) := by decide +kernel
theorem dX1_isOf_7 : decode cX1_isOf 7 = .ok (.iload_n 1, 1) := by decide +kernel
theorem dX1_isOf_8 : decode cX1_isOf 8 = .ok (.if_icmp .ne 15, 3) := by decide +kernel
theorem dX1_isOf_11 : decode cX1_isOf 11 = .ok (.aload_n 0, 1) := by decide +kernel
theorem dX1_isOf_12 : decode cX1_isOf 12 = .ok (.getfield 17, 3) := by decide +kernel
theorem dX1_isOf_15 : decode cX1_isOf 15 = .ok (.iload_n 2, 1) := by decide +kernel
theorem dX1_isOf_16 : decode cX1_isOf 16 = .ok (.if_icmp .ne 7, 3) := by decide +kernel
theorem dX1_isOf_19 : decode cX1_isOf 19 = .ok (.iconst 1, 1) := by decide +kernel
theorem dX1_isOf_20 : decode cX1_isOf 20 = .ok (.goto 4, 3) := by decide +kernel
theorem dX1_isOf_23 : decode cX1_isOf 23 = .ok (.iconst 0, 1) := by decide +kernel
theorem dX1_isOf_24 : decode cX1_isOf 24 = .ok (.ireturn, 1) := by decide +kernel
theorem dX1_meets_0 : decode cX1_meets 0 = .ok (.aload_n 0, 1) := by decide +kernel
theorem dX1_meets_1 : decode cX1_meets 1 = .ok (.getfield 26, 3) := by decide +kernel
theorem dX1_meets_4 : decode cX1_meets 4 = .ok (.iload_n 2, 1) := by decide +kernel
theorem dX1_meets_5 : decode cX1_meets 5 = .ok (.bipush 10, 2) := by decide +kernel
theorem dX1_meets_7 : decode cX1_meets 7 = .ok (.idiv, 1) := by decide +kernel
theorem dX1_meets_8 : decode cX1_meets 8 = .ok (.if_icmp .ge 7, 3) := by decide +kernel
theorem dX1_meets_11 : decode cX1_meets 11 = .ok (.iconst 1, 1) := by decide +kernel
theorem dX1_meets_12 : decode cX1_meets 12 = .ok (.goto 4, 3) := by decide +kernel
theorem dX1_meets_15 : decode cX1_meets 15 = .ok (.iconst 0, 1) := by decide +kernel
theorem dX1_meets_16 : decode cX1_meets 16 = .ok (.istore_n 3, 1) := by decide +kernel
theorem dX1_meets_17 : decode cX1_meets 17 = .ok (.aload_n 0, 1) := by decide +kernel
theorem dX1_meets_18 : decode cX1_meets 18 = .ok (.getfield 23, 3) := by decide +kernel
theorem dX1_meets_21 : decode cX1_meets 21 = .ok (.iload_n 2, 1) := by decide +kernel
theorem dX1_meets_22 : decode cX1_meets 22 = .ok (.bipush 10, 2) := by decide +kernel
theorem dX1_meets_24 : decode cX1_meets 24 = .ok (.irem, 1) := by decide +kernel
theorem dX1_meets_25 : decode cX1_meets 25 = .ok (.if_icmp .le 7, 3) := by decide +kernel
theorem dX1_meets_28 : decode cX1_meets 28 = .ok (.iconst 1, 1) := by decide +kernel
theorem dX1_meets_29 : decode cX1_meets 29 = .ok (.goto 4, 3) := by decide +kernel
theorem dX1_meets_32 : decode cX1_meets 32 = .ok (.iconst 0, 1) := by decide +kernel
theorem dX1_meets_33 : decode cX1_meets 33 = .ok (.istore 4, 2) := by decide +kernel
theorem dX1_meets_35 : decode cX1_meets 35 = .ok (.aload_n 0, 1) := by decide +kernel
theorem dX1_meets_36 : decode cX1_meets 36 = .ok (.getfield 17, 3) := by decide +kernel
theorem dX1_meets_39 : decode cX1_meets 39 = .ok (.iload_n 1, 1) := by decide +kernel
theorem dX1_meets_40 : decode cX1_meets 40 = .ok (.if_icmp .ne 16, 3) := by decide +kernel
theorem dX1_meets_43 : decode cX1_meets 43 = .ok (.iload_n 3, 1) := by decide +kernel
theorem dX1_meets_44 : decode cX1_meets 44 = .ok (.ifCond .ne 12, 3) := by decide +kernel
theorem dX1_meets_47 : decode cX1_meets 47 = .ok (.iload 4, 2) := by decide +kernel
theorem dX1_meets_49 : decode cX1_meets 49 = .ok (.ifCond .ne 7, 3) := by decide +kernel
theorem dX1_meets_52 : decode cX1_meets 52 = .ok (.iconst 1, 1) := by decide +kernel
theorem dX1_meets_53 : decode cX1_meets 53 = .ok (.goto 4, 3) := by decide +kernel
theorem dX1_meets_56 : decode cX1_meets 56 = .ok (.iconst 0, 1) := by decide +kernel
theorem dX1_meets_57 : decode cX1_meets 57 = .ok (.ireturn, 1) := by decide +kernel
theorem dX1_isAheadOf_0 : decode cX1_isAheadOf 0 = .ok (.aload_n 0, 1) := by decide +kernel
theorem dX1_isAheadOf_1 : decode cX1_isAheadOf 1 = .ok (.getfield 17, 3) := by decide +kernel
theorem dX1_isAheadOf_4 : decode cX1_isAheadOf 4 = .ok (.aload_n 1, 1) := by decide +kernel
theorem dX1_isAheadOf_5 : decode cX1_isAheadOf 5 = .ok (.getfield 17, 3) := by decide +kernel
theorem dX1_isAheadOf_8 : decode cX1_isAheadOf 8 = .ok (.if_icmp .eq 20, 3) := by decide +kernel
theorem dX1_isAheadOf_11 : decode cX1_isAheadOf 11 = .ok (.aload_n 0, 1) := by decide +kernel
theorem dX1_isAheadOf_12 : decode cX1_isAheadOf 12 = .ok (.getfield 17, 3) := by decide +kernel
theorem dX1_isAheadOf_15 : decode cX1_isAheadOf 15 = .ok (.aload_n 1, 1) := by decide +kernel
theorem dX1_isAheadOf_16 : decode cX1_isAheadOf 16 = .ok (.getfield 17, 3) := by decide +kernel
theorem dX1_isAheadOf_19 : decode cX1_isAheadOf 19 = .ok (.if_icmp .ge 7, 3) := by decide +kernel
theorem dX1_isAheadOf_22 : decode cX1_isAheadOf 22 = .ok (.iconst 1, 1) := by decide +kernel
theorem dX1_isAheadOf_23 : decode cX1_isAheadOf 23 = .ok (.goto 4, 3) := by decide +kernel
theorem dX1_isAheadOf_26 : decode cX1_isAheadOf 26 = .ok (.iconst 0, 1) := by decide +kernel
theorem dX1_isAheadOf_27 : decode cX1_isAheadOf 27 = .ok (.ireturn, 1) := by decide +kernel
theorem dX1_isAheadOf_28 : decode cX1_isAheadOf 28 = .ok (.aload_n 0, 1) := by decide +kernel
theorem dX1_isAheadOf_29 : decode cX1_isAheadOf 29 = .ok (.getfield 23, 3) := by decide +kernel
theorem dX1_isAheadOf_32 : decode cX1_isAheadOf 32 = .ok (.aload_n 1, 1) := by decide +kernel
theorem dX1_isAheadOf_33 : decode cX1_isAheadOf 33 = .ok (.getfield 23, 3) := by decide +kernel
theorem dX1_isAheadOf_36 : decode cX1_isAheadOf 36 = .ok (.if_icmp .ne 22, 3) := by decide +kernel
theorem dX1_isAheadOf_39 : decode cX1_isAheadOf 39 = .ok (.aload_n 0, 1) := by decide +kernel
theorem dX1_isAheadOf_40 : decode cX1_isAheadOf 40 = .ok (.getfield 7, 3) := by decide +kernel
theorem dX1_isAheadOf_43 : decode cX1_isAheadOf 43 = .ok (.aload_n 1, 1) := by decide +kernel
theorem dX1_isAheadOf_44 : decode cX1_isAheadOf 44 = .ok (.getfield 7, 3) := by decide +kernel
theorem dX1_isAheadOf_47 : decode cX1_isAheadOf 47 = .ok (.if_icmp .ge 7, 3) := by decide +kernel
theorem dX1_isAheadOf_50 : decode cX1_isAheadOf 50 = .ok (.iconst 1, 1) := by decide +kernel
theorem dX1_isAheadOf_51 : decode cX1_isAheadOf 51 = .ok (.goto 23, 3) := by decide +kernel
theorem dX1_isAheadOf_54 : decode cX1_isAheadOf 54 = .ok (.iconst 0, 1) := by decide +kernel
theorem dX1_isAheadOf_55 : decode cX1_isAheadOf 55 = .ok (.goto 19, 3) := by decide +kernel
theorem dX1_isAheadOf_58 : decode cX1_isAheadOf 58 = .ok (.aload_n 0, 1) := by decide +kernel
theorem dX1_isAheadOf_59 : decode cX1_isAheadOf 59 = .ok (.getfield 23, 3) := by decide +kernel
theorem dX1_isAheadOf_62 : decode cX1_isAheadOf 62 = .ok (.aload_n 1, 1) := by decide +kernel
theorem dX1_isAheadOf_63 : decode cX1_isAheadOf 63 = .ok (.getfield 23, 3) := by decide +kernel
theorem dX1_isAheadOf_66 : decode cX1_isAheadOf 66 = .ok (.if_icmp .ge 7, 3) := by decide +kernel
theorem dX1_isAheadOf_69 : decode cX1_isAheadOf 69 = .ok (.iconst 1, 1) := by decide +kernel
theorem dX1_isAheadOf_70 : decode cX1_isAheadOf 70 = .ok (.goto 4, 3) := by decide +kernel
theorem dX1_isAheadOf_73 : decode cX1_isAheadOf 73 = .ok (.iconst 0, 1) := by decide +kernel
theorem dX1_isAheadOf_74 : decode cX1_isAheadOf 74 = .ok (.ireturn, 1) := by decide +kernel
set_option maxRecDepth 20000 in
theorem ggX2_init_J7_fill_53178 : GoodIn wsX2_init wsJ7_fill_53178 := goodIn_r _ [23] (by decide +kernel) (by decide +kernel)
set_option maxRecDepth 20000 in
theorem gX2_init_J7_fill_53178 : GoodIn wsX2_init (va_wsS RX2 58 yJ7_fill_53178 wsJ7_fill_53178) := goodIn_app (goodIn_of _ (by decide +kernel)) ggX2_init_J7_fill_53178
theorem dX2_init_0 : decode cX2_init 0 = .ok (.aload_n 0, 1) := by decide +kernel
theorem dX2_init_1 : decode cX2_init 1 = .ok (.invokespecial 3, 3) := by decide +kernel
theorem dX2_init_4 : decode cX2_init 4 = .ok (.aload_n 0, 1) := by decide +kernel
theorem dX2_init_5 : decode cX2_init 5 = .ok (.bipush 8, 2) := by decide +kernel
theorem dX2_init_7 : decode cX2_init 7 = .ok (.anewarray 9, 3) := by decide +kernel
theorem dX2_init_10 : decode cX2_init 10 = .ok (.putfield 11, 3) := by decide +kernel
theorem dX2_init_13 : decode cX2_init 13 = .ok (.aload_n 0, 1) := by decide +kernel
theorem dX2_init_14 : decode cX2_init 14 = .ok (.iconst 0, 1) := by decide +kernel
theorem dX2_init_15 : decode cX2_init 15 = .ok (.putfield 17, 3) := by decide +kernel
theorem dX2_init_18 : decode cX2_init 18 = .ok (.aload_n 0, 1) := by decide +kernel
theorem dX2_init_19 : decode cX2_init 19 = .ok (.bipush 8, 2) := by decide +kernel
theorem dX2_init_21 : decode cX2_init 21 = .ok (.newarray .int, 2) := by decide +kernel
theorem dX2_init_23 : decode cX2_init 23 = .ok (.putfield 21, 3) := by decide +kernel
theorem dX2_init_26 : decode cX2_init 26 = .ok (.aload_n 0, 1) := by decide +kernel
theorem dX2_init_27 : decode cX2_init 27 = .ok (.iconst 3, 1) := by decide +kernel
theorem dX2_init_28 : decode cX2_init 28 = .ok (.newarray .int, 2) := by decide +kernel
theorem dX2_init_30 : decode cX2_init 30 = .ok (.dup, 1) := by decide +kernel
theorem dX2_init_31 : decode cX2_init 31 = .ok (.iconst 0, 1) := by decide +kernel
theorem dX2_init_32 : decode cX2_init 32 = .ok (.bipush 100, 2) := by decide +kernel
theorem dX2_init_34 : decode cX2_init 34 = .ok (.iastore, 1) := by decide +kernel
theorem dX2_init_35 : decode cX2_init 35 = .ok (.dup, 1) := by decide +kernel
theorem dX2_init_36 : decode cX2_init 36 = .ok (.iconst 1, 1) := by decide +kernel
theorem dX2_init_37 : decode cX2_init 37 = .ok (.bipush 40, 2) := by decide +kernel
theorem dX2_init_39 : decode cX2_init 39 = .ok (.iastore, 1) := by decide +kernel
theorem dX2_init_40 : decode cX2_init 40 = .ok (.dup, 1) := by decide +kernel
theorem dX2_init_41 : decode cX2_init 41 = .ok (.iconst 2, 1) := by decide +kernel
theorem dX2_init_42 : decode cX2_init 42 = .ok (.iconst 5, 1) := by decide +kernel
theorem dX2_init_43 : decode cX2_init 43 = .ok (.iastore, 1) := by decide +kernel
theorem dX2_init_44 : decode cX2_init 44 = .ok (.putfield 25, 3) := by decide +kernel
theorem dX2_init_47 : decode cX2_init 47 = .ok (.aload_n 0, 1) := by decide +kernel
theorem dX2_init_48 : decode cX2_init 48 = .ok (.bipush 30, 2) := by decide +kernel
theorem dX2_init_50 : decode cX2_init 50 = .ok (.newarray .int, 2) := by decide +kernel
theorem dX2_init_52 : decode cX2_init 52 = .ok (.putfield 28, 3) := by decide +kernel
theorem dX2_init_55 : decode cX2_init 55 = .ok (.aload_n 0, 1) := by decide +kernel
theorem dX2_init_56 : decode cX2_init 56 = .ok (.bipush 120, 2) := by decide +kernel
theorem dX2_init_58 : decode cX2_init 58 = .ok (.newarray .int, 2) := by decide +kernel
theorem dX2_init_60 : decode cX2_init 60 = .ok (.putfield 31, 3) := by decide +kernel
theorem dX2_init_63 : decode cX2_init 63 = .ok (.aload_n 0, 1) := by decide +kernel
theorem dX2_init_64 : decode cX2_init 64 = .ok (.bipush 120, 2) := by decide +kernel
theorem dX2_init_66 : decode cX2_init 66 = .ok (.newarray .int, 2) := by decide +kernel
theorem dX2_init_68 : decode cX2_init 68 = .ok (.putfield 34, 3) := by decide +kernel
theorem dX2_init_71 : decode cX2_init 71 = .ok (.aload_n 0, 1) := by decide +kernel
theorem dX2_init_72 : decode cX2_init 72 = .ok (.bipush 120, 2) := by decide +kernel
theorem dX2_init_74 : decode cX2_init 74 = .ok (.newarray .int, 2) := by decide +kernel
theorem dX2_init_76 : decode cX2_init 76 = .ok (.putfield 37, 3) := by decide +kernel
theorem dX2_init_79 : decode cX2_init 79 = .ok (.aload_n 0, 1) := by decide +kernel
theorem dX2_init_80 : decode cX2_init 80 = .ok (.sipush 200, 3) := by decide +kernel
theorem dX2_init_83 : decode cX2_init 83 = .ok (.anewarray 40, 3) := by decide +kernel
theorem dX2_init_86 : decode cX2_init 86 = .ok (.putfield 42, 3) := by decide +kernel
theorem dX2_init_89 : decode cX2_init 89 = .ok (.aload_n 0, 1) := by decide +kernel
theorem dX2_init_90 : decode cX2_init 90 = .ok (.iconst 0, 1) := by decide +kernel
theorem dX2_init_91 : decode cX2_init 91 = .ok (.putfield 46, 3) := by decide +kernel
theorem dX2_init_94 : decode cX2_init 94 = .ok (.aload_n 0, 1) := by decide +kernel
theorem dX2_init_95 : decode cX2_init 95 = .ok (.sipush 200, 3) := by decide +kernel
theorem dX2_init_98 : decode cX2_init 98 = .ok (.newarray .int, 2) := by decide +kernel
theorem dX2_init_100 : decode cX2_init 100 = .ok (.putfield 49, 3) := by decide +kernel
theorem dX2_init_103 : decode cX2_init 103 = .ok (.aload_n 0, 1) := by decide +kernel
theorem dX2_init_104 : decode cX2_init 104 = .ok (.bipush 24, 2) := by decide +kernel
theorem dX2_init_106 : decode cX2_init 106 = .ok (.anewarray 40, 3) := by decide +kernel
theorem dX2_init_109 : decode cX2_init 109 = .ok (.putfield 52, 3) := by decide +kernel
theorem dX2_init_112 : decode cX2_init 112 = .ok (.aload_n 0, 1) := by decide +kernel
theorem dX2_init_113 : decode cX2_init 113 = .ok (.iconst 0, 1) := by decide +kernel
theorem dX2_init_114 : decode cX2_init 114 = .ok (.putfield 55, 3) := by decide +kernel
theorem dX2_init_117 : decode cX2_init 117 = .ok (.aload_n 0, 1) := by decide +kernel
theorem dX2_init_118 : decode cX2_init 118 = .ok (.getfield 31, 3) := by decide +kernel
theorem dX2_init_121 : decode cX2_init 121 = .ok (.iconst (-1), 1) := by decide +kernel
theorem dX2_init_122 : decode cX2_init 122 = .ok (.invokestatic 58, 3) := by decide +kernel
theorem dX2_init_125 : decode cX2_init 125 = .ok (.return_, 1) := by decide +kernel
theorem dX2_copyFrom_0 : decode cX2_copyFrom 0 = .ok (.aload_n 1, 1) := by decide +kernel
theorem dX2_copyFrom_1 : decode cX2_copyFrom 1 = .ok (.getfield 11, 3) := by decide +kernel
theorem dX2_copyFrom_4 : decode cX2_copyFrom 4 = .ok (.iconst 0, 1) := by decide +kernel
theorem dX2_copyFrom_5 : decode cX2_copyFrom 5 = .ok (.aload_n 0, 1) := by decide +kernel
theorem dX2_copyFrom_6 : decode cX2_copyFrom 6 = .ok (.getfield 11, 3) := by decide +kernel
theorem dX2_copyFrom_9 : decode cX2_copyFrom 9 = .ok (.iconst 0, 1) := by decide +kernel
theorem dX2_copyFrom_10 : decode cX2_copyFrom 10 = .ok (.bipush 8, 2) := by decide +kernel
theorem dX2_copyFrom_12 : decode cX2_copyFrom 12 = .ok (.invokestatic 64, 3) := by decide +kernel
theorem dX2_copyFrom_15 : decode cX2_copyFrom 15 = .ok (.aload_n 0, 1) := by decide +kernel
theorem dX2_copyFrom_16 : decode cX2_copyFrom 16 = .ok (.aload_n 1, 1) := by decide +kernel
theorem dX2_copyFrom_17 : decode cX2_copyFrom 17 = .ok (.getfield 17, 3) := by decide +kernel
theorem dX2_copyFrom_20 : decode cX2_copyFrom 20 = .ok (.putfield 17, 3) := by decide +kernel
theorem dX2_copyFrom_23 : decode cX2_copyFrom 23 = .ok (.aload_n 1, 1) := by decide +kernel
theorem dX2_copyFrom_24 : decode cX2_copyFrom 24 = .ok (.getfield 21, 3) := by decide +kernel
theorem dX2_copyFrom_27 : decode cX2_copyFrom 27 = .ok (.iconst 0, 1) := by decide +kernel
theorem dX2_copyFrom_28 : decode cX2_copyFrom 28 = .ok (.aload_n 0, 1) := by decide +kernel
theorem dX2_copyFrom_29 : decode cX2_copyFrom 29 = .ok (.getfield 21, 3) := by decide +kernel
theorem dX2_copyFrom_32 : decode cX2_copyFrom 32 = .ok (.iconst 0, 1) := by decide +kernel
theorem dX2_copyFrom_33 : decode cX2_copyFrom 33 = .ok (.bipush 8, 2) := by decide +kernel
theorem dX2_copyFrom_35 : decode cX2_copyFrom 35 = .ok (.invokestatic 64, 3) := by decide +kernel
theorem dX2_copyFrom_38 : decode cX2_copyFrom 38 = .ok (.aload_n 1, 1) := by decide +kernel
theorem dX2_copyFrom_39 : decode cX2_copyFrom 39 = .ok (.getfield 25, 3) := by decide +kernel
theorem dX2_copyFrom_42 : decode cX2_copyFrom 42 = .ok (.iconst 0, 1) := by decide +kernel
theorem dX2_copyFrom_43 : decode cX2_copyFrom 43 = .ok (.aload_n 0, 1) := by decide +kernel
theorem dX2_copyFrom_44 : decode cX2_copyFrom 44 = .ok (.getfield 25, 3) := by decide +kernel
theorem dX2_copyFrom_47 : decode cX2_copyFrom 47 = .ok (.iconst 0, 1) := by decide +kernel
theorem dX2_copyFrom_48 : decode cX2_copyFrom 48 = .ok (.aload_n 0, 1) := by decide +kernel
theorem dX2_copyFrom_49 : decode cX2_copyFrom 49 = .ok (.getfield 25, 3) := by decide +kernel
theorem dX2_copyFrom_52 : decode cX2_copyFrom 52 = .ok (.arraylength, 1) := by decide +kernel
theorem dX2_copyFrom_53 : decode cX2_copyFrom 53 = .ok (.invokestatic 64, 3) := by decide +kernel
theorem dX2_copyFrom_56 : decode cX2_copyFrom 56 = .ok (.aload_n 1, 1) := by decide +kernel
theorem dX2_copyFrom_57 : decode cX2_copyFrom 57 = .ok (.getfield 28, 3) := by decide +kernel
theorem dX2_copyFrom_60 : decode cX2_copyFrom 60 = .ok (.iconst 0, 1) := by decide +kernel
theorem dX2_copyFrom_61 : decode cX2_copyFrom 61 = .ok (.aload_n 0, 1) := by decide +kernel
theorem dX2_copyFrom_62 : decode cX2_copyFrom 62 = .ok (.getfield 28, 3) := by decide +kernel
theorem dX2_copyFrom_65 : decode cX2_copyFrom 65 = .ok (.iconst 0, 1) := by decide +kernel
theorem dX2_copyFrom_66 : decode cX2_copyFrom 66 = .ok (.bipush 30, 2) := by decide +kernel
theorem dX2_copyFrom_68 : decode cX2_copyFrom 68 = .ok (.invokestatic 64, 3) := by decide +kernel
theorem dX2_copyFrom_71 : decode cX2_copyFrom 71 = .ok (.aload_n 1, 1) := by decide +kernel
theorem dX2_copyFrom_72 : decode cX2_copyFrom 72 = .ok (.getfield 31, 3) := by decide +kernel
theorem dX2_copyFrom_75 : decode cX2_copyFrom 75 = .ok (.iconst 0, 1) := by decide +kernel
theorem dX2_copyFrom_76 : decode cX2_copyFrom 76 = .ok (.aload_n 0, 1) := by decide +kernel
theorem dX2_copyFrom_77 : decode cX2_copyFrom 77 = .ok (.getfield 31, 3) := by decide +kernel
theorem dX2_copyFrom_80 : decode cX2_copyFrom 80 = .ok (.iconst 0, 1) := by decide +kernel
theorem dX2_copyFrom_81 : decode cX2_copyFrom 81 = .ok (.bipush 120, 2) := by decide +kernel
theorem dX2_copyFrom_83 : decode cX2_copyFrom 83 = .ok (.invokestatic 64, 3) := by decide +kernel
theorem dX2_copyFrom_86 : decode cX2_copyFrom 86 = .ok (.aload_n 1, 1) := by decide +kernel
theorem dX2_copyFrom_87 : decode cX2_copyFrom 87 = .ok (.getfield 34, 3) := by decide +kernel
theorem dX2_copyFrom_90 : decode cX2_copyFrom 90 = .ok (.iconst 0, 1) := by decide +kernel
theorem dX2_copyFrom_91 : decode cX2_copyFrom 91 = .ok (.aload_n 0, 1) := by decide +kernel
theorem dX2_copyFrom_92 : decode cX2_copyFrom 92 = .ok (.getfield 34, 3) := by decide +kernel
theorem dX2_copyFrom_95 : decode cX2_copyFrom 95 = .ok (.iconst 0, 1) := by decide +kernel
theorem dX2_copyFrom_96 : decode cX2_copyFrom 96 = .ok (.bipush 120, 2) := by decide +kernel
theorem dX2_copyFrom_98 : decode cX2_copyFrom 98 = .ok (.invokestatic 64, 3) := by decide +kernel
theorem dX2_copyFrom_101 : decode cX2_copyFrom 101 = .ok (.aload_n 1, 1) := by decide +kernel
theorem dX2_copyFrom_102 : decode cX2_copyFrom 102 = .ok (.getfield 37, 3) := by decide +kernel
theorem dX2_copyFrom_105 : decode cX2_copyFrom 105 = .ok (.iconst 0, 1) := by decide +kernel
theorem dX2_copyFrom_106 : decode cX2_copyFrom 106 = .ok (.aload_n 0, 1) := by decide +kernel
theorem dX2_copyFrom_107 : decode cX2_copyFrom 107 = .ok (.getfield 37, 3) := by decide +kernel
theorem dX2_copyFrom_110 : decode cX2_copyFrom 110 = .ok (.iconst 0, 1) := by decide +kernel
theorem dX2_copyFrom_111 : decode cX2_copyFrom 111 = .ok (.bipush 120, 2) := by decide +kernel
theorem dX2_copyFrom_113 : decode cX2_copyFrom 113 = .ok (.invokestatic 64, 3) := by decide +kernel
theorem dX2_copyFrom_116 : decode cX2_copyFrom 116 = .ok (.aload_n 1, 1) := by decide +kernel
theorem dX2_copyFrom_117 : decode cX2_copyFrom 117 = .ok (.getfield 42, 3) := by decide +kernel
theorem dX2_copyFrom_120 : decode cX2_copyFrom 120 = .ok (.iconst 0, 1) := by decide +kernel
theorem dX2_copyFrom_121 : decode cX2_copyFrom 121 = .ok (.aload_n 0, 1) := by decide +kernel
theorem dX2_copyFrom_122 : decode cX2_copyFrom 122 = .ok (.getfield 42, 3) := by decide +kernel
theorem dX2_copyFrom_125 : decode cX2_copyFrom 125 = .ok (.iconst 0, 1) := by decide +kernel
theorem dX2_copyFrom_126 : decode cX2_copyFrom 126 = .ok (.sipush 200, 3) := by decide +kernel
theorem dX2_copyFrom_129 : decode cX2_copyFrom 129 = .ok (.invokestatic 64, 3) := by decide +kernel
theorem dX2_copyFrom_132 : decode cX2_copyFrom 132 = .ok (.aload_n 0, 1) := by decide +kernel
theorem dX2_copyFrom_133 : decode cX2_copyFrom 133 = .ok (.aload_n 1, 1) := by decide +kernel
theorem dX2_copyFrom_134 : decode cX2_copyFrom 134 = .ok (.getfield 46, 3) := by decide +kernel
theorem dX2_copyFrom_137 : decode cX2_copyFrom 137 = .ok (.putfield 46, 3) := by decide +kernel
theorem dX2_copyFrom_140 : decode cX2_copyFrom 140 = .ok (.aload_n 1, 1) := by decide +kernel
theorem dX2_copyFrom_141 : decode cX2_copyFrom 141 = .ok (.getfield 49, 3) := by decide +kernel
theorem dX2_copyFrom_144 : decode cX2_copyFrom 144 = .ok (.iconst 0, 1) := by decide +kernel
theorem dX2_copyFrom_145 : decode cX2_copyFrom 145 = .ok (.aload_n 0, 1) := by decide +kernel
theorem dX2_copyFrom_146 : decode cX2_copyFrom 146 = .ok (.getfield 49, 3) := by decide +kernel
theorem dX2_copyFrom_149 : decode cX2_copyFrom 149 = .ok (.iconst 0, 1) := by decide +kernel
theorem dX2_copyFrom_150 : decode cX2_copyFrom 150 = .ok (.sipush 200, 3) := by decide +kernel
theorem dX2_copyFrom_153 : decode cX2_copyFrom 153 = .ok (.invokestatic 64, 3) := by decide +kernel
theorem dX2_copyFrom_156 : decode cX2_copyFrom 156 = .ok (.aload_n 1, 1) := by decide +kernel
theorem dX2_copyFrom_157 : decode cX2_copyFrom 157 = .ok (.getfield 52, 3) := by decide +kernel
theorem dX2_copyFrom_160 : decode cX2_copyFrom 160 = .ok (.iconst 0, 1) := by decide +kernel
theorem dX2_copyFrom_161 : decode cX2_copyFrom 161 = .ok (.aload_n 0, 1) := by decide +kernel
theorem dX2_copyFrom_162 : decode cX2_copyFrom 162 = .ok (.getfield 52, 3) := by decide +kernel
theorem dX2_copyFrom_165 : decode cX2_copyFrom 165 = .ok (.iconst 0, 1) := by decide +kernel
theorem dX2_copyFrom_166 : decode cX2_copyFrom 166 = .ok (.bipush 24, 2) := by decide +kernel
theorem dX2_copyFrom_168 : decode cX2_copyFrom 168 = .ok (.invokestatic 64, 3) := by decide +kernel
theorem dX2_copyFrom_171 : decode cX2_copyFrom 171 = .ok (.aload_n 0, 1) := by decide +kernel
theorem dX2_copyFrom_172 : decode cX2_copyFrom 172 = .ok (.aload_n 1, 1) := by decide +kernel
theorem dX2_copyFrom_173 : decode cX2_copyFrom 173 = .ok (.getfield 55, 3) := by decide +kernel
theorem dX2_copyFrom_176 : decode cX2_copyFrom 176 = .ok (.putfield 55, 3) := by decide +kernel
theorem dX2_copyFrom_179 : decode cX2_copyFrom 179 = .ok (.return_, 1) := by decide +kernel
theorem dX2_craneAt_0 : decode cX2_craneAt 0 = .ok (.iload_n 1, 1) := by decide +kernel
theorem dX2_craneAt_1 : decode cX2_craneAt 1 = .ok (.ifCond .lt 24, 3) := by decide +kernel
theorem dX2_craneAt_4 : decode cX2_craneAt 4 = .ok (.iload_n 1, 1) := by decide +kernel
theorem dX2_craneAt_5 : decode cX2_craneAt 5 = .ok (.aload_n 0, 1) := by decide +kernel
theorem dX2_craneAt_6 : decode cX2_craneAt 6 = .ok (.getfield 17, 3) := by decide +kernel
theorem dX2_craneAt_9 : decode cX2_craneAt 9 = .ok (.if_icmp .ge 16, 3) := by decide +kernel
theorem dX2_craneAt_12 : decode cX2_craneAt 12 = .ok (.iload_n 1, 1) := by decide +kernel
theorem dX2_craneAt_13 : decode cX2_craneAt 13 = .ok (.aload_n 0, 1) := by decide +kernel
theorem dX2_craneAt_14 : decode cX2_craneAt 14 = .ok (.getfield 11, 3) := by decide +kernel
theorem dX2_craneAt_17 : decode cX2_craneAt 17 = .ok (.arraylength, 1) := by decide +kernel
theorem dX2_craneAt_18 : decode cX2_craneAt 18 = .ok (.if_icmp .ge 7, 3) := by decide +kernel
theorem dX2_craneAt_21 : decode cX2_craneAt 21 = .ok (.iconst 1, 1) := by decide +kernel
theorem dX2_craneAt_22 : decode cX2_craneAt 22 = .ok (.goto 4, 3) := by decide +kernel
theorem dX2_craneAt_25 : decode cX2_craneAt 25 = .ok (.iconst 0, 1) := by decide +kernel
theorem dX2_craneAt_26 : decode cX2_craneAt 26 = .ok (.istore_n 2, 1) := by decide +kernel
theorem dX2_craneAt_27 : decode cX2_craneAt 27 = .ok (.iload_n 2, 1) := by decide +kernel
theorem dX2_craneAt_28 : decode cX2_craneAt 28 = .ok (.ifCond .eq 12, 3) := by decide +kernel
theorem dX2_craneAt_31 : decode cX2_craneAt 31 = .ok (.aload_n 0, 1) := by decide +kernel
theorem dX2_craneAt_32 : decode cX2_craneAt 32 = .ok (.getfield 11, 3) := by decide +kernel
theorem dX2_craneAt_35 : decode cX2_craneAt 35 = .ok (.iload_n 1, 1) := by decide +kernel
theorem dX2_craneAt_36 : decode cX2_craneAt 36 = .ok (.aaload, 1) := by decide +kernel
theorem dX2_craneAt_37 : decode cX2_craneAt 37 = .ok (.goto 4, 3) := by decide +kernel
theorem dX2_craneAt_40 : decode cX2_craneAt 40 = .ok (.aconst_null, 1) := by decide +kernel
theorem dX2_craneAt_41 : decode cX2_craneAt 41 = .ok (.areturn, 1) := by decide +kernel
theorem dX2_permitAt_0 : decode cX2_permitAt 0 = .ok (.iload_n 1, 1) := by decide +kernel
theorem dX2_permitAt_1 : decode cX2_permitAt 1 = .ok (.ifCond .lt 24, 3) := by decide +kernel
theorem dX2_permitAt_4 : decode cX2_permitAt 4 = .ok (.iload_n 1, 1) := by decide +kernel
theorem dX2_permitAt_5 : decode cX2_permitAt 5 = .ok (.aload_n 0, 1) := by decide +kernel
theorem dX2_permitAt_6 : decode cX2_permitAt 6 = .ok (.getfield 46, 3) := by decide +kernel
theorem dX2_permitAt_9 : decode cX2_permitAt 9 = .ok (.if_icmp .ge 16, 3) := by decide +kernel
theorem dX2_permitAt_12 : decode cX2_permitAt 12 = .ok (.iload_n 1, 1) := by decide +kernel
theorem dX2_permitAt_13 : decode cX2_permitAt 13 = .ok (.aload_n 0, 1) := by decide +kernel
theorem dX2_permitAt_14 : decode cX2_permitAt 14 = .ok (.getfield 42, 3) := by decide +kernel
theorem dX2_permitAt_17 : decode cX2_permitAt 17 = .ok (.arraylength, 1) := by decide +kernel
theorem dX2_permitAt_18 : decode cX2_permitAt 18 = .ok (.if_icmp .ge 7, 3) := by decide +kernel
theorem dX2_permitAt_21 : decode cX2_permitAt 21 = .ok (.iconst 1, 1) := by decide +kernel
theorem dX2_permitAt_22 : decode cX2_permitAt 22 = .ok (.goto 4, 3) := by decide +kernel
theorem dX2_permitAt_25 : decode cX2_permitAt 25 = .ok (.iconst 0, 1) := by decide +kernel
theorem dX2_permitAt_26 : decode cX2_permitAt 26 = .ok (.istore_n 2, 1) := by decide +kernel
theorem dX2_permitAt_27 : decode cX2_permitAt 27 = .ok (.iload_n 2, 1) := by decide +kernel
theorem dX2_permitAt_28 : decode cX2_permitAt 28 = .ok (.ifCond .eq 12, 3) := by decide +kernel
theorem dX2_permitAt_31 : decode cX2_permitAt 31 = .ok (.aload_n 0, 1) := by decide +kernel
theorem dX2_permitAt_32 : decode cX2_permitAt 32 = .ok (.getfield 42, 3) := by decide +kernel
theorem dX2_permitAt_35 : decode cX2_permitAt 35 = .ok (.iload_n 1, 1) := by decide +kernel
theorem dX2_permitAt_36 : decode cX2_permitAt 36 = .ok (.aaload, 1) := by decide +kernel
theorem dX2_permitAt_37 : decode cX2_permitAt 37 = .ok (.goto 4, 3) := by decide +kernel
theorem dX2_permitAt_40 : decode cX2_permitAt 40 = .ok (.aconst_null, 1) := by decide +kernel
theorem dX2_permitAt_41 : decode cX2_permitAt 41 = .ok (.areturn, 1) := by decide +kernel
theorem dX2_validAt_0 : decode cX2_validAt 0 = .ok (.iload_n 1, 1) := by decide +kernel
theorem dX2_validAt_1 : decode cX2_validAt 1 = .ok (.ifCond .lt 24, 3) := by decide +kernel
theorem dX2_validAt_4 : decode cX2_validAt 4 = .ok (.iload_n 1, 1) := by decide +kernel
theorem dX2_validAt_5 : decode cX2_validAt 5 = .ok (.aload_n 0, 1) := by decide +kernel
theorem dX2_validAt_6 : decode cX2_validAt 6 = .ok (.getfield 55, 3) := by decide +kernel
theorem dX2_validAt_9 : decode cX2_validAt 9 = .ok (.if_icmp .ge 16, 3) := by decide +kernel
theorem dX2_validAt_12 : decode cX2_validAt 12 = .ok (.iload_n 1, 1) := by decide +kernel
theorem dX2_validAt_13 : decode cX2_validAt 13 = .ok (.aload_n 0, 1) := by decide +kernel
theorem dX2_validAt_14 : decode cX2_validAt 14 = .ok (.getfield 52, 3) := by decide +kernel
theorem dX2_validAt_17 : decode cX2_validAt 17 = .ok (.arraylength, 1) := by decide +kernel
theorem dX2_validAt_18 : decode cX2_validAt 18 = .ok (.if_icmp .ge 7, 3) := by decide +kernel
theorem dX2_validAt_21 : decode cX2_validAt 21 = .ok (.iconst 1, 1) := by decide +kernel
theorem dX2_validAt_22 : decode cX2_validAt 22 = .ok (.goto 4, 3) := by decide +kernel
theorem dX2_validAt_25 : decode cX2_validAt 25 = .ok (.iconst 0, 1) := by decide +kernel
theorem dX2_validAt_26 : decode cX2_validAt 26 = .ok (.istore_n 2, 1) := by decide +kernel
theorem dX2_validAt_27 : decode cX2_validAt 27 = .ok (.iload_n 2, 1) := by decide +kernel
theorem dX2_validAt_28 : decode cX2_validAt 28 = .ok (.ifCond .eq 12, 3) := by decide +kernel
theorem dX2_validAt_31 : decode cX2_validAt 31 = .ok (.aload_n 0, 1) := by decide +kernel
theorem dX2_validAt_32 : decode cX2_validAt 32 = .ok (.getfield 52, 3) := by decide +kernel
theorem dX2_validAt_35 : decode cX2_validAt 35 = .ok (.iload_n 1, 1) := by decide +kernel
theorem dX2_validAt_36 : decode cX2_validAt 36 = .ok (.aaload, 1) := by decide +kernel
