section
-- ===== PART A: goes FIRST, ahead of the names: the tables' words, and 'selects' of the private methods out of them =====
/-- a private method of a class that the tables say can be made, by its rows of tables_1 -/
def lw_okq (q : MethodName × Nat) : Prop := (q.1.cls ≠ "java/lang/invoke/MethodHandle" ∧ q.1.cls ≠ "java/lang/invoke/VarHandle") ∧ Cond.instantiable q.1.cls q.2 ∈ tables_1 ∧ Cond.privateMethod q.1 ∈ tables_1 ∧ Cond.instanceMethod q.1 ∈ tables_1
theorem lw_p0 : lw_okq (⟨"VerseYears$Draft", "findParts", "()V"⟩, 5) := ⟨⟨by decide +kernel, by decide +kernel⟩, List.mem_of_getElem? (i := 36) (by decide +kernel), List.mem_of_getElem? (i := 261) (by decide +kernel), List.mem_of_getElem? (i := 262) (by decide +kernel)⟩
theorem lw_p1 : lw_okq (⟨"VerseYears", "sumOfDraft", "(II)I"⟩, 6) := ⟨⟨by decide +kernel, by decide +kernel⟩, List.mem_of_getElem? (i := 12) (by decide +kernel), List.mem_of_getElem? (i := 277) (by decide +kernel), List.mem_of_getElem? (i := 278) (by decide +kernel)⟩
theorem lw_p2 : lw_okq (⟨"VerseYears$Verses", "stepOfFeet", "(II)J"⟩, 10) := ⟨⟨by decide +kernel, by decide +kernel⟩, List.mem_of_getElem? (i := 105) (by decide +kernel), List.mem_of_getElem? (i := 317) (by decide +kernel), List.mem_of_getElem? (i := 318) (by decide +kernel)⟩
theorem lw_p3 : lw_okq (⟨"VerseYears$Verses", "beginRound", "(II)V"⟩, 10) := ⟨⟨by decide +kernel, by decide +kernel⟩, List.mem_of_getElem? (i := 105) (by decide +kernel), List.mem_of_getElem? (i := 336) (by decide +kernel), List.mem_of_getElem? (i := 337) (by decide +kernel)⟩
theorem lw_p4 : lw_okq (⟨"VerseYears$Verses", "waysOn", "(III)J"⟩, 10) := ⟨⟨by decide +kernel, by decide +kernel⟩, List.mem_of_getElem? (i := 105) (by decide +kernel), List.mem_of_getElem? (i := 348) (by decide +kernel), List.mem_of_getElem? (i := 349) (by decide +kernel)⟩
theorem lw_p5 : lw_okq (⟨"VerseYears$Verses", "countWaysOn", "(III)J"⟩, 10) := ⟨⟨by decide +kernel, by decide +kernel⟩, List.mem_of_getElem? (i := 105) (by decide +kernel), List.mem_of_getElem? (i := 355) (by decide +kernel), List.mem_of_getElem? (i := 356) (by decide +kernel)⟩
theorem lw_p6 : lw_okq (⟨"VerseYears$Verses", "waysWith", "(IIII)J"⟩, 10) := ⟨⟨by decide +kernel, by decide +kernel⟩, List.mem_of_getElem? (i := 105) (by decide +kernel), List.mem_of_getElem? (i := 359) (by decide +kernel), List.mem_of_getElem? (i := 360) (by decide +kernel)⟩
theorem lw_p7 : lw_okq (⟨"VerseYears$Verses", "doubleWaysOn", "(IIII)J"⟩, 10) := ⟨⟨by decide +kernel, by decide +kernel⟩, List.mem_of_getElem? (i := 105) (by decide +kernel), List.mem_of_getElem? (i := 380) (by decide +kernel), List.mem_of_getElem? (i := 381) (by decide +kernel)⟩
theorem lw_p8 : lw_okq (⟨"VerseYears$Stone", "readPart", "(I)V"⟩, 11) := ⟨⟨by decide +kernel, by decide +kernel⟩, List.mem_of_getElem? (i := 143) (by decide +kernel), List.mem_of_getElem? (i := 405) (by decide +kernel), List.mem_of_getElem? (i := 406) (by decide +kernel)⟩
theorem lw_p9 : lw_okq (⟨"VerseYears$Stone", "waysTo", "(I)J"⟩, 11) := ⟨⟨by decide +kernel, by decide +kernel⟩, List.mem_of_getElem? (i := 143) (by decide +kernel), List.mem_of_getElem? (i := 409) (by decide +kernel), List.mem_of_getElem? (i := 410) (by decide +kernel)⟩
theorem lw_p10 : lw_okq (⟨"VerseYears$Stone", "reachOverPart", "(I)V"⟩, 11) := ⟨⟨by decide +kernel, by decide +kernel⟩, List.mem_of_getElem? (i := 143) (by decide +kernel), List.mem_of_getElem? (i := 427) (by decide +kernel), List.mem_of_getElem? (i := 428) (by decide +kernel)⟩
theorem lw_p11 : lw_okq (⟨"VerseYears$Stone", "reachWith", "(I)V"⟩, 11) := ⟨⟨by decide +kernel, by decide +kernel⟩, List.mem_of_getElem? (i := 143) (by decide +kernel), List.mem_of_getElem? (i := 431) (by decide +kernel), List.mem_of_getElem? (i := 432) (by decide +kernel)⟩
theorem lw_p12 : lw_okq (⟨"VerseYears$Stone", "addShifted", "(III)V"⟩, 11) := ⟨⟨by decide +kernel, by decide +kernel⟩, List.mem_of_getElem? (i := 143) (by decide +kernel), List.mem_of_getElem? (i := 435) (by decide +kernel), List.mem_of_getElem? (i := 436) (by decide +kernel)⟩
theorem lw_p13 : lw_okq (⟨"VerseYears$Stone", "takeYears", "(I)V"⟩, 11) := ⟨⟨by decide +kernel, by decide +kernel⟩, List.mem_of_getElem? (i := 143) (by decide +kernel), List.mem_of_getElem? (i := 440) (by decide +kernel), List.mem_of_getElem? (i := 441) (by decide +kernel)⟩
theorem lw_p14 : lw_okq (⟨"VerseYearsModel", "worthOf", "(IIII)I"⟩, 23) := ⟨⟨by decide +kernel, by decide +kernel⟩, List.mem_of_getElem? (i := 461) (by decide +kernel), List.mem_of_getElem? (i := 563) (by decide +kernel), List.mem_of_getElem? (i := 564) (by decide +kernel)⟩
theorem lw_p15 : lw_okq (⟨"VerseYearsModel", "sumOf", "(II)I"⟩, 23) := ⟨⟨by decide +kernel, by decide +kernel⟩, List.mem_of_getElem? (i := 461) (by decide +kernel), List.mem_of_getElem? (i := 588) (by decide +kernel), List.mem_of_getElem? (i := 589) (by decide +kernel)⟩
def lw_privs_1 : List (MethodName × Nat) := [(⟨"VerseYears$Draft", "findParts", "()V"⟩, 5), (⟨"VerseYears", "sumOfDraft", "(II)I"⟩, 6), (⟨"VerseYears$Verses", "stepOfFeet", "(II)J"⟩, 10), (⟨"VerseYears$Verses", "beginRound", "(II)V"⟩, 10), (⟨"VerseYears$Verses", "waysOn", "(III)J"⟩, 10), (⟨"VerseYears$Verses", "countWaysOn", "(III)J"⟩, 10), (⟨"VerseYears$Verses", "waysWith", "(IIII)J"⟩, 10), (⟨"VerseYears$Verses", "doubleWaysOn", "(IIII)J"⟩, 10), (⟨"VerseYears$Stone", "readPart", "(I)V"⟩, 11), (⟨"VerseYears$Stone", "waysTo", "(I)J"⟩, 11), (⟨"VerseYears$Stone", "reachOverPart", "(I)V"⟩, 11), (⟨"VerseYears$Stone", "reachWith", "(I)V"⟩, 11), (⟨"VerseYears$Stone", "addShifted", "(III)V"⟩, 11), (⟨"VerseYears$Stone", "takeYears", "(I)V"⟩, 11), (⟨"VerseYearsModel", "worthOf", "(IIII)I"⟩, 23), (⟨"VerseYearsModel", "sumOf", "(II)I"⟩, 23)]
theorem lw_r1 : ∀ q ∈ lw_privs_1, lw_okq q := List.forall_mem_cons.mpr ⟨lw_p0, List.forall_mem_cons.mpr ⟨lw_p1, List.forall_mem_cons.mpr ⟨lw_p2, List.forall_mem_cons.mpr ⟨lw_p3, List.forall_mem_cons.mpr ⟨lw_p4, List.forall_mem_cons.mpr ⟨lw_p5, List.forall_mem_cons.mpr ⟨lw_p6, List.forall_mem_cons.mpr ⟨lw_p7, List.forall_mem_cons.mpr ⟨lw_p8, List.forall_mem_cons.mpr ⟨lw_p9, List.forall_mem_cons.mpr ⟨lw_p10, List.forall_mem_cons.mpr ⟨lw_p11, List.forall_mem_cons.mpr ⟨lw_p12, List.forall_mem_cons.mpr ⟨lw_p13, List.forall_mem_cons.mpr ⟨lw_p14, List.forall_mem_cons.mpr ⟨lw_p15, fun _ h => absurd h List.not_mem_nil⟩⟩⟩⟩⟩⟩⟩⟩⟩⟩⟩⟩⟩⟩⟩⟩
theorem lw_p16 : lw_okq (⟨"VerseYearsModel", "isAfter", "(II)Z"⟩, 23) := ⟨⟨by decide +kernel, by decide +kernel⟩, List.mem_of_getElem? (i := 461) (by decide +kernel), List.mem_of_getElem? (i := 610) (by decide +kernel), List.mem_of_getElem? (i := 611) (by decide +kernel)⟩
theorem lw_p17 : lw_okq (⟨"VerseYearsModel", "works", "(IIII)V"⟩, 23) := ⟨⟨by decide +kernel, by decide +kernel⟩, List.mem_of_getElem? (i := 461) (by decide +kernel), List.mem_of_getElem? (i := 622) (by decide +kernel), List.mem_of_getElem? (i := 623) (by decide +kernel)⟩
theorem lw_p18 : lw_okq (⟨"VerseYearsModel", "owns", "(II[I)V"⟩, 23) := ⟨⟨by decide +kernel, by decide +kernel⟩, List.mem_of_getElem? (i := 461) (by decide +kernel), List.mem_of_getElem? (i := 626) (by decide +kernel), List.mem_of_getElem? (i := 627) (by decide +kernel)⟩
theorem lw_p19 : lw_okq (⟨"VerseYearsModel", "parts", "()V"⟩, 23) := ⟨⟨by decide +kernel, by decide +kernel⟩, List.mem_of_getElem? (i := 461) (by decide +kernel), List.mem_of_getElem? (i := 646) (by decide +kernel), List.mem_of_getElem? (i := 647) (by decide +kernel)⟩
theorem lw_p20 : lw_okq (⟨"VerseYearsModel", "isFit", "(II)Z"⟩, 23) := ⟨⟨by decide +kernel, by decide +kernel⟩, List.mem_of_getElem? (i := 461) (by decide +kernel), List.mem_of_getElem? (i := 650) (by decide +kernel), List.mem_of_getElem? (i := 651) (by decide +kernel)⟩
theorem lw_p21 : lw_okq (⟨"VerseYearsModel", "yearsOf", "(II)V"⟩, 23) := ⟨⟨by decide +kernel, by decide +kernel⟩, List.mem_of_getElem? (i := 461) (by decide +kernel), List.mem_of_getElem? (i := 664) (by decide +kernel), List.mem_of_getElem? (i := 665) (by decide +kernel)⟩
def lw_privs_2 : List (MethodName × Nat) := [(⟨"VerseYearsModel", "isAfter", "(II)Z"⟩, 23), (⟨"VerseYearsModel", "works", "(IIII)V"⟩, 23), (⟨"VerseYearsModel", "owns", "(II[I)V"⟩, 23), (⟨"VerseYearsModel", "parts", "()V"⟩, 23), (⟨"VerseYearsModel", "isFit", "(II)Z"⟩, 23), (⟨"VerseYearsModel", "yearsOf", "(II)V"⟩, 23)]
theorem lw_r2 : ∀ q ∈ lw_privs_2, lw_okq q := List.forall_mem_cons.mpr ⟨lw_p16, List.forall_mem_cons.mpr ⟨lw_p17, List.forall_mem_cons.mpr ⟨lw_p18, List.forall_mem_cons.mpr ⟨lw_p19, List.forall_mem_cons.mpr ⟨lw_p20, List.forall_mem_cons.mpr ⟨lw_p21, fun _ h => absurd h List.not_mem_nil⟩⟩⟩⟩⟩⟩
def lw_privs : List (MethodName × Nat) := lw_privs_1 ++ (lw_privs_2)
def lw_tbl : List Cond := k2_sels lw_privs ++ tables_1
theorem lw_privs_ok : ∀ q ∈ lw_privs, lw_okq q := by
  show ∀ q ∈ lw_privs_1 ++ (lw_privs_2), lw_okq q
  exact List.forall_mem_append.mpr ⟨lw_r1, lw_r2⟩
end
section
/-! ===== BEGIN words of one list among another's, by their places ===== -/
theorem goodIn_r {big : List Cond} (ws : List Cond) (ps : List Nat) (hp : ws = ps.filterMap (fun i => big[i]?)) (h : ws.all goodWord = true) : GoodIn big ws := by
  intro w hw
  have h1 := List.all_eq_true.mp h w hw
  rw [hp] at hw
  obtain ⟨i, -, hi⟩ := List.mem_filterMap.mp hw
  have hm : w ∈ big := by first | exact List.mem_of_getElem? hi | exact List.getElem?_mem hi
  exact ⟨hm, good_of_word h1⟩
theorem goodIn_app {big a b : List Cond} (ha : GoodIn big a) (hb : GoodIn big b) : GoodIn big (a ++ b) := fun w h => (List.mem_append.mp h).elim (ha w) (hb w)
theorem goodIn_ca {big a b : List Cond} {c : Cond} (ha : GoodIn big (c :: a)) (hb : GoodIn big b) : GoodIn big (c :: (a ++ b)) := fun w h => (List.mem_cons.mp h).elim (fun e => ha w (List.mem_cons.mpr (Or.inl e))) (fun h => (List.mem_append.mp h).elim (fun h => ha w (List.mem_cons.mpr (Or.inr h))) (hb w))
theorem goodIn_sub {big ws : List Cond} (hm : ∀ w ∈ ws, w ∈ big) (h : ws.all goodWord = true) : GoodIn big ws := fun w hw => ⟨hm w hw, good_of_word (List.all_eq_true.mp h w hw)⟩
/-! ===== END ===== -/

/-! ===== BEGIN printed: names, fields, word lists, decode rows ===== -/
def RX0 : String := "VerseYears$Customs"
def TX0 : u_T := fun k => match k with
  | _ => ("VerseYears$Customs", "values", "[I", true)
def tyX0 : Nat → FieldType := fun k => match k with
  | _ => .array .int
abbrev wsX00 : List Cond := u_ws RX0 TX0 1
theorem nmX0 : ∀ a, a < 1 → ∀ b, b < 1 → a ≠ b → (TX0 a).2.1 ≠ (TX0 b).2.1 := by decide +kernel
theorem tyX0_ok : ∀ k, k < 1 → parseFieldDescriptor (TX0 k).2.2.1 = some (tyX0 k) := by decide +kernel
abbrev cX0_init : ByteArray := prog_2_method_1_code
def yX0_init : MethodName := ⟨RX0, "<init>", "()V"⟩
abbrev cX0_replace : ByteArray := prog_2_method_2_code
def yX0_replace : MethodName := ⟨RX0, "replace", "(III)I"⟩
abbrev cX0_worthOf : ByteArray := prog_2_method_3_code
def yX0_worthOf : MethodName := ⟨RX0, "worthOf", "(IIII)I"⟩
abbrev cX0_sumOf : ByteArray := prog_2_method_4_code
def yX0_sumOf : MethodName := ⟨RX0, "sumOf", "(II[III)I"⟩
def RX1 : String := "VerseYears$Draft"
def TX1 : u_T := fun k => match k with
  | 0 => ("VerseYears$Draft", "bytes", "[I", true)
  | 1 => ("VerseYears$Draft", "starts", "[I", true)
  | 2 => ("VerseYears$Draft", "ends", "[I", true)
  | 3 => ("VerseYears$Draft", "length", "I", false)
  | _ => ("VerseYears$Draft", "parts", "I", false)
def tyX1 : Nat → FieldType := fun k => match k with
  | 0 => .array .int
  | 1 => .array .int
  | 2 => .array .int
  | 3 => .int
  | _ => .int
abbrev wsX10 : List Cond := u_ws RX1 TX1 5
theorem nmX1 : ∀ a, a < 5 → ∀ b, b < 5 → a ≠ b → (TX1 a).2.1 ≠ (TX1 b).2.1 := by decide +kernel
theorem tyX1_ok : ∀ k, k < 5 → parseFieldDescriptor (TX1 k).2.2.1 = some (tyX1 k) := by decide +kernel
abbrev cX1_init : ByteArray := prog_3_method_1_code
def yX1_init : MethodName := ⟨RX1, "<init>", "()V"⟩
abbrev cX1_append : ByteArray := prog_3_method_2_code
def yX1_append : MethodName := ⟨RX1, "append", "(JI)V"⟩
abbrev cX1_wipe : ByteArray := prog_3_method_3_code
def yX1_wipe : MethodName := ⟨RX1, "wipe", "()V"⟩
abbrev cX1_isWord : ByteArray := prog_3_method_4_code
def yX1_isWord : MethodName := ⟨RX1, "isWord", "()Z"⟩
abbrev cX1_broken : ByteArray := prog_3_method_5_code
def yX1_broken : MethodName := ⟨RX1, "broken", "()I"⟩
abbrev cX1_findParts : ByteArray := prog_3_method_6_code
def yX1_findParts : MethodName := ⟨RX1, "findParts", "()V"⟩
def RX2 : String := "VerseYears$Stone"
def TX2 : u_T := fun k => match k with
  | 0 => ("VerseYears$Stone", "draft", "LVerseYears$Draft;", true)
  | 1 => ("VerseYears$Stone", "vocables", "LVerseYears$Vocables;", true)
  | 2 => ("VerseYears$Stone", "customs", "LVerseYears$Customs;", true)
  | 3 => ("VerseYears$Stone", "sums", "[I", true)
  | 4 => ("VerseYears$Stone", "ways", "[J", true)
  | 5 => ("VerseYears$Stone", "nextWays", "[J", true)
  | 6 => ("VerseYears$Stone", "reached", "[J", true)
  | 7 => ("VerseYears$Stone", "nextReached", "[J", true)
  | 8 => ("VerseYears$Stone", "found", "I", false)
  | 9 => ("VerseYears$Stone", "least", "I", false)
  | _ => ("VerseYears$Stone", "greatest", "I", false)
def tyX2 : Nat → FieldType := fun k => match k with
  | 0 => .object "VerseYears$Draft"
  | 1 => .object "VerseYears$Vocables"
  | 2 => .object "VerseYears$Customs"
  | 3 => .array .int
  | 4 => .array .long
  | 5 => .array .long
  | 6 => .array .long
  | 7 => .array .long
  | 8 => .int
  | 9 => .int
  | _ => .int
abbrev wsX20 : List Cond := u_ws RX2 TX2 11
theorem nmX2 : ∀ a, a < 11 → ∀ b, b < 11 → a ≠ b → (TX2 a).2.1 ≠ (TX2 b).2.1 := by decide +kernel
theorem tyX2_ok : ∀ k, k < 11 → parseFieldDescriptor (TX2 k).2.2.1 = some (tyX2 k) := by decide +kernel
abbrev cX2_init : ByteArray := prog_4_method_1_code
def yX2_init : MethodName := ⟨RX2, "<init>", "(LVerseYears$Draft;LVerseYears$Vocables;LVerseYears$Customs;)V"⟩
abbrev cX2_fittingPart : ByteArray := prog_4_method_2_code
def yX2_fittingPart : MethodName := ⟨RX2, "fittingPart", "(I)I"⟩
abbrev cX2_howManyReadings : ByteArray := prog_4_method_3_code
def yX2_howManyReadings : MethodName := ⟨RX2, "howManyReadings", "()I"⟩
abbrev cX2_readPart : ByteArray := prog_4_method_4_code
def yX2_readPart : MethodName := ⟨RX2, "readPart", "(I)V"⟩
abbrev cX2_waysTo : ByteArray := prog_4_method_5_code
def yX2_waysTo : MethodName := ⟨RX2, "waysTo", "(I)J"⟩
abbrev cX2_findYears : ByteArray := prog_4_method_6_code
def yX2_findYears : MethodName := ⟨RX2, "findYears", "(II)V"⟩
abbrev cX2_reachOverPart : ByteArray := prog_4_method_7_code
def yX2_reachOverPart : MethodName := ⟨RX2, "reachOverPart", "(I)V"⟩
abbrev cX2_reachWith : ByteArray := prog_4_method_8_code
def yX2_reachWith : MethodName := ⟨RX2, "reachWith", "(I)V"⟩
abbrev cX2_addShifted : ByteArray := prog_4_method_9_code
def yX2_addShifted : MethodName := ⟨RX2, "addShifted", "(III)V"⟩
abbrev cX2_takeYears : ByteArray := prog_4_method_10_code
def yX2_takeYears : MethodName := ⟨RX2, "takeYears", "(I)V"⟩
def RX3 : String := "VerseYears$Verses"
def TX3 : u_T := fun k => match k with
  | 0 => ("VerseYears$Verses", "vocables", "LVerseYears$Vocables;", true)
  | 1 => ("VerseYears$Verses", "customs", "LVerseYears$Customs;", true)
  | 2 => ("VerseYears$Verses", "sums", "[I", true)
  | 3 => ("VerseYears$Verses", "oneSums", "[I", true)
  | 4 => ("VerseYears$Verses", "otherSums", "[I", true)
  | 5 => ("VerseYears$Verses", "byFeet", "[J", true)
  | 6 => ("VerseYears$Verses", "kept", "[J", true)
  | 7 => ("VerseYears$Verses", "isRoundOver", "Z", false)
  | 8 => ("VerseYears$Verses", "roundCounting", "I", false)
  | _ => ("VerseYears$Verses", "roundCustom", "I", false)
def tyX3 : Nat → FieldType := fun k => match k with
  | 0 => .object "VerseYears$Vocables"
  | 1 => .object "VerseYears$Customs"
  | 2 => .array .int
  | 3 => .array .int
  | 4 => .array .int
  | 5 => .array .long
  | 6 => .array .long
  | 7 => .boolean
  | 8 => .int
  | _ => .int
abbrev wsX30 : List Cond := u_ws RX3 TX3 10
theorem nmX3 : ∀ a, a < 10 → ∀ b, b < 10 → a ≠ b → (TX3 a).2.1 ≠ (TX3 b).2.1 := by decide +kernel
theorem tyX3_ok : ∀ k, k < 10 → parseFieldDescriptor (TX3 k).2.2.1 = some (tyX3 k) := by decide +kernel
abbrev cX3_init : ByteArray := prog_5_method_1_code
def yX3_init : MethodName := ⟨RX3, "<init>", "(LVerseYears$Vocables;LVerseYears$Customs;)V"⟩
abbrev cX3_forget : ByteArray := prog_5_method_2_code
def yX3_forget : MethodName := ⟨RX3, "forget", "()V"⟩
abbrev cX3_ofFeet : ByteArray := prog_5_method_3_code
def yX3_ofFeet : MethodName := ⟨RX3, "ofFeet", "(I)J"⟩
abbrev cX3_stepOfFeet : ByteArray := prog_5_method_4_code
def yX3_stepOfFeet : MethodName := ⟨RX3, "stepOfFeet", "(II)J"⟩
abbrev cX3_ofSum : ByteArray := prog_5_method_5_code
def yX3_ofSum : MethodName := ⟨RX3, "ofSum", "(IIII)J"⟩
abbrev cX3_beginRound : ByteArray := prog_5_method_6_code
def yX3_beginRound : MethodName := ⟨RX3, "beginRound", "(II)V"⟩
abbrev cX3_waysOn : ByteArray := prog_5_method_7_code
def yX3_waysOn : MethodName := ⟨RX3, "waysOn", "(III)J"⟩
abbrev cX3_countWaysOn : ByteArray := prog_5_method_8_code
def yX3_countWaysOn : MethodName := ⟨RX3, "countWaysOn", "(III)J"⟩
abbrev cX3_waysWith : ByteArray := prog_5_method_9_code
def yX3_waysWith : MethodName := ⟨RX3, "waysWith", "(IIII)J"⟩
abbrev cX3_placeKept : ByteArray := prog_5_method_10_code
def yX3_placeKept : MethodName := ⟨RX3, "placeKept", "(III)I"⟩
abbrev cX3_vocableAt : ByteArray := prog_5_method_11_code
def yX3_vocableAt : MethodName := ⟨RX3, "vocableAt", "(IIJI)I"⟩
abbrev cX3_ofTwoSums : ByteArray := prog_5_method_12_code
def yX3_ofTwoSums : MethodName := ⟨RX3, "ofTwoSums", "(IIIIII)J"⟩
abbrev cX3_doubleWaysOn : ByteArray := prog_5_method_13_code
def yX3_doubleWaysOn : MethodName := ⟨RX3, "doubleWaysOn", "(IIII)J"⟩
def RX4 : String := "VerseYears$Vocables"
def TX4 : u_T := fun k => match k with
  | 0 => ("VerseYears$Vocables", "texts", "[I", true)
  | 1 => ("VerseYears$Vocables", "lengths", "[I", true)
  | 2 => ("VerseYears$Vocables", "feet", "[I", true)
  | 3 => ("VerseYears$Vocables", "sorts", "[I", true)
  | 4 => ("VerseYears$Vocables", "next", "[I", true)
  | _ => ("VerseYears$Vocables", "size", "I", false)
def tyX4 : Nat → FieldType := fun k => match k with
  | 0 => .array .int
  | 1 => .array .int
  | 2 => .array .int
  | 3 => .array .int
  | 4 => .array .int
  | _ => .int
abbrev wsX40 : List Cond := u_ws RX4 TX4 6
theorem nmX4 : ∀ a, a < 6 → ∀ b, b < 6 → a ≠ b → (TX4 a).2.1 ≠ (TX4 b).2.1 := by decide +kernel
theorem tyX4_ok : ∀ k, k < 6 → parseFieldDescriptor (TX4 k).2.2.1 = some (tyX4 k) := by decide +kernel
abbrev cX4_init : ByteArray := prog_6_method_1_code
def yX4_init : MethodName := ⟨RX4, "<init>", "()V"⟩
abbrev cX4_take : ByteArray := prog_6_method_2_code
def yX4_take : MethodName := ⟨RX4, "take", "(LVerseYears$Draft;II)V"⟩
abbrev cX4_mayCome : ByteArray := prog_6_method_3_code
def yX4_mayCome : MethodName := ⟨RX4, "mayCome", "(II)Z"⟩
abbrev cX4_fitsPart : ByteArray := prog_6_method_4_code
def yX4_fitsPart : MethodName := ⟨RX4, "fitsPart", "(ILVerseYears$Draft;I)Z"⟩
abbrev cX4_putSums : ByteArray := prog_6_method_5_code
def yX4_putSums : MethodName := ⟨RX4, "putSums", "([ILVerseYears$Customs;II)V"⟩
def RX5 : String := "VerseYears"
def TX5 : u_T := fun k => match k with
  | 0 => ("VerseYears", "customs", "LVerseYears$Customs;", true)
  | 1 => ("VerseYears", "draft", "LVerseYears$Draft;", true)
  | 2 => ("VerseYears", "vocables", "LVerseYears$Vocables;", true)
  | 3 => ("VerseYears", "verses", "LVerseYears$Verses;", true)
  | 4 => ("VerseYears", "stone", "LVerseYears$Stone;", true)
  | _ => ("VerseYears", "asked", "J", false)
def tyX5 : Nat → FieldType := fun k => match k with
  | 0 => .object "VerseYears$Customs"
  | 1 => .object "VerseYears$Draft"
  | 2 => .object "VerseYears$Vocables"
  | 3 => .object "VerseYears$Verses"
  | 4 => .object "VerseYears$Stone"
  | _ => .long
abbrev wsX50 : List Cond := u_ws RX5 TX5 6
theorem nmX5 : ∀ a, a < 6 → ∀ b, b < 6 → a ≠ b → (TX5 a).2.1 ≠ (TX5 b).2.1 := by decide +kernel
theorem tyX5_ok : ∀ k, k < 6 → parseFieldDescriptor (TX5 k).2.2.1 = some (tyX5 k) := by decide +kernel
abbrev cX5_init : ByteArray := prog_1_method_1_code
def yX5_init : MethodName := ⟨RX5, "<init>", "()V"⟩
abbrev cX5_value : ByteArray := prog_1_method_2_code
def yX5_value : MethodName := ⟨RX5, "value", "(III)I"⟩
abbrev cX5_worth : ByteArray := prog_1_method_3_code
def yX5_worth : MethodName := ⟨RX5, "worth", "(IIII)I"⟩
abbrev cX5_type : ByteArray := prog_1_method_4_code
def yX5_type : MethodName := ⟨RX5, "type", "(JI)I"⟩
abbrev cX5_clear : ByteArray := prog_1_method_5_code
def yX5_clear : MethodName := ⟨RX5, "clear", "()I"⟩
abbrev cX5_sum : ByteArray := prog_1_method_6_code
def yX5_sum : MethodName := ⟨RX5, "sum", "(II)I"⟩
abbrev cX5_vocable : ByteArray := prog_1_method_7_code
def yX5_vocable : MethodName := ⟨RX5, "vocable", "(II)I"⟩
abbrev cX5_about : ByteArray := prog_1_method_8_code
def yX5_about : MethodName := ⟨RX5, "about", "(II)I"⟩
abbrev cX5_order : ByteArray := prog_1_method_9_code
def yX5_order : MethodName := ⟨RX5, "order", "(II)I"⟩
abbrev cX5_many : ByteArray := prog_1_method_10_code
def yX5_many : MethodName := ⟨RX5, "many", "(I)J"⟩
abbrev cX5_lines : ByteArray := prog_1_method_11_code
def yX5_lines : MethodName := ⟨RX5, "lines", "(IIII)J"⟩
abbrev cX5_line : ByteArray := prog_1_method_12_code
def yX5_line : MethodName := ⟨RX5, "line", "(IIIIJI)I"⟩
abbrev cX5_doubles : ByteArray := prog_1_method_13_code
def yX5_doubles : MethodName := ⟨RX5, "doubles", "(IIIIII)J"⟩
abbrev cX5_fit : ByteArray := prog_1_method_14_code
def yX5_fit : MethodName := ⟨RX5, "fit", "(I)I"⟩
abbrev cX5_readings : ByteArray := prog_1_method_15_code
def yX5_readings : MethodName := ⟨RX5, "readings", "()I"⟩
abbrev cX5_years : ByteArray := prog_1_method_16_code
def yX5_years : MethodName := ⟨RX5, "years", "(III)I"⟩
abbrev cX5_borne : ByteArray := prog_1_method_17_code
def yX5_borne : MethodName := ⟨RX5, "borne", "(I)I"⟩
abbrev cX5_count : ByteArray := prog_1_method_18_code
def yX5_count : MethodName := ⟨RX5, "count", "(I)I"⟩
abbrev cX5_trace : ByteArray := prog_1_method_19_code
def yX5_trace : MethodName := ⟨RX5, "trace", "()J"⟩
abbrev cX5_sumOfDraft : ByteArray := prog_1_method_20_code
def yX5_sumOfDraft : MethodName := ⟨RX5, "sumOfDraft", "(II)I"⟩
abbrev cX5_isWithin : ByteArray := prog_1_method_21_code
def yX5_isWithin : MethodName := ⟨RX5, "isWithin", "(II)Z"⟩
abbrev cX5_isCustomary : ByteArray := prog_1_method_22_code
def yX5_isCustomary : MethodName := ⟨RX5, "isCustomary", "(II)Z"⟩
abbrev cX5_isLineAsked : ByteArray := prog_1_method_23_code
def yX5_isLineAsked : MethodName := ⟨RX5, "isLineAsked", "(IIII)Z"⟩
abbrev cX5_isValue : ByteArray := prog_1_method_24_code
def yX5_isValue : MethodName := ⟨RX5, "isValue", "(I)Z"⟩
abbrev cX5_mayAllStand : ByteArray := prog_1_method_25_code
def yX5_mayAllStand : MethodName := ⟨RX5, "mayAllStand", "(JI)Z"⟩
abbrev cX5_byteOf : ByteArray := prog_1_method_26_code
def yX5_byteOf : MethodName := ⟨RX5, "byteOf", "(JI)I"⟩
abbrev cX5_isCapital : ByteArray := prog_1_method_27_code
def yX5_isCapital : MethodName := ⟨RX5, "isCapital", "(I)Z"⟩
abbrev cX5_isLetter : ByteArray := prog_1_method_28_code
def yX5_isLetter : MethodName := ⟨RX5, "isLetter", "(I)Z"⟩
def RX6 : String := "VerseYearsModel"
def TX6 : u_T := fun k => match k with
  | 0 => ("VerseYearsModel", "thrown", "I", false)
  | 1 => ("VerseYearsModel", "trace", "J", false)
  | 2 => ("VerseYearsModel", "value", "[I", true)
  | 3 => ("VerseYearsModel", "draft", "[I", true)
  | 4 => ("VerseYearsModel", "typed", "I", false)
  | 5 => ("VerseYearsModel", "vocables", "I", false)
  | 6 => ("VerseYearsModel", "letter", "[I", true)
  | 7 => ("VerseYearsModel", "long1", "[I", true)
  | 8 => ("VerseYearsModel", "feet", "[I", true)
  | 9 => ("VerseYearsModel", "sort", "[I", true)
  | 10 => ("VerseYearsModel", "order", "[I", true)
  | 11 => ("VerseYearsModel", "left", "[J", true)
  | 12 => ("VerseYearsModel", "open", "[J", true)
  | 13 => ("VerseYearsModel", "own", "[I", true)
  | 14 => ("VerseYearsModel", "other", "[I", true)
  | 15 => ("VerseYearsModel", "pick", "[I", true)
  | 16 => ("VerseYearsModel", "parts", "I", false)
  | 17 => ("VerseYearsModel", "from", "[I", true)
  | 18 => ("VerseYearsModel", "size", "[I", true)
  | 19 => ("VerseYearsModel", "isYear", "[Z", true)
  | 20 => ("VerseYearsModel", "isNext", "[Z", true)
  | 21 => ("VerseYearsModel", "ways", "[J", true)
  | _ => ("VerseYearsModel", "nextWays", "[J", true)
def tyX6 : Nat → FieldType := fun k => match k with
  | 0 => .int
  | 1 => .long
  | 2 => .array .int
  | 3 => .array .int
  | 4 => .int
  | 5 => .int
  | 6 => .array .int
  | 7 => .array .int
  | 8 => .array .int
  | 9 => .array .int
  | 10 => .array .int
  | 11 => .array .long
  | 12 => .array .long
  | 13 => .array .int
  | 14 => .array .int
  | 15 => .array .int
  | 16 => .int
  | 17 => .array .int
  | 18 => .array .int
  | 19 => .array .boolean
  | 20 => .array .boolean
  | 21 => .array .long
  | _ => .array .long
abbrev wsX60 : List Cond := u_ws RX6 TX6 23
theorem nmX6 : ∀ a, a < 23 → ∀ b, b < 23 → a ≠ b → (TX6 a).2.1 ≠ (TX6 b).2.1 := by decide +kernel
theorem tyX6_ok : ∀ k, k < 23 → parseFieldDescriptor (TX6 k).2.2.1 = some (tyX6 k) := by decide +kernel
abbrev cX6_init : ByteArray := prog_8_method_1_code
def yX6_init : MethodName := ⟨RX6, "<init>", "()V"⟩
abbrev cX6_in : ByteArray := prog_8_method_3_code
def yX6_in : MethodName := ⟨RX6, "in", "(JJJ)Z"⟩
abbrev cX6_isValue : ByteArray := prog_8_method_4_code
def yX6_isValue : MethodName := ⟨RX6, "isValue", "(I)Z"⟩
abbrev cX6_value : ByteArray := prog_8_method_5_code
def yX6_value : MethodName := ⟨RX6, "value", "(III)I"⟩
abbrev cX6_isCapital : ByteArray := prog_8_method_6_code
def yX6_isCapital : MethodName := ⟨RX6, "isCapital", "(I)Z"⟩
abbrev cX6_isLetter : ByteArray := prog_8_method_7_code
def yX6_isLetter : MethodName := ⟨RX6, "isLetter", "(I)Z"⟩
abbrev cX6_worthOf : ByteArray := prog_8_method_8_code
def yX6_worthOf : MethodName := ⟨RX6, "worthOf", "(IIII)I"⟩
abbrev cX6_isWay : ByteArray := prog_8_method_9_code
def yX6_isWay : MethodName := ⟨RX6, "isWay", "(II)Z"⟩
abbrev cX6_worth : ByteArray := prog_8_method_10_code
def yX6_worth : MethodName := ⟨RX6, "worth", "(IIII)I"⟩
abbrev cX6_type : ByteArray := prog_8_method_11_code
def yX6_type : MethodName := ⟨RX6, "type", "(JI)I"⟩
abbrev cX6_clear : ByteArray := prog_8_method_12_code
def yX6_clear : MethodName := ⟨RX6, "clear", "()I"⟩
abbrev cX6_sumOf : ByteArray := prog_8_method_13_code
def yX6_sumOf : MethodName := ⟨RX6, "sumOf", "(II)I"⟩
abbrev cX6_sum : ByteArray := prog_8_method_14_code
def yX6_sum : MethodName := ⟨RX6, "sum", "(II)I"⟩
abbrev cX6_vocable : ByteArray := prog_8_method_15_code
def yX6_vocable : MethodName := ⟨RX6, "vocable", "(II)I"⟩
abbrev cX6_about : ByteArray := prog_8_method_16_code
def yX6_about : MethodName := ⟨RX6, "about", "(II)I"⟩
abbrev cX6_order : ByteArray := prog_8_method_17_code
def yX6_order : MethodName := ⟨RX6, "order", "(II)I"⟩
abbrev cX6_isAfter : ByteArray := prog_8_method_18_code
def yX6_isAfter : MethodName := ⟨RX6, "isAfter", "(II)Z"⟩
abbrev cX6_many : ByteArray := prog_8_method_19_code
def yX6_many : MethodName := ⟨RX6, "many", "(I)J"⟩
abbrev cX6_owns : ByteArray := prog_8_method_20_code
def yX6_owns : MethodName := ⟨RX6, "owns", "(II[I)V"⟩
abbrev cX6_place : ByteArray := prog_8_method_21_code
def yX6_place : MethodName := ⟨RX6, "place", "(III)I"⟩
abbrev cX6_works : ByteArray := prog_8_method_22_code
def yX6_works : MethodName := ⟨RX6, "works", "(IIII)V"⟩
abbrev cX6_isAsked : ByteArray := prog_8_method_23_code
def yX6_isAsked : MethodName := ⟨RX6, "isAsked", "(IIII)Z"⟩
abbrev cX6_lines : ByteArray := prog_8_method_24_code
def yX6_lines : MethodName := ⟨RX6, "lines", "(IIII)J"⟩
abbrev cX6_line : ByteArray := prog_8_method_25_code
def yX6_line : MethodName := ⟨RX6, "line", "(IIIIJI)I"⟩
abbrev cX6_doubles : ByteArray := prog_8_method_26_code
def yX6_doubles : MethodName := ⟨RX6, "doubles", "(IIIIII)J"⟩
abbrev cX6_parts : ByteArray := prog_8_method_27_code
def yX6_parts : MethodName := ⟨RX6, "parts", "()V"⟩
abbrev cX6_isFit : ByteArray := prog_8_method_28_code
def yX6_isFit : MethodName := ⟨RX6, "isFit", "(II)Z"⟩
abbrev cX6_fit : ByteArray := prog_8_method_29_code
def yX6_fit : MethodName := ⟨RX6, "fit", "(I)I"⟩
abbrev cX6_readings : ByteArray := prog_8_method_30_code
def yX6_readings : MethodName := ⟨RX6, "readings", "()I"⟩
abbrev cX6_yearsOf : ByteArray := prog_8_method_31_code
def yX6_yearsOf : MethodName := ⟨RX6, "yearsOf", "(II)V"⟩
abbrev cX6_years : ByteArray := prog_8_method_32_code
def yX6_years : MethodName := ⟨RX6, "years", "(III)I"⟩
abbrev cX6_borne : ByteArray := prog_8_method_33_code
def yX6_borne : MethodName := ⟨RX6, "borne", "(I)I"⟩
abbrev cX6_count : ByteArray := prog_8_method_34_code
def yX6_count : MethodName := ⟨RX6, "count", "(I)I"⟩
abbrev cX6_trace : ByteArray := prog_8_method_35_code
def yX6_trace : MethodName := ⟨RX6, "trace", "()J"⟩
def RJ9 : String := "java/lang/Math"
def TJ9 : u_T := fun k => match k with
  | _ => ("", "", "", false)
def tyJ9 : Nat → FieldType := fun k => match k with
  | _ => .int
abbrev wsJ90 : List Cond := u_ws RJ9 TJ9 0
theorem nmJ9 : ∀ a, a < 0 → ∀ b, b < 0 → a ≠ b → (TJ9 a).2.1 ≠ (TJ9 b).2.1 := by decide +kernel
theorem tyJ9_ok : ∀ k, k < 0 → parseFieldDescriptor (TJ9 k).2.2.1 = some (tyJ9 k) := by decide +kernel
abbrev cJ9_min_f86c9 : ByteArray := prog_9_method_70_code
def yJ9_min_f86c9 : MethodName := ⟨RJ9, "min", "(JJ)J"⟩
def RJ10 : String := "java/lang/System"
def TJ10 : u_T := fun k => match k with
  | _ => ("", "", "", false)
def tyJ10 : Nat → FieldType := fun k => match k with
  | _ => .int
abbrev wsJ100 : List Cond := u_ws RJ10 TJ10 0
theorem nmJ10 : ∀ a, a < 0 → ∀ b, b < 0 → a ≠ b → (TJ10 a).2.1 ≠ (TJ10 b).2.1 := by decide +kernel
theorem tyJ10_ok : ∀ k, k < 0 → parseFieldDescriptor (TJ10 k).2.2.1 = some (tyJ10 k) := by decide +kernel
def RJ7 : String := "java/util/Arrays"
def TJ7 : u_T := fun k => match k with
  | _ => ("", "", "", false)
def tyJ7 : Nat → FieldType := fun k => match k with
  | _ => .int
abbrev wsJ70 : List Cond := u_ws RJ7 TJ7 0
theorem nmJ7 : ∀ a, a < 0 → ∀ b, b < 0 → a ≠ b → (TJ7 a).2.1 ≠ (TJ7 b).2.1 := by decide +kernel
theorem tyJ7_ok : ∀ k, k < 0 → parseFieldDescriptor (TJ7 k).2.2.1 = some (tyJ7 k) := by decide +kernel
abbrev cJ7_fill_d0a16 : ByteArray := prog_11_method_101_code
def yJ7_fill_d0a16 : MethodName := ⟨RJ7, "fill", "([JJ)V"⟩
abbrev cJ7_fill_53178 : ByteArray := prog_11_method_103_code
def yJ7_fill_53178 : MethodName := ⟨RJ7, "fill", "([II)V"⟩
def RL : String := "VerseYearsLaw"
abbrev cL_law : ByteArray := code
def yL_law : MethodName := ⟨RL, "law", "([I)Z"⟩
def wsX0_init : List Cond := .code yX0_init cX0_init 2 none :: ([.methodLink RX0 3 objectInit, .instanceMethod objectInit, .code objectInit ⟨#[0xb1]⟩ 1 none, .arrayClass .int, .fieldLink RX0 9 "VerseYears$Customs" "values" "[I", .methodLink RX0 18 arraycopyName, .native arraycopyName, .static arraycopyName, .initialized "java/lang/System"] ++ wsX00)
def wsX0_replace : List Cond := .code yX0_replace cX0_replace 6 (some .int) :: ([.fieldLink RX0 9 "VerseYears$Customs" "values" "[I"] ++ wsX00)
def wsX5_isCapital : List Cond := .code yX5_isCapital cX5_isCapital 1 (some .boolean) :: ([])
def wsX5_isLetter : List Cond := .code yX5_isLetter cX5_isLetter 1 (some .boolean) :: ([.methodLink RX5 190 yX5_isCapital, .static yX5_isCapital, .initialized RX5, .code yX5_isCapital cX5_isCapital 1 (some .boolean)])
def wsX0_worthOf : List Cond := .code yX0_worthOf cX0_worthOf 5 (some .int) :: ([.fieldLink RX0 9 "VerseYears$Customs" "values" "[I", .static yX5_isLetter, .initialized RX5, .code yX5_isLetter cX5_isLetter 1 (some .boolean), .methodLink RX5 190 yX5_isCapital, .static yX5_isCapital, .code yX5_isCapital cX5_isCapital 1 (some .boolean)] ++ wsX00)
def wsX0_sumOf : List Cond := .code yX0_sumOf cX0_sumOf 9 (some .int) :: ([.methodLink RX0 31 yX0_worthOf, .instanceMethod yX0_worthOf, .selects RX0 yX0_worthOf yX0_worthOf, .initialized RX0, .code yX0_worthOf cX0_worthOf 5 (some .int), .fieldLink RX0 9 "VerseYears$Customs" "values" "[I", .static yX5_isLetter, .initialized RX5, .code yX5_isLetter cX5_isLetter 1 (some .boolean), .methodLink RX5 190 yX5_isCapital, .static yX5_isCapital, .code yX5_isCapital cX5_isCapital 1 (some .boolean)] ++ wsX00)
def wsX1_init : List Cond := .code yX1_init cX1_init 1 none :: ([.methodLink RX1 3 objectInit, .instanceMethod objectInit, .code objectInit ⟨#[0xb1]⟩ 1 none, .arrayClass .int, .fieldLink RX1 9 "VerseYears$Draft" "bytes" "[I", .fieldLink RX1 15 "VerseYears$Draft" "starts" "[I", .fieldLink RX1 18 "VerseYears$Draft" "ends" "[I"] ++ wsX10)
def wsX5_byteOf : List Cond := .code yX5_byteOf cX5_byteOf 3 (some .int) :: ([])
def wsX1_findParts : List Cond := .code yX1_findParts cX1_findParts 3 none :: ([.fieldLink RX1 32 "VerseYears$Draft" "parts" "I", .fieldLink RX1 21 "VerseYears$Draft" "length" "I", .fieldLink RX1 9 "VerseYears$Draft" "bytes" "[I", .fieldLink RX1 15 "VerseYears$Draft" "starts" "[I", .fieldLink RX1 18 "VerseYears$Draft" "ends" "[I"] ++ wsX10)
def wsX1_append : List Cond := .code yX1_append cX1_append 5 none :: ([.fieldLink RX1 9 "VerseYears$Draft" "bytes" "[I", .fieldLink RX1 21 "VerseYears$Draft" "length" "I", .static yX5_byteOf, .initialized RX5, .code yX5_byteOf cX5_byteOf 3 (some .int), .methodLink RX1 29 yX1_findParts, .instanceMethod yX1_findParts, .selects RX1 yX1_findParts yX1_findParts, .initialized RX1, .code yX1_findParts cX1_findParts 3 none, .fieldLink RX1 32 "VerseYears$Draft" "parts" "I", .fieldLink RX1 15 "VerseYears$Draft" "starts" "[I", .fieldLink RX1 18 "VerseYears$Draft" "ends" "[I"] ++ wsX10)
def wsX1_wipe : List Cond := .code yX1_wipe cX1_wipe 1 none :: ([.fieldLink RX1 21 "VerseYears$Draft" "length" "I", .fieldLink RX1 32 "VerseYears$Draft" "parts" "I"] ++ wsX10)
def wsX1_isWord : List Cond := .code yX1_isWord cX1_isWord 2 (some .boolean) :: ([.fieldLink RX1 21 "VerseYears$Draft" "length" "I", .fieldLink RX1 9 "VerseYears$Draft" "bytes" "[I", .static yX5_isLetter, .initialized RX5, .code yX5_isLetter cX5_isLetter 1 (some .boolean), .methodLink RX5 190 yX5_isCapital, .static yX5_isCapital, .code yX5_isCapital cX5_isCapital 1 (some .boolean)] ++ wsX10)
def wsX1_broken : List Cond := .code yX1_broken cX1_broken 3 (some .int) :: ([.fieldLink RX1 21 "VerseYears$Draft" "length" "I", .fieldLink RX1 9 "VerseYears$Draft" "bytes" "[I"] ++ wsX10)
def wsX2_init : List Cond := .code yX2_init cX2_init 4 none :: ([.methodLink RX2 5 objectInit, .instanceMethod objectInit, .code objectInit ⟨#[0xb1]⟩ 1 none, .arrayClass .int, .fieldLink RX2 11 "VerseYears$Stone" "sums" "[I", .arrayClass .long, .fieldLink RX2 15 "VerseYears$Stone" "ways" "[J", .fieldLink RX2 19 "VerseYears$Stone" "nextWays" "[J", .fieldLink RX2 22 "VerseYears$Stone" "reached" "[J", .fieldLink RX2 25 "VerseYears$Stone" "nextReached" "[J", .fieldLink RX2 28 "VerseYears$Stone" "draft" "LVerseYears$Draft;", .fieldLink RX2 32 "VerseYears$Stone" "vocables" "LVerseYears$Vocables;", .fieldLink RX2 36 "VerseYears$Stone" "customs" "LVerseYears$Customs;"] ++ wsX20)
def wsX4_fitsPart : List Cond := .code yX4_fitsPart cX4_fitsPart 8 (some .boolean) :: ([.fieldLink RX4 51 "VerseYears$Draft" "starts" "[I", .fieldLink RX4 54 "VerseYears$Draft" "ends" "[I", .fieldLink RX4 15 "VerseYears$Vocables" "lengths" "[I", .fieldLink RX4 33 "VerseYears$Draft" "bytes" "[I", .fieldLink RX4 9 "VerseYears$Vocables" "texts" "[I"] ++ wsX10 ++ wsX40)
def wsX2_fittingPart : List Cond := .code yX2_fittingPart cX2_fittingPart 4 (some .int) :: ([.fieldLink RX2 32 "VerseYears$Stone" "vocables" "LVerseYears$Vocables;", .fieldLink RX2 40 "VerseYears$Vocables" "size" "I", .fieldLink RX2 28 "VerseYears$Stone" "draft" "LVerseYears$Draft;", .methodLink RX2 46 yX4_fitsPart, .instanceMethod yX4_fitsPart, .selects RX4 yX4_fitsPart yX4_fitsPart, .initialized RX4, .code yX4_fitsPart cX4_fitsPart 8 (some .boolean), .fieldLink RX4 51 "VerseYears$Draft" "starts" "[I", .fieldLink RX4 54 "VerseYears$Draft" "ends" "[I", .fieldLink RX4 15 "VerseYears$Vocables" "lengths" "[I", .fieldLink RX4 33 "VerseYears$Draft" "bytes" "[I", .fieldLink RX4 9 "VerseYears$Vocables" "texts" "[I"] ++ wsX20 ++ wsX40 ++ wsX10)
def wsJ7_fill_d0a16 : List Cond := .code yJ7_fill_d0a16 cJ7_fill_d0a16 5 none :: ([])
def wsX4_mayCome : List Cond := .code yX4_mayCome cX4_mayCome 3 (some .boolean) :: ([.fieldLink RX4 24 "VerseYears$Vocables" "next" "[I", .fieldLink RX4 21 "VerseYears$Vocables" "sorts" "[I"] ++ wsX40)
def wsX2_waysTo : List Cond := .code yX2_waysTo cX2_waysTo 5 (some .long) :: ([.fieldLink RX2 32 "VerseYears$Stone" "vocables" "LVerseYears$Vocables;", .fieldLink RX2 15 "VerseYears$Stone" "ways" "[J", .methodLink RX2 80 yX4_mayCome, .instanceMethod yX4_mayCome, .selects RX4 yX4_mayCome yX4_mayCome, .initialized RX4, .code yX4_mayCome cX4_mayCome 3 (some .boolean), .fieldLink RX4 24 "VerseYears$Vocables" "next" "[I", .fieldLink RX4 21 "VerseYears$Vocables" "sorts" "[I"] ++ wsX20 ++ wsX40)
def wsX2_readPart_r1 : List Cond := [Cond.fieldLink RX2 19 "VerseYears$Stone" "nextWays" "[J", Cond.fieldLink RX2 32 "VerseYears$Stone" "vocables" "LVerseYears$Vocables;", Cond.fieldLink RX2 40 "VerseYears$Vocables" "size" "I", Cond.fieldLink RX2 28 "VerseYears$Stone" "draft" "LVerseYears$Draft;", Cond.fieldLink RX2 73 "VerseYears$Vocables" "sorts" "[I", Cond.fieldLink RX2 15 "VerseYears$Stone" "ways" "[J", Cond.constantLong RX2 65 (2000000000), Cond.methodLink RX2 67 Lib.MathLoose.min_long.x, Cond.static Lib.MathLoose.min_long.x, Cond.initialized "java/lang/Math", Cond.code Lib.MathLoose.min_long.x Lib.MathLoose.min_long.code 4 (some .long), Cond.methodLink RX2 50 yJ7_fill_d0a16, Cond.static yJ7_fill_d0a16, Cond.initialized RJ7, Cond.code yJ7_fill_d0a16 cJ7_fill_d0a16 5 none, Cond.methodLink RX2 46 yX4_fitsPart, Cond.instanceMethod yX4_fitsPart, Cond.selects RX4 yX4_fitsPart yX4_fitsPart, Cond.initialized RX4, Cond.code yX4_fitsPart cX4_fitsPart 8 (some .boolean), Cond.fieldLink RX4 51 "VerseYears$Draft" "starts" "[I", Cond.fieldLink RX4 54 "VerseYears$Draft" "ends" "[I", Cond.fieldLink RX4 15 "VerseYears$Vocables" "lengths" "[I", Cond.fieldLink RX4 33 "VerseYears$Draft" "bytes" "[I"]
def wsX2_readPart_r2 : List Cond := [Cond.fieldLink RX4 9 "VerseYears$Vocables" "texts" "[I", Cond.methodLink RX2 76 yX2_waysTo, Cond.instanceMethod yX2_waysTo, Cond.selects RX2 yX2_waysTo yX2_waysTo, Cond.initialized RX2, Cond.code yX2_waysTo cX2_waysTo 5 (some .long), Cond.methodLink RX2 80 yX4_mayCome, Cond.instanceMethod yX4_mayCome, Cond.selects RX4 yX4_mayCome yX4_mayCome, Cond.code yX4_mayCome cX4_mayCome 3 (some .boolean), Cond.fieldLink RX4 24 "VerseYears$Vocables" "next" "[I", Cond.fieldLink RX4 21 "VerseYears$Vocables" "sorts" "[I"]
def wsX2_readPart : List Cond := .code yX2_readPart cX2_readPart 3 none :: ((wsX2_readPart_r1 ++ wsX2_readPart_r2) ++ wsX20 ++ wsX40 ++ wsX10)
def wsX2_howManyReadings_r1 : List Cond := [Cond.fieldLink RX2 15 "VerseYears$Stone" "ways" "[J", Cond.fieldLink RX2 28 "VerseYears$Stone" "draft" "LVerseYears$Draft;", Cond.fieldLink RX2 56 "VerseYears$Draft" "parts" "I", Cond.constantLong RX2 65 (2000000000), Cond.methodLink RX2 67 Lib.MathLoose.min_long.x, Cond.static Lib.MathLoose.min_long.x, Cond.initialized "java/lang/Math", Cond.code Lib.MathLoose.min_long.x Lib.MathLoose.min_long.code 4 (some .long), Cond.methodLink RX2 50 yJ7_fill_d0a16, Cond.static yJ7_fill_d0a16, Cond.initialized RJ7, Cond.code yJ7_fill_d0a16 cJ7_fill_d0a16 5 none, Cond.methodLink RX2 61 yX2_readPart, Cond.instanceMethod yX2_readPart, Cond.selects RX2 yX2_readPart yX2_readPart, Cond.initialized RX2, Cond.code yX2_readPart cX2_readPart 3 none, Cond.fieldLink RX2 19 "VerseYears$Stone" "nextWays" "[J", Cond.fieldLink RX2 32 "VerseYears$Stone" "vocables" "LVerseYears$Vocables;", Cond.fieldLink RX2 40 "VerseYears$Vocables" "size" "I", Cond.fieldLink RX2 73 "VerseYears$Vocables" "sorts" "[I", Cond.methodLink RX2 46 yX4_fitsPart, Cond.instanceMethod yX4_fitsPart, Cond.selects RX4 yX4_fitsPart yX4_fitsPart]
def wsX2_howManyReadings_r2 : List Cond := [Cond.initialized RX4, Cond.code yX4_fitsPart cX4_fitsPart 8 (some .boolean), Cond.fieldLink RX4 51 "VerseYears$Draft" "starts" "[I", Cond.fieldLink RX4 54 "VerseYears$Draft" "ends" "[I", Cond.fieldLink RX4 15 "VerseYears$Vocables" "lengths" "[I", Cond.fieldLink RX4 33 "VerseYears$Draft" "bytes" "[I", Cond.fieldLink RX4 9 "VerseYears$Vocables" "texts" "[I", Cond.methodLink RX2 76 yX2_waysTo, Cond.instanceMethod yX2_waysTo, Cond.selects RX2 yX2_waysTo yX2_waysTo, Cond.code yX2_waysTo cX2_waysTo 5 (some .long), Cond.methodLink RX2 80 yX4_mayCome, Cond.instanceMethod yX4_mayCome, Cond.selects RX4 yX4_mayCome yX4_mayCome, Cond.code yX4_mayCome cX4_mayCome 3 (some .boolean), Cond.fieldLink RX4 24 "VerseYears$Vocables" "next" "[I", Cond.fieldLink RX4 21 "VerseYears$Vocables" "sorts" "[I"]
def wsX2_howManyReadings : List Cond := .code yX2_howManyReadings cX2_howManyReadings 8 (some .int) :: ((wsX2_howManyReadings_r1 ++ wsX2_howManyReadings_r2) ++ wsX20 ++ wsX10 ++ wsX40)
def wsX4_putSums : List Cond := .code yX4_putSums cX4_putSums 7 none :: ([.fieldLink RX4 38 "VerseYears$Vocables" "size" "I", .fieldLink RX4 9 "VerseYears$Vocables" "texts" "[I", .fieldLink RX4 15 "VerseYears$Vocables" "lengths" "[I", .methodLink RX4 57 yX0_sumOf, .instanceMethod yX0_sumOf, .selects RX0 yX0_sumOf yX0_sumOf, .initialized RX0, .code yX0_sumOf cX0_sumOf 9 (some .int), .methodLink RX0 31 yX0_worthOf, .instanceMethod yX0_worthOf, .selects RX0 yX0_worthOf yX0_worthOf, .code yX0_worthOf cX0_worthOf 5 (some .int), .fieldLink RX0 9 "VerseYears$Customs" "values" "[I", .static yX5_isLetter, .initialized RX5, .code yX5_isLetter cX5_isLetter 1 (some .boolean), .methodLink RX5 190 yX5_isCapital, .static yX5_isCapital, .code yX5_isCapital cX5_isCapital 1 (some .boolean)] ++ wsX40 ++ wsX00)
def wsX2_addShifted : List Cond := .code yX2_addShifted cX2_addShifted 10 none :: ([.fieldLink RX2 22 "VerseYears$Stone" "reached" "[J", .fieldLink RX2 25 "VerseYears$Stone" "nextReached" "[J"] ++ wsX20)
def wsX2_reachWith : List Cond := .code yX2_reachWith cX2_reachWith 3 none :: ([.fieldLink RX2 32 "VerseYears$Stone" "vocables" "LVerseYears$Vocables;", .fieldLink RX2 73 "VerseYears$Vocables" "sorts" "[I", .fieldLink RX2 11 "VerseYears$Stone" "sums" "[I", .methodLink RX2 80 yX4_mayCome, .instanceMethod yX4_mayCome, .selects RX4 yX4_mayCome yX4_mayCome, .initialized RX4, .code yX4_mayCome cX4_mayCome 3 (some .boolean), .fieldLink RX4 24 "VerseYears$Vocables" "next" "[I", .fieldLink RX4 21 "VerseYears$Vocables" "sorts" "[I", .methodLink RX2 112 yX2_addShifted, .instanceMethod yX2_addShifted, .selects RX2 yX2_addShifted yX2_addShifted, .initialized RX2, .code yX2_addShifted cX2_addShifted 10 none, .fieldLink RX2 22 "VerseYears$Stone" "reached" "[J", .fieldLink RX2 25 "VerseYears$Stone" "nextReached" "[J"] ++ wsX20 ++ wsX40)
def wsX2_reachOverPart_r1 : List Cond := [Cond.fieldLink RX2 25 "VerseYears$Stone" "nextReached" "[J", Cond.fieldLink RX2 32 "VerseYears$Stone" "vocables" "LVerseYears$Vocables;", Cond.fieldLink RX2 40 "VerseYears$Vocables" "size" "I", Cond.fieldLink RX2 28 "VerseYears$Stone" "draft" "LVerseYears$Draft;", Cond.fieldLink RX2 22 "VerseYears$Stone" "reached" "[J", Cond.methodLink RX2 106 arraycopyName, Cond.native arraycopyName, Cond.static arraycopyName, Cond.initialized "java/lang/System", Cond.methodLink RX2 50 yJ7_fill_d0a16, Cond.static yJ7_fill_d0a16, Cond.initialized RJ7, Cond.code yJ7_fill_d0a16 cJ7_fill_d0a16 5 none, Cond.methodLink RX2 46 yX4_fitsPart, Cond.instanceMethod yX4_fitsPart, Cond.selects RX4 yX4_fitsPart yX4_fitsPart, Cond.initialized RX4, Cond.code yX4_fitsPart cX4_fitsPart 8 (some .boolean), Cond.fieldLink RX4 51 "VerseYears$Draft" "starts" "[I", Cond.fieldLink RX4 54 "VerseYears$Draft" "ends" "[I", Cond.fieldLink RX4 15 "VerseYears$Vocables" "lengths" "[I", Cond.fieldLink RX4 33 "VerseYears$Draft" "bytes" "[I", Cond.fieldLink RX4 9 "VerseYears$Vocables" "texts" "[I", Cond.methodLink RX2 103 yX2_reachWith]
def wsX2_reachOverPart_r2 : List Cond := [Cond.instanceMethod yX2_reachWith, Cond.selects RX2 yX2_reachWith yX2_reachWith, Cond.initialized RX2, Cond.code yX2_reachWith cX2_reachWith 3 none, Cond.fieldLink RX2 73 "VerseYears$Vocables" "sorts" "[I", Cond.fieldLink RX2 11 "VerseYears$Stone" "sums" "[I", Cond.methodLink RX2 80 yX4_mayCome, Cond.instanceMethod yX4_mayCome, Cond.selects RX4 yX4_mayCome yX4_mayCome, Cond.code yX4_mayCome cX4_mayCome 3 (some .boolean), Cond.fieldLink RX4 24 "VerseYears$Vocables" "next" "[I", Cond.fieldLink RX4 21 "VerseYears$Vocables" "sorts" "[I", Cond.methodLink RX2 112 yX2_addShifted, Cond.instanceMethod yX2_addShifted, Cond.selects RX2 yX2_addShifted yX2_addShifted, Cond.code yX2_addShifted cX2_addShifted 10 none]
def wsX2_reachOverPart : List Cond := .code yX2_reachOverPart cX2_reachOverPart 3 none :: ((wsX2_reachOverPart_r1 ++ wsX2_reachOverPart_r2) ++ wsX20 ++ wsX40 ++ wsX10)
def wsX2_takeYears : List Cond := .code yX2_takeYears cX2_takeYears 5 none :: ([.fieldLink RX2 22 "VerseYears$Stone" "reached" "[J", .fieldLink RX2 91 "VerseYears$Stone" "found" "I", .fieldLink RX2 94 "VerseYears$Stone" "least" "I", .fieldLink RX2 97 "VerseYears$Stone" "greatest" "I"] ++ wsX20)
def wsX2_findYears_r1 : List Cond := [Cond.fieldLink RX2 32 "VerseYears$Stone" "vocables" "LVerseYears$Vocables;", Cond.fieldLink RX2 11 "VerseYears$Stone" "sums" "[I", Cond.fieldLink RX2 36 "VerseYears$Stone" "customs" "LVerseYears$Customs;", Cond.fieldLink RX2 22 "VerseYears$Stone" "reached" "[J", Cond.fieldLink RX2 28 "VerseYears$Stone" "draft" "LVerseYears$Draft;", Cond.fieldLink RX2 56 "VerseYears$Draft" "parts" "I", Cond.fieldLink RX2 91 "VerseYears$Stone" "found" "I", Cond.fieldLink RX2 94 "VerseYears$Stone" "least" "I", Cond.fieldLink RX2 97 "VerseYears$Stone" "greatest" "I", Cond.methodLink RX2 84 yX4_putSums, Cond.instanceMethod yX4_putSums, Cond.selects RX4 yX4_putSums yX4_putSums, Cond.initialized RX4, Cond.code yX4_putSums cX4_putSums 7 none, Cond.fieldLink RX4 38 "VerseYears$Vocables" "size" "I", Cond.fieldLink RX4 9 "VerseYears$Vocables" "texts" "[I", Cond.fieldLink RX4 15 "VerseYears$Vocables" "lengths" "[I", Cond.methodLink RX4 57 yX0_sumOf, Cond.instanceMethod yX0_sumOf, Cond.selects RX0 yX0_sumOf yX0_sumOf, Cond.initialized RX0, Cond.code yX0_sumOf cX0_sumOf 9 (some .int), Cond.methodLink RX0 31 yX0_worthOf, Cond.instanceMethod yX0_worthOf]
def wsX2_findYears_r2 : List Cond := [Cond.selects RX0 yX0_worthOf yX0_worthOf, Cond.code yX0_worthOf cX0_worthOf 5 (some .int), Cond.fieldLink RX0 9 "VerseYears$Customs" "values" "[I", Cond.static yX5_isLetter, Cond.initialized RX5, Cond.code yX5_isLetter cX5_isLetter 1 (some .boolean), Cond.methodLink RX5 190 yX5_isCapital, Cond.static yX5_isCapital, Cond.code yX5_isCapital cX5_isCapital 1 (some .boolean), Cond.methodLink RX2 50 yJ7_fill_d0a16, Cond.static yJ7_fill_d0a16, Cond.initialized RJ7, Cond.code yJ7_fill_d0a16 cJ7_fill_d0a16 5 none, Cond.methodLink RX2 88 yX2_reachOverPart, Cond.instanceMethod yX2_reachOverPart, Cond.selects RX2 yX2_reachOverPart yX2_reachOverPart, Cond.initialized RX2, Cond.code yX2_reachOverPart cX2_reachOverPart 3 none, Cond.fieldLink RX2 25 "VerseYears$Stone" "nextReached" "[J", Cond.fieldLink RX2 40 "VerseYears$Vocables" "size" "I", Cond.methodLink RX2 106 arraycopyName, Cond.native arraycopyName, Cond.static arraycopyName, Cond.initialized "java/lang/System"]
def wsX2_findYears_r3 : List Cond := [Cond.methodLink RX2 46 yX4_fitsPart, Cond.instanceMethod yX4_fitsPart, Cond.selects RX4 yX4_fitsPart yX4_fitsPart, Cond.code yX4_fitsPart cX4_fitsPart 8 (some .boolean), Cond.fieldLink RX4 51 "VerseYears$Draft" "starts" "[I", Cond.fieldLink RX4 54 "VerseYears$Draft" "ends" "[I", Cond.fieldLink RX4 33 "VerseYears$Draft" "bytes" "[I", Cond.methodLink RX2 103 yX2_reachWith, Cond.instanceMethod yX2_reachWith, Cond.selects RX2 yX2_reachWith yX2_reachWith, Cond.code yX2_reachWith cX2_reachWith 3 none, Cond.fieldLink RX2 73 "VerseYears$Vocables" "sorts" "[I", Cond.methodLink RX2 80 yX4_mayCome, Cond.instanceMethod yX4_mayCome, Cond.selects RX4 yX4_mayCome yX4_mayCome, Cond.code yX4_mayCome cX4_mayCome 3 (some .boolean), Cond.fieldLink RX4 24 "VerseYears$Vocables" "next" "[I", Cond.fieldLink RX4 21 "VerseYears$Vocables" "sorts" "[I", Cond.methodLink RX2 112 yX2_addShifted, Cond.instanceMethod yX2_addShifted, Cond.selects RX2 yX2_addShifted yX2_addShifted, Cond.code yX2_addShifted cX2_addShifted 10 none, Cond.methodLink RX2 100 yX2_takeYears, Cond.instanceMethod yX2_takeYears]
def wsX2_findYears_r4 : List Cond := [Cond.selects RX2 yX2_takeYears yX2_takeYears, Cond.code yX2_takeYears cX2_takeYears 5 none]
def wsX2_findYears : List Cond := .code yX2_findYears cX2_findYears 4 none :: ((wsX2_findYears_r1 ++ (wsX2_findYears_r2 ++ (wsX2_findYears_r3 ++ wsX2_findYears_r4))) ++ wsX20 ++ wsX10 ++ wsX40 ++ wsX00)
def wsX3_init : List Cond := .code yX3_init cX3_init 3 none :: ([.methodLink RX3 3 objectInit, .instanceMethod objectInit, .code objectInit ⟨#[0xb1]⟩ 1 none, .arrayClass .int, .fieldLink RX3 9 "VerseYears$Verses" "sums" "[I", .fieldLink RX3 15 "VerseYears$Verses" "oneSums" "[I", .fieldLink RX3 18 "VerseYears$Verses" "otherSums" "[I", .arrayClass .long, .fieldLink RX3 21 "VerseYears$Verses" "byFeet" "[J", .fieldLink RX3 25 "VerseYears$Verses" "kept" "[J", .fieldLink RX3 28 "VerseYears$Verses" "isRoundOver" "Z", .fieldLink RX3 32 "VerseYears$Verses" "vocables" "LVerseYears$Vocables;", .fieldLink RX3 36 "VerseYears$Verses" "customs" "LVerseYears$Customs;"] ++ wsX30)
def wsX3_forget : List Cond := .code yX3_forget cX3_forget 1 none :: ([.fieldLink RX3 28 "VerseYears$Verses" "isRoundOver" "Z"] ++ wsX30)
def wsX3_stepOfFeet : List Cond := .code yX3_stepOfFeet cX3_stepOfFeet 6 (some .long) :: ([.fieldLink RX3 32 "VerseYears$Verses" "vocables" "LVerseYears$Vocables;", .fieldLink RX3 44 "VerseYears$Vocables" "size" "I", .fieldLink RX3 50 "VerseYears$Vocables" "feet" "[I", .fieldLink RX3 21 "VerseYears$Verses" "byFeet" "[J", .fieldLink RX3 57 "VerseYears$Vocables" "sorts" "[I", .methodLink RX3 53 yX4_mayCome, .instanceMethod yX4_mayCome, .selects RX4 yX4_mayCome yX4_mayCome, .initialized RX4, .code yX4_mayCome cX4_mayCome 3 (some .boolean), .fieldLink RX4 24 "VerseYears$Vocables" "next" "[I", .fieldLink RX4 21 "VerseYears$Vocables" "sorts" "[I"] ++ wsX30 ++ wsX40)
def wsX3_ofFeet : List Cond := .code yX3_ofFeet cX3_ofFeet 4 (some .long) :: ([.fieldLink RX3 21 "VerseYears$Verses" "byFeet" "[J", .methodLink RX3 40 yX3_stepOfFeet, .instanceMethod yX3_stepOfFeet, .selects RX3 yX3_stepOfFeet yX3_stepOfFeet, .initialized RX3, .code yX3_stepOfFeet cX3_stepOfFeet 6 (some .long), .fieldLink RX3 32 "VerseYears$Verses" "vocables" "LVerseYears$Vocables;", .fieldLink RX3 44 "VerseYears$Vocables" "size" "I", .fieldLink RX3 50 "VerseYears$Vocables" "feet" "[I", .fieldLink RX3 57 "VerseYears$Vocables" "sorts" "[I", .methodLink RX3 53 yX4_mayCome, .instanceMethod yX4_mayCome, .selects RX4 yX4_mayCome yX4_mayCome, .initialized RX4, .code yX4_mayCome cX4_mayCome 3 (some .boolean), .fieldLink RX4 24 "VerseYears$Vocables" "next" "[I", .fieldLink RX4 21 "VerseYears$Vocables" "sorts" "[I"] ++ wsX30 ++ wsX40)
def wsX3_beginRound_r1 : List Cond := [Cond.fieldLink RX3 28 "VerseYears$Verses" "isRoundOver" "Z", Cond.fieldLink RX3 68 "VerseYears$Verses" "roundCounting" "I", Cond.fieldLink RX3 71 "VerseYears$Verses" "roundCustom" "I", Cond.fieldLink RX3 32 "VerseYears$Verses" "vocables" "LVerseYears$Vocables;", Cond.fieldLink RX3 9 "VerseYears$Verses" "sums" "[I", Cond.fieldLink RX3 36 "VerseYears$Verses" "customs" "LVerseYears$Customs;", Cond.fieldLink RX3 25 "VerseYears$Verses" "kept" "[J", Cond.methodLink RX3 74 yX4_putSums, Cond.instanceMethod yX4_putSums, Cond.selects RX4 yX4_putSums yX4_putSums, Cond.initialized RX4, Cond.code yX4_putSums cX4_putSums 7 none, Cond.fieldLink RX4 38 "VerseYears$Vocables" "size" "I", Cond.fieldLink RX4 9 "VerseYears$Vocables" "texts" "[I", Cond.fieldLink RX4 15 "VerseYears$Vocables" "lengths" "[I", Cond.methodLink RX4 57 yX0_sumOf, Cond.instanceMethod yX0_sumOf, Cond.selects RX0 yX0_sumOf yX0_sumOf, Cond.initialized RX0, Cond.code yX0_sumOf cX0_sumOf 9 (some .int), Cond.methodLink RX0 31 yX0_worthOf, Cond.instanceMethod yX0_worthOf, Cond.selects RX0 yX0_worthOf yX0_worthOf, Cond.code yX0_worthOf cX0_worthOf 5 (some .int)]
def wsX3_beginRound_r2 : List Cond := [Cond.fieldLink RX0 9 "VerseYears$Customs" "values" "[I", Cond.static yX5_isLetter, Cond.initialized RX5, Cond.code yX5_isLetter cX5_isLetter 1 (some .boolean), Cond.methodLink RX5 190 yX5_isCapital, Cond.static yX5_isCapital, Cond.code yX5_isCapital cX5_isCapital 1 (some .boolean), Cond.methodLink RX3 78 yJ7_fill_d0a16, Cond.static yJ7_fill_d0a16, Cond.initialized RJ7, Cond.code yJ7_fill_d0a16 cJ7_fill_d0a16 5 none]
def wsX3_beginRound : List Cond := .code yX3_beginRound cX3_beginRound 3 none :: ((wsX3_beginRound_r1 ++ wsX3_beginRound_r2) ++ wsX30 ++ wsX40 ++ wsX00)
def wsX3_placeKept : List Cond := .code yX3_placeKept cX3_placeKept 3 (some .int) :: ([])
def wsX3_countWaysOn_r1 : List Cond := [Cond.fieldLink RX3 32 "VerseYears$Verses" "vocables" "LVerseYears$Vocables;", Cond.fieldLink RX3 44 "VerseYears$Vocables" "size" "I", Cond.methodLink RX3 93 yX3_waysWith, Cond.instanceMethod yX3_waysWith, Cond.selects RX3 yX3_waysWith yX3_waysWith, Cond.initialized RX3, Cond.code yX3_waysOn cX3_waysOn 10 (some .long), Cond.fieldLink RX3 25 "VerseYears$Verses" "kept" "[J", Cond.constantLong RX3 91 (65535), Cond.methodLink RX3 84 yX3_placeKept, Cond.static yX3_placeKept, Cond.code yX3_placeKept cX3_placeKept 3 (some .int), Cond.methodLink RX3 88 yX3_countWaysOn, Cond.instanceMethod yX3_countWaysOn, Cond.selects RX3 yX3_countWaysOn yX3_countWaysOn, Cond.code yX3_waysWith cX3_waysWith 7 (some .long), Cond.fieldLink RX3 50 "VerseYears$Vocables" "feet" "[I", Cond.fieldLink RX3 9 "VerseYears$Verses" "sums" "[I", Cond.fieldLink RX3 57 "VerseYears$Vocables" "sorts" "[I", Cond.methodLink RX3 53 yX4_mayCome, Cond.instanceMethod yX4_mayCome, Cond.selects RX4 yX4_mayCome yX4_mayCome, Cond.initialized RX4, Cond.code yX4_mayCome cX4_mayCome 3 (some .boolean)]
def wsX3_countWaysOn_r2 : List Cond := [Cond.fieldLink RX4 24 "VerseYears$Vocables" "next" "[I", Cond.fieldLink RX4 21 "VerseYears$Vocables" "sorts" "[I", Cond.methodLink RX3 64 yX3_waysOn, Cond.instanceMethod yX3_waysOn, Cond.selects RX3 yX3_waysOn yX3_waysOn]
def wsX3_countWaysOn : List Cond := .code yX3_countWaysOn cX3_countWaysOn 7 (some .long) :: ((wsX3_countWaysOn_r1 ++ wsX3_countWaysOn_r2) ++ wsX30 ++ wsX40)
def wsX3_waysOn_r1 : List Cond := [Cond.fieldLink RX3 25 "VerseYears$Verses" "kept" "[J", Cond.constantLong RX3 91 (65535), Cond.methodLink RX3 84 yX3_placeKept, Cond.static yX3_placeKept, Cond.initialized RX3, Cond.code yX3_placeKept cX3_placeKept 3 (some .int), Cond.methodLink RX3 88 yX3_countWaysOn, Cond.instanceMethod yX3_countWaysOn, Cond.selects RX3 yX3_countWaysOn yX3_countWaysOn, Cond.code yX3_countWaysOn cX3_countWaysOn 7 (some .long), Cond.fieldLink RX3 32 "VerseYears$Verses" "vocables" "LVerseYears$Vocables;", Cond.fieldLink RX3 44 "VerseYears$Vocables" "size" "I", Cond.methodLink RX3 93 yX3_waysWith, Cond.instanceMethod yX3_waysWith, Cond.selects RX3 yX3_waysWith yX3_waysWith, Cond.code yX3_waysWith cX3_waysWith 7 (some .long), Cond.fieldLink RX3 50 "VerseYears$Vocables" "feet" "[I", Cond.fieldLink RX3 9 "VerseYears$Verses" "sums" "[I", Cond.fieldLink RX3 57 "VerseYears$Vocables" "sorts" "[I", Cond.methodLink RX3 53 yX4_mayCome, Cond.instanceMethod yX4_mayCome, Cond.selects RX4 yX4_mayCome yX4_mayCome, Cond.initialized RX4, Cond.code yX4_mayCome cX4_mayCome 3 (some .boolean)]
def wsX3_waysOn_r2 : List Cond := [Cond.fieldLink RX4 24 "VerseYears$Vocables" "next" "[I", Cond.fieldLink RX4 21 "VerseYears$Vocables" "sorts" "[I", Cond.methodLink RX3 64 yX3_waysOn, Cond.instanceMethod yX3_waysOn, Cond.selects RX3 yX3_waysOn yX3_waysOn]
def wsX3_waysOn : List Cond := .code yX3_waysOn cX3_waysOn 10 (some .long) :: ((wsX3_waysOn_r1 ++ wsX3_waysOn_r2) ++ wsX30 ++ wsX40)
def wsX3_waysWith_r1 : List Cond := [Cond.fieldLink RX3 32 "VerseYears$Verses" "vocables" "LVerseYears$Vocables;", Cond.fieldLink RX3 50 "VerseYears$Vocables" "feet" "[I", Cond.fieldLink RX3 9 "VerseYears$Verses" "sums" "[I", Cond.fieldLink RX3 57 "VerseYears$Vocables" "sorts" "[I", Cond.methodLink RX3 53 yX4_mayCome, Cond.instanceMethod yX4_mayCome, Cond.selects RX4 yX4_mayCome yX4_mayCome, Cond.initialized RX4, Cond.code yX4_mayCome cX4_mayCome 3 (some .boolean), Cond.fieldLink RX4 24 "VerseYears$Vocables" "next" "[I", Cond.fieldLink RX4 21 "VerseYears$Vocables" "sorts" "[I", Cond.methodLink RX3 64 yX3_waysOn, Cond.instanceMethod yX3_waysOn, Cond.selects RX3 yX3_waysOn yX3_waysOn, Cond.initialized RX3, Cond.code yX3_countWaysOn cX3_countWaysOn 7 (some .long), Cond.fieldLink RX3 44 "VerseYears$Vocables" "size" "I", Cond.methodLink RX3 93 yX3_waysWith, Cond.instanceMethod yX3_waysWith, Cond.selects RX3 yX3_waysWith yX3_waysWith, Cond.code yX3_waysOn cX3_waysOn 10 (some .long), Cond.fieldLink RX3 25 "VerseYears$Verses" "kept" "[J", Cond.constantLong RX3 91 (65535), Cond.methodLink RX3 84 yX3_placeKept]
def wsX3_waysWith_r2 : List Cond := [Cond.static yX3_placeKept, Cond.code yX3_placeKept cX3_placeKept 3 (some .int), Cond.methodLink RX3 88 yX3_countWaysOn, Cond.instanceMethod yX3_countWaysOn, Cond.selects RX3 yX3_countWaysOn yX3_countWaysOn]
def wsX3_waysWith : List Cond := .code yX3_waysWith cX3_waysWith 7 (some .long) :: ((wsX3_waysWith_r1 ++ wsX3_waysWith_r2) ++ wsX30 ++ wsX40)
def wsX3_ofSum_r1 : List Cond := [Cond.methodLink RX3 60 yX3_beginRound, Cond.instanceMethod yX3_beginRound, Cond.selects RX3 yX3_beginRound yX3_beginRound, Cond.initialized RX3, Cond.code yX3_beginRound cX3_beginRound 3 none, Cond.fieldLink RX3 28 "VerseYears$Verses" "isRoundOver" "Z", Cond.fieldLink RX3 68 "VerseYears$Verses" "roundCounting" "I", Cond.fieldLink RX3 71 "VerseYears$Verses" "roundCustom" "I", Cond.fieldLink RX3 32 "VerseYears$Verses" "vocables" "LVerseYears$Vocables;", Cond.fieldLink RX3 9 "VerseYears$Verses" "sums" "[I", Cond.fieldLink RX3 36 "VerseYears$Verses" "customs" "LVerseYears$Customs;", Cond.fieldLink RX3 25 "VerseYears$Verses" "kept" "[J", Cond.methodLink RX3 74 yX4_putSums, Cond.instanceMethod yX4_putSums, Cond.selects RX4 yX4_putSums yX4_putSums, Cond.initialized RX4, Cond.code yX4_putSums cX4_putSums 7 none, Cond.fieldLink RX4 38 "VerseYears$Vocables" "size" "I", Cond.fieldLink RX4 9 "VerseYears$Vocables" "texts" "[I", Cond.fieldLink RX4 15 "VerseYears$Vocables" "lengths" "[I", Cond.methodLink RX4 57 yX0_sumOf, Cond.instanceMethod yX0_sumOf, Cond.selects RX0 yX0_sumOf yX0_sumOf, Cond.initialized RX0]
def wsX3_ofSum_r2 : List Cond := [Cond.code yX0_sumOf cX0_sumOf 9 (some .int), Cond.methodLink RX0 31 yX0_worthOf, Cond.instanceMethod yX0_worthOf, Cond.selects RX0 yX0_worthOf yX0_worthOf, Cond.code yX0_worthOf cX0_worthOf 5 (some .int), Cond.fieldLink RX0 9 "VerseYears$Customs" "values" "[I", Cond.static yX5_isLetter, Cond.initialized RX5, Cond.code yX5_isLetter cX5_isLetter 1 (some .boolean), Cond.methodLink RX5 190 yX5_isCapital, Cond.static yX5_isCapital, Cond.code yX5_isCapital cX5_isCapital 1 (some .boolean), Cond.methodLink RX3 78 yJ7_fill_d0a16, Cond.static yJ7_fill_d0a16, Cond.initialized RJ7, Cond.code yJ7_fill_d0a16 cJ7_fill_d0a16 5 none, Cond.methodLink RX3 64 yX3_waysOn, Cond.instanceMethod yX3_waysOn, Cond.selects RX3 yX3_waysOn yX3_waysOn, Cond.code yX3_waysOn cX3_waysOn 10 (some .long), Cond.constantLong RX3 91 (65535), Cond.methodLink RX3 84 yX3_placeKept, Cond.static yX3_placeKept, Cond.code yX3_placeKept cX3_placeKept 3 (some .int)]
def wsX3_ofSum_r3 : List Cond := [Cond.methodLink RX3 88 yX3_countWaysOn, Cond.instanceMethod yX3_countWaysOn, Cond.selects RX3 yX3_countWaysOn yX3_countWaysOn, Cond.code yX3_countWaysOn cX3_countWaysOn 7 (some .long), Cond.fieldLink RX3 44 "VerseYears$Vocables" "size" "I", Cond.methodLink RX3 93 yX3_waysWith, Cond.instanceMethod yX3_waysWith, Cond.selects RX3 yX3_waysWith yX3_waysWith, Cond.code yX3_waysWith cX3_waysWith 7 (some .long), Cond.fieldLink RX3 50 "VerseYears$Vocables" "feet" "[I", Cond.fieldLink RX3 57 "VerseYears$Vocables" "sorts" "[I", Cond.methodLink RX3 53 yX4_mayCome, Cond.instanceMethod yX4_mayCome, Cond.selects RX4 yX4_mayCome yX4_mayCome, Cond.code yX4_mayCome cX4_mayCome 3 (some .boolean), Cond.fieldLink RX4 24 "VerseYears$Vocables" "next" "[I", Cond.fieldLink RX4 21 "VerseYears$Vocables" "sorts" "[I"]
def wsX3_ofSum : List Cond := .code yX3_ofSum cX3_ofSum 5 (some .long) :: ((wsX3_ofSum_r1 ++ (wsX3_ofSum_r2 ++ wsX3_ofSum_r3)) ++ wsX30 ++ wsX40 ++ wsX00)
def wsX3_vocableAt_r1 : List Cond := [Cond.fieldLink RX3 32 "VerseYears$Verses" "vocables" "LVerseYears$Vocables;", Cond.fieldLink RX3 44 "VerseYears$Vocables" "size" "I", Cond.fieldLink RX3 57 "VerseYears$Vocables" "sorts" "[I", Cond.fieldLink RX3 50 "VerseYears$Vocables" "feet" "[I", Cond.fieldLink RX3 9 "VerseYears$Verses" "sums" "[I", Cond.methodLink RX3 93 yX3_waysWith, Cond.instanceMethod yX3_waysWith, Cond.selects RX3 yX3_waysWith yX3_waysWith, Cond.initialized RX3, Cond.code yX3_waysWith cX3_waysWith 7 (some .long), Cond.methodLink RX3 53 yX4_mayCome, Cond.instanceMethod yX4_mayCome, Cond.selects RX4 yX4_mayCome yX4_mayCome, Cond.initialized RX4, Cond.code yX4_mayCome cX4_mayCome 3 (some .boolean), Cond.fieldLink RX4 24 "VerseYears$Vocables" "next" "[I", Cond.fieldLink RX4 21 "VerseYears$Vocables" "sorts" "[I", Cond.methodLink RX3 64 yX3_waysOn, Cond.instanceMethod yX3_waysOn, Cond.selects RX3 yX3_waysOn yX3_waysOn, Cond.code yX3_countWaysOn cX3_countWaysOn 7 (some .long), Cond.code yX3_waysOn cX3_waysOn 10 (some .long), Cond.fieldLink RX3 25 "VerseYears$Verses" "kept" "[J", Cond.constantLong RX3 91 (65535)]
def wsX3_vocableAt_r2 : List Cond := [Cond.methodLink RX3 84 yX3_placeKept, Cond.static yX3_placeKept, Cond.code yX3_placeKept cX3_placeKept 3 (some .int), Cond.methodLink RX3 88 yX3_countWaysOn, Cond.instanceMethod yX3_countWaysOn, Cond.selects RX3 yX3_countWaysOn yX3_countWaysOn]
def wsX3_vocableAt : List Cond := .code yX3_vocableAt cX3_vocableAt 15 (some .int) :: ((wsX3_vocableAt_r1 ++ wsX3_vocableAt_r2) ++ wsX30 ++ wsX40)
def wsX3_doubleWaysOn : List Cond := .code yX3_doubleWaysOn cX3_doubleWaysOn 8 (some .long) :: ([.fieldLink RX3 32 "VerseYears$Verses" "vocables" "LVerseYears$Vocables;", .fieldLink RX3 44 "VerseYears$Vocables" "size" "I", .fieldLink RX3 57 "VerseYears$Vocables" "sorts" "[I", .fieldLink RX3 50 "VerseYears$Vocables" "feet" "[I", .fieldLink RX3 15 "VerseYears$Verses" "oneSums" "[I", .fieldLink RX3 18 "VerseYears$Verses" "otherSums" "[I", .methodLink RX3 53 yX4_mayCome, .instanceMethod yX4_mayCome, .selects RX4 yX4_mayCome yX4_mayCome, .initialized RX4, .code yX4_mayCome cX4_mayCome 3 (some .boolean), .fieldLink RX4 24 "VerseYears$Vocables" "next" "[I", .fieldLink RX4 21 "VerseYears$Vocables" "sorts" "[I", .methodLink RX3 97 yX3_doubleWaysOn, .instanceMethod yX3_doubleWaysOn, .selects RX3 yX3_doubleWaysOn yX3_doubleWaysOn, .initialized RX3] ++ wsX30 ++ wsX40)
def wsX3_ofTwoSums_r1 : List Cond := [Cond.fieldLink RX3 32 "VerseYears$Verses" "vocables" "LVerseYears$Vocables;", Cond.fieldLink RX3 15 "VerseYears$Verses" "oneSums" "[I", Cond.fieldLink RX3 36 "VerseYears$Verses" "customs" "LVerseYears$Customs;", Cond.fieldLink RX3 18 "VerseYears$Verses" "otherSums" "[I", Cond.methodLink RX3 74 yX4_putSums, Cond.instanceMethod yX4_putSums, Cond.selects RX4 yX4_putSums yX4_putSums, Cond.initialized RX4, Cond.code yX4_putSums cX4_putSums 7 none, Cond.fieldLink RX4 38 "VerseYears$Vocables" "size" "I", Cond.fieldLink RX4 9 "VerseYears$Vocables" "texts" "[I", Cond.fieldLink RX4 15 "VerseYears$Vocables" "lengths" "[I", Cond.methodLink RX4 57 yX0_sumOf, Cond.instanceMethod yX0_sumOf, Cond.selects RX0 yX0_sumOf yX0_sumOf, Cond.initialized RX0, Cond.code yX0_sumOf cX0_sumOf 9 (some .int), Cond.methodLink RX0 31 yX0_worthOf, Cond.instanceMethod yX0_worthOf, Cond.selects RX0 yX0_worthOf yX0_worthOf, Cond.code yX0_worthOf cX0_worthOf 5 (some .int), Cond.fieldLink RX0 9 "VerseYears$Customs" "values" "[I", Cond.static yX5_isLetter, Cond.initialized RX5]
def wsX3_ofTwoSums_r2 : List Cond := [Cond.code yX5_isLetter cX5_isLetter 1 (some .boolean), Cond.methodLink RX5 190 yX5_isCapital, Cond.static yX5_isCapital, Cond.code yX5_isCapital cX5_isCapital 1 (some .boolean), Cond.methodLink RX3 97 yX3_doubleWaysOn, Cond.instanceMethod yX3_doubleWaysOn, Cond.selects RX3 yX3_doubleWaysOn yX3_doubleWaysOn, Cond.initialized RX3, Cond.code yX3_doubleWaysOn cX3_doubleWaysOn 8 (some .long), Cond.fieldLink RX3 44 "VerseYears$Vocables" "size" "I", Cond.fieldLink RX3 57 "VerseYears$Vocables" "sorts" "[I", Cond.fieldLink RX3 50 "VerseYears$Vocables" "feet" "[I", Cond.methodLink RX3 53 yX4_mayCome, Cond.instanceMethod yX4_mayCome, Cond.selects RX4 yX4_mayCome yX4_mayCome, Cond.code yX4_mayCome cX4_mayCome 3 (some .boolean), Cond.fieldLink RX4 24 "VerseYears$Vocables" "next" "[I", Cond.fieldLink RX4 21 "VerseYears$Vocables" "sorts" "[I"]
def wsX3_ofTwoSums : List Cond := .code yX3_ofTwoSums cX3_ofTwoSums 7 (some .long) :: ((wsX3_ofTwoSums_r1 ++ wsX3_ofTwoSums_r2) ++ wsX30 ++ wsX40 ++ wsX00)
def wsJ7_fill_53178 : List Cond := .code yJ7_fill_53178 cJ7_fill_53178 4 none :: ([])
def wsX4_init : List Cond := .code yX4_init cX4_init 1 none :: ([.methodLink RX4 3 objectInit, .instanceMethod objectInit, .code objectInit ⟨#[0xb1]⟩ 1 none, .arrayClass .int, .fieldLink RX4 9 "VerseYears$Vocables" "texts" "[I", .fieldLink RX4 15 "VerseYears$Vocables" "lengths" "[I", .fieldLink RX4 18 "VerseYears$Vocables" "feet" "[I", .fieldLink RX4 21 "VerseYears$Vocables" "sorts" "[I", .fieldLink RX4 24 "VerseYears$Vocables" "next" "[I", .methodLink RX4 27 yJ7_fill_53178, .static yJ7_fill_53178, .initialized RJ7, .code yJ7_fill_53178 cJ7_fill_53178 4 none] ++ wsX40)
def wsX4_take : List Cond := .code yX4_take cX4_take 4 none :: ([.fieldLink RX4 33 "VerseYears$Draft" "bytes" "[I", .fieldLink RX4 9 "VerseYears$Vocables" "texts" "[I", .fieldLink RX4 38 "VerseYears$Vocables" "size" "I", .fieldLink RX4 42 "VerseYears$Draft" "length" "I", .methodLink RX4 45 arraycopyName, .native arraycopyName, .static arraycopyName, .initialized "java/lang/System", .fieldLink RX4 15 "VerseYears$Vocables" "lengths" "[I", .fieldLink RX4 18 "VerseYears$Vocables" "feet" "[I", .fieldLink RX4 21 "VerseYears$Vocables" "sorts" "[I"] ++ wsX10 ++ wsX40)
def wsX5_init_r1 : List Cond := [Cond.methodLink RX5 1 objectInit, Cond.instanceMethod objectInit, Cond.code objectInit ⟨#[0xb1]⟩ 1 none, Cond.classLink RX5 7 RX0, Cond.instantiable RX0 1, Cond.initialized RX0, Cond.fieldLink RX5 10 "VerseYears" "customs" "LVerseYears$Customs;", Cond.classLink RX5 16 RX1, Cond.instantiable RX1 5, Cond.initialized RX1, Cond.fieldLink RX5 19 "VerseYears" "draft" "LVerseYears$Draft;", Cond.classLink RX5 23 RX4, Cond.instantiable RX4 6, Cond.initialized RX4, Cond.fieldLink RX5 26 "VerseYears" "vocables" "LVerseYears$Vocables;", Cond.classLink RX5 30 RX3, Cond.instantiable RX3 10, Cond.initialized RX3, Cond.fieldLink RX5 35 "VerseYears" "verses" "LVerseYears$Verses;", Cond.classLink RX5 39 RX2, Cond.instantiable RX2 11, Cond.initialized RX2, Cond.fieldLink RX5 44 "VerseYears" "stone" "LVerseYears$Stone;", Cond.fieldLink RX5 48 "VerseYears" "asked" "J"]
def wsX5_init_r2 : List Cond := [Cond.methodLink RX5 9 yX0_init, Cond.instanceMethod yX0_init, Cond.code yX0_init cX0_init 2 none, Cond.methodLink RX0 3 objectInit, Cond.arrayClass .int, Cond.fieldLink RX0 9 "VerseYears$Customs" "values" "[I", Cond.methodLink RX0 18 arraycopyName, Cond.native arraycopyName, Cond.static arraycopyName, Cond.initialized "java/lang/System", Cond.instanceMethod yX1_init, Cond.code yX1_init cX1_init 1 none, Cond.methodLink RX1 3 objectInit, Cond.fieldLink RX1 9 "VerseYears$Draft" "bytes" "[I", Cond.fieldLink RX1 15 "VerseYears$Draft" "starts" "[I", Cond.fieldLink RX1 18 "VerseYears$Draft" "ends" "[I", Cond.methodLink RX5 25 yX4_init, Cond.instanceMethod yX4_init, Cond.code yX4_init cX4_init 1 none, Cond.methodLink RX4 3 objectInit, Cond.fieldLink RX4 9 "VerseYears$Vocables" "texts" "[I", Cond.fieldLink RX4 15 "VerseYears$Vocables" "lengths" "[I", Cond.fieldLink RX4 18 "VerseYears$Vocables" "feet" "[I", Cond.fieldLink RX4 21 "VerseYears$Vocables" "sorts" "[I"]
def wsX5_init_r3 : List Cond := [Cond.fieldLink RX4 24 "VerseYears$Vocables" "next" "[I", Cond.methodLink RX4 27 yJ7_fill_53178, Cond.static yJ7_fill_53178, Cond.initialized RJ7, Cond.code yJ7_fill_53178 cJ7_fill_53178 4 none, Cond.methodLink RX5 32 yX3_init, Cond.instanceMethod yX3_init, Cond.code yX3_init cX3_init 3 none, Cond.methodLink RX3 3 objectInit, Cond.fieldLink RX3 9 "VerseYears$Verses" "sums" "[I", Cond.fieldLink RX3 15 "VerseYears$Verses" "oneSums" "[I", Cond.fieldLink RX3 18 "VerseYears$Verses" "otherSums" "[I", Cond.arrayClass .long, Cond.fieldLink RX3 21 "VerseYears$Verses" "byFeet" "[J", Cond.fieldLink RX3 25 "VerseYears$Verses" "kept" "[J", Cond.fieldLink RX3 28 "VerseYears$Verses" "isRoundOver" "Z", Cond.fieldLink RX3 32 "VerseYears$Verses" "vocables" "LVerseYears$Vocables;", Cond.fieldLink RX3 36 "VerseYears$Verses" "customs" "LVerseYears$Customs;", Cond.methodLink RX5 41 yX2_init, Cond.instanceMethod yX2_init, Cond.code yX2_init cX2_init 4 none, Cond.methodLink RX2 5 objectInit, Cond.fieldLink RX2 11 "VerseYears$Stone" "sums" "[I", Cond.fieldLink RX2 15 "VerseYears$Stone" "ways" "[J"]
def wsX5_init_r4 : List Cond := [Cond.fieldLink RX2 19 "VerseYears$Stone" "nextWays" "[J", Cond.fieldLink RX2 22 "VerseYears$Stone" "reached" "[J", Cond.fieldLink RX2 25 "VerseYears$Stone" "nextReached" "[J", Cond.fieldLink RX2 28 "VerseYears$Stone" "draft" "LVerseYears$Draft;", Cond.fieldLink RX2 32 "VerseYears$Stone" "vocables" "LVerseYears$Vocables;", Cond.fieldLink RX2 36 "VerseYears$Stone" "customs" "LVerseYears$Customs;"]
def wsX5_init : List Cond := .code yX5_init cX5_init 1 none :: ((wsX5_init_r1 ++ (wsX5_init_r2 ++ (wsX5_init_r3 ++ wsX5_init_r4))) ++ wsX00 ++ wsX50 ++ wsX10 ++ wsX40 ++ wsX30 ++ wsX20)
def wsX5_isWithin : List Cond := .code yX5_isWithin cX5_isWithin 2 (some .boolean) :: ([])
def wsX5_isValue : List Cond := .code yX5_isValue cX5_isValue 5 (some .boolean) :: ([.fieldLink RX5 180 "VerseYears" "VALUES" "[I"])
def wsX5_value : List Cond := .code yX5_value cX5_value 4 (some .int) :: ([.fieldLink RX5 35 "VerseYears" "verses" "LVerseYears$Verses;", .fieldLink RX5 10 "VerseYears" "customs" "LVerseYears$Customs;", .methodLink RX5 52 yX5_isWithin, .static yX5_isWithin, .initialized RX5, .code yX5_isWithin cX5_isWithin 2 (some .boolean), .methodLink RX5 56 yX5_isValue, .static yX5_isValue, .code yX5_isValue cX5_isValue 5 (some .boolean), .fieldLink RX5 180 "VerseYears" "VALUES" "[I", .methodLink RX5 60 yX3_forget, .instanceMethod yX3_forget, .selects RX3 yX3_forget yX3_forget, .initialized RX3, .code yX3_forget cX3_forget 1 none, .fieldLink RX3 28 "VerseYears$Verses" "isRoundOver" "Z", .methodLink RX5 63 yX0_replace, .instanceMethod yX0_replace, .selects RX0 yX0_replace yX0_replace, .initialized RX0, .code yX0_replace cX0_replace 6 (some .int), .fieldLink RX0 9 "VerseYears$Customs" "values" "[I"] ++ wsX50 ++ wsX30 ++ wsX00)
def wsX5_isCustomary : List Cond := .code yX5_isCustomary cX5_isCustomary 2 (some .boolean) :: ([.methodLink RX5 52 yX5_isWithin, .static yX5_isWithin, .initialized RX5, .code yX5_isWithin cX5_isWithin 2 (some .boolean)])
def wsX5_worth : List Cond := .code yX5_worth cX5_worth 5 (some .int) :: ([.fieldLink RX5 48 "VerseYears" "asked" "J", .fieldLink RX5 70 "VerseYears" "ASKED_BY_COUNTING" "[I", .fieldLink RX5 10 "VerseYears" "customs" "LVerseYears$Customs;", .methodLink RX5 67 yX5_isCustomary, .static yX5_isCustomary, .initialized RX5, .code yX5_isCustomary cX5_isCustomary 2 (some .boolean), .methodLink RX5 52 yX5_isWithin, .static yX5_isWithin, .code yX5_isWithin cX5_isWithin 2 (some .boolean), .methodLink RX5 74 yX0_worthOf, .instanceMethod yX0_worthOf, .selects RX0 yX0_worthOf yX0_worthOf, .initialized RX0, .code yX0_worthOf cX0_worthOf 5 (some .int), .fieldLink RX0 9 "VerseYears$Customs" "values" "[I", .static yX5_isLetter, .code yX5_isLetter cX5_isLetter 1 (some .boolean), .methodLink RX5 190 yX5_isCapital, .static yX5_isCapital, .code yX5_isCapital cX5_isCapital 1 (some .boolean)] ++ wsX50 ++ wsX00)
def wsX5_mayAllStand : List Cond := .code yX5_mayAllStand cX5_mayAllStand 5 (some .boolean) :: ([.methodLink RX5 183 yX5_byteOf, .static yX5_byteOf, .initialized RX5, .code yX5_byteOf cX5_byteOf 3 (some .int), .methodLink RX5 187 yX5_isLetter, .static yX5_isLetter, .code yX5_isLetter cX5_isLetter 1 (some .boolean), .methodLink RX5 190 yX5_isCapital, .static yX5_isCapital, .code yX5_isCapital cX5_isCapital 1 (some .boolean)])
def wsX5_type_r1 : List Cond := [Cond.fieldLink RX5 19 "VerseYears" "draft" "LVerseYears$Draft;", Cond.fieldLink RX5 82 "VerseYears$Draft" "length" "I", Cond.methodLink RX5 78 yX5_mayAllStand, Cond.static yX5_mayAllStand, Cond.initialized RX5, Cond.code yX5_mayAllStand cX5_mayAllStand 5 (some .boolean), Cond.methodLink RX5 183 yX5_byteOf, Cond.static yX5_byteOf, Cond.code yX5_byteOf cX5_byteOf 3 (some .int), Cond.methodLink RX5 187 yX5_isLetter, Cond.static yX5_isLetter, Cond.code yX5_isLetter cX5_isLetter 1 (some .boolean), Cond.methodLink RX5 190 yX5_isCapital, Cond.static yX5_isCapital, Cond.code yX5_isCapital cX5_isCapital 1 (some .boolean), Cond.methodLink RX5 86 yX1_append, Cond.instanceMethod yX1_append, Cond.selects RX1 yX1_append yX1_append, Cond.initialized RX1, Cond.code yX1_append cX1_append 5 none, Cond.fieldLink RX1 9 "VerseYears$Draft" "bytes" "[I", Cond.fieldLink RX1 21 "VerseYears$Draft" "length" "I", Cond.methodLink RX1 29 yX1_findParts, Cond.instanceMethod yX1_findParts]
def wsX5_type_r2 : List Cond := [Cond.selects RX1 yX1_findParts yX1_findParts, Cond.code yX1_findParts cX1_findParts 3 none, Cond.fieldLink RX1 32 "VerseYears$Draft" "parts" "I", Cond.fieldLink RX1 15 "VerseYears$Draft" "starts" "[I", Cond.fieldLink RX1 18 "VerseYears$Draft" "ends" "[I"]
def wsX5_type : List Cond := .code yX5_type cX5_type 4 (some .int) :: ((wsX5_type_r1 ++ wsX5_type_r2) ++ wsX50 ++ wsX10)
def wsX5_clear : List Cond := .code yX5_clear cX5_clear 2 (some .int) :: ([.fieldLink RX5 19 "VerseYears" "draft" "LVerseYears$Draft;", .fieldLink RX5 82 "VerseYears$Draft" "length" "I", .methodLink RX5 90 yX1_wipe, .instanceMethod yX1_wipe, .selects RX1 yX1_wipe yX1_wipe, .initialized RX1, .code yX1_wipe cX1_wipe 1 none, .fieldLink RX1 21 "VerseYears$Draft" "length" "I", .fieldLink RX1 32 "VerseYears$Draft" "parts" "I"] ++ wsX50 ++ wsX10)
def wsX5_sumOfDraft : List Cond := .code yX5_sumOfDraft cX5_sumOfDraft 3 (some .int) :: ([.fieldLink RX5 10 "VerseYears" "customs" "LVerseYears$Customs;", .fieldLink RX5 19 "VerseYears" "draft" "LVerseYears$Draft;", .fieldLink RX5 173 "VerseYears$Draft" "bytes" "[I", .fieldLink RX5 82 "VerseYears$Draft" "length" "I", .methodLink RX5 176 yX0_sumOf, .instanceMethod yX0_sumOf, .selects RX0 yX0_sumOf yX0_sumOf, .initialized RX0, .code yX0_sumOf cX0_sumOf 9 (some .int), .methodLink RX0 31 yX0_worthOf, .instanceMethod yX0_worthOf, .selects RX0 yX0_worthOf yX0_worthOf, .code yX0_worthOf cX0_worthOf 5 (some .int), .fieldLink RX0 9 "VerseYears$Customs" "values" "[I", .static yX5_isLetter, .initialized RX5, .code yX5_isLetter cX5_isLetter 1 (some .boolean), .methodLink RX5 190 yX5_isCapital, .static yX5_isCapital, .code yX5_isCapital cX5_isCapital 1 (some .boolean)] ++ wsX50 ++ wsX10 ++ wsX00)
def wsX5_sum_r1 : List Cond := [Cond.methodLink RX5 67 yX5_isCustomary, Cond.static yX5_isCustomary, Cond.initialized RX5, Cond.code yX5_isCustomary cX5_isCustomary 2 (some .boolean), Cond.methodLink RX5 52 yX5_isWithin, Cond.static yX5_isWithin, Cond.code yX5_isWithin cX5_isWithin 2 (some .boolean), Cond.methodLink RX5 93 yX5_sumOfDraft, Cond.instanceMethod yX5_sumOfDraft, Cond.selects RX5 yX5_sumOfDraft yX5_sumOfDraft, Cond.code yX5_sumOfDraft cX5_sumOfDraft 3 (some .int), Cond.fieldLink RX5 10 "VerseYears" "customs" "LVerseYears$Customs;", Cond.fieldLink RX5 19 "VerseYears" "draft" "LVerseYears$Draft;", Cond.fieldLink RX5 173 "VerseYears$Draft" "bytes" "[I", Cond.fieldLink RX5 82 "VerseYears$Draft" "length" "I", Cond.methodLink RX5 176 yX0_sumOf, Cond.instanceMethod yX0_sumOf, Cond.selects RX0 yX0_sumOf yX0_sumOf, Cond.initialized RX0, Cond.code yX0_sumOf cX0_sumOf 9 (some .int), Cond.methodLink RX0 31 yX0_worthOf, Cond.instanceMethod yX0_worthOf, Cond.selects RX0 yX0_worthOf yX0_worthOf, Cond.code yX0_worthOf cX0_worthOf 5 (some .int)]
def wsX5_sum_r2 : List Cond := [Cond.fieldLink RX0 9 "VerseYears$Customs" "values" "[I", Cond.static yX5_isLetter, Cond.code yX5_isLetter cX5_isLetter 1 (some .boolean), Cond.methodLink RX5 190 yX5_isCapital, Cond.static yX5_isCapital, Cond.code yX5_isCapital cX5_isCapital 1 (some .boolean)]
def wsX5_sum : List Cond := .code yX5_sum cX5_sum 3 (some .int) :: ((wsX5_sum_r1 ++ wsX5_sum_r2) ++ wsX50 ++ wsX10 ++ wsX00)
def wsX5_vocable_r1 : List Cond := [Cond.fieldLink RX5 19 "VerseYears" "draft" "LVerseYears$Draft;", Cond.fieldLink RX5 26 "VerseYears" "vocables" "LVerseYears$Vocables;", Cond.fieldLink RX5 101 "VerseYears$Vocables" "size" "I", Cond.fieldLink RX5 35 "VerseYears" "verses" "LVerseYears$Verses;", Cond.methodLink RX5 52 yX5_isWithin, Cond.static yX5_isWithin, Cond.initialized RX5, Cond.code yX5_isWithin cX5_isWithin 2 (some .boolean), Cond.methodLink RX5 97 yX1_isWord, Cond.instanceMethod yX1_isWord, Cond.selects RX1 yX1_isWord yX1_isWord, Cond.initialized RX1, Cond.code yX1_isWord cX1_isWord 2 (some .boolean), Cond.fieldLink RX1 21 "VerseYears$Draft" "length" "I", Cond.fieldLink RX1 9 "VerseYears$Draft" "bytes" "[I", Cond.static yX5_isLetter, Cond.code yX5_isLetter cX5_isLetter 1 (some .boolean), Cond.methodLink RX5 190 yX5_isCapital, Cond.static yX5_isCapital, Cond.code yX5_isCapital cX5_isCapital 1 (some .boolean), Cond.methodLink RX5 104 yX4_take, Cond.instanceMethod yX4_take, Cond.selects RX4 yX4_take yX4_take, Cond.initialized RX4]
def wsX5_vocable_r2 : List Cond := [Cond.code yX4_take cX4_take 4 none, Cond.fieldLink RX4 33 "VerseYears$Draft" "bytes" "[I", Cond.fieldLink RX4 9 "VerseYears$Vocables" "texts" "[I", Cond.fieldLink RX4 38 "VerseYears$Vocables" "size" "I", Cond.fieldLink RX4 42 "VerseYears$Draft" "length" "I", Cond.methodLink RX4 45 arraycopyName, Cond.native arraycopyName, Cond.static arraycopyName, Cond.initialized "java/lang/System", Cond.fieldLink RX4 15 "VerseYears$Vocables" "lengths" "[I", Cond.fieldLink RX4 18 "VerseYears$Vocables" "feet" "[I", Cond.fieldLink RX4 21 "VerseYears$Vocables" "sorts" "[I", Cond.methodLink RX5 90 yX1_wipe, Cond.instanceMethod yX1_wipe, Cond.selects RX1 yX1_wipe yX1_wipe, Cond.code yX1_wipe cX1_wipe 1 none, Cond.fieldLink RX1 32 "VerseYears$Draft" "parts" "I", Cond.methodLink RX5 60 yX3_forget, Cond.instanceMethod yX3_forget, Cond.selects RX3 yX3_forget yX3_forget, Cond.initialized RX3, Cond.code yX3_forget cX3_forget 1 none, Cond.fieldLink RX3 28 "VerseYears$Verses" "isRoundOver" "Z"]
def wsX5_vocable : List Cond := .code yX5_vocable cX5_vocable 4 (some .int) :: ((wsX5_vocable_r1 ++ wsX5_vocable_r2) ++ wsX50 ++ wsX40 ++ wsX10 ++ wsX30)
def wsX5_about : List Cond := .code yX5_about cX5_about 3 (some .int) :: ([.fieldLink RX5 26 "VerseYears" "vocables" "LVerseYears$Vocables;", .fieldLink RX5 101 "VerseYears$Vocables" "size" "I", .fieldLink RX5 108 "VerseYears$Vocables" "lengths" "[I", .fieldLink RX5 111 "VerseYears$Vocables" "feet" "[I", .fieldLink RX5 114 "VerseYears$Vocables" "sorts" "[I", .fieldLink RX5 117 "VerseYears$Vocables" "texts" "[I", .methodLink RX5 52 yX5_isWithin, .static yX5_isWithin, .initialized RX5, .code yX5_isWithin cX5_isWithin 2 (some .boolean)] ++ wsX50 ++ wsX40)
def wsX5_order : List Cond := .code yX5_order cX5_order 4 (some .int) :: ([.fieldLink RX5 26 "VerseYears" "vocables" "LVerseYears$Vocables;", .fieldLink RX5 120 "VerseYears$Vocables" "next" "[I", .fieldLink RX5 35 "VerseYears" "verses" "LVerseYears$Verses;", .methodLink RX5 52 yX5_isWithin, .static yX5_isWithin, .initialized RX5, .code yX5_isWithin cX5_isWithin 2 (some .boolean), .methodLink RX5 60 yX3_forget, .instanceMethod yX3_forget, .selects RX3 yX3_forget yX3_forget, .initialized RX3, .code yX3_forget cX3_forget 1 none, .fieldLink RX3 28 "VerseYears$Verses" "isRoundOver" "Z"] ++ wsX50 ++ wsX40 ++ wsX30)
def wsX5_many : List Cond := .code yX5_many cX5_many 2 (some .long) :: ([.constantLong RX5 123 (-1), .fieldLink RX5 35 "VerseYears" "verses" "LVerseYears$Verses;", .methodLink RX5 125 yX3_ofFeet, .instanceMethod yX3_ofFeet, .selects RX3 yX3_ofFeet yX3_ofFeet, .initialized RX3, .code yX3_ofFeet cX3_ofFeet 4 (some .long), .fieldLink RX3 21 "VerseYears$Verses" "byFeet" "[J", .methodLink RX3 40 yX3_stepOfFeet, .instanceMethod yX3_stepOfFeet, .selects RX3 yX3_stepOfFeet yX3_stepOfFeet, .code yX3_stepOfFeet cX3_stepOfFeet 6 (some .long), .fieldLink RX3 32 "VerseYears$Verses" "vocables" "LVerseYears$Vocables;", .fieldLink RX3 44 "VerseYears$Vocables" "size" "I", .fieldLink RX3 50 "VerseYears$Vocables" "feet" "[I", .fieldLink RX3 57 "VerseYears$Vocables" "sorts" "[I", .methodLink RX3 53 yX4_mayCome, .instanceMethod yX4_mayCome, .selects RX4 yX4_mayCome yX4_mayCome, .initialized RX4, .code yX4_mayCome cX4_mayCome 3 (some .boolean), .fieldLink RX4 24 "VerseYears$Vocables" "next" "[I", .fieldLink RX4 21 "VerseYears$Vocables" "sorts" "[I"] ++ wsX50 ++ wsX30 ++ wsX40)
def wsX5_isLineAsked : List Cond := .code yX5_isLineAsked cX5_isLineAsked 4 (some .boolean) :: ([.methodLink RX5 52 yX5_isWithin, .static yX5_isWithin, .initialized RX5, .code yX5_isWithin cX5_isWithin 2 (some .boolean), .methodLink RX5 67 yX5_isCustomary, .static yX5_isCustomary, .code yX5_isCustomary cX5_isCustomary 2 (some .boolean)])
def wsX5_lines_r1 : List Cond := [Cond.constantLong RX5 123 (-1), Cond.fieldLink RX5 35 "VerseYears" "verses" "LVerseYears$Verses;", Cond.methodLink RX5 129 yX5_isLineAsked, Cond.static yX5_isLineAsked, Cond.initialized RX5, Cond.code yX5_isLineAsked cX5_isLineAsked 4 (some .boolean), Cond.methodLink RX5 52 yX5_isWithin, Cond.static yX5_isWithin, Cond.code yX5_isWithin cX5_isWithin 2 (some .boolean), Cond.methodLink RX5 67 yX5_isCustomary, Cond.static yX5_isCustomary, Cond.code yX5_isCustomary cX5_isCustomary 2 (some .boolean), Cond.methodLink RX5 133 yX3_ofSum, Cond.instanceMethod yX3_ofSum, Cond.selects RX3 yX3_ofSum yX3_ofSum, Cond.initialized RX3, Cond.code yX3_ofSum cX3_ofSum 5 (some .long), Cond.methodLink RX3 60 yX3_beginRound, Cond.instanceMethod yX3_beginRound, Cond.selects RX3 yX3_beginRound yX3_beginRound, Cond.code yX3_beginRound cX3_beginRound 3 none, Cond.fieldLink RX3 28 "VerseYears$Verses" "isRoundOver" "Z", Cond.fieldLink RX3 68 "VerseYears$Verses" "roundCounting" "I", Cond.fieldLink RX3 71 "VerseYears$Verses" "roundCustom" "I"]
def wsX5_lines_r2 : List Cond := [Cond.fieldLink RX3 32 "VerseYears$Verses" "vocables" "LVerseYears$Vocables;", Cond.fieldLink RX3 9 "VerseYears$Verses" "sums" "[I", Cond.fieldLink RX3 36 "VerseYears$Verses" "customs" "LVerseYears$Customs;", Cond.fieldLink RX3 25 "VerseYears$Verses" "kept" "[J", Cond.methodLink RX3 74 yX4_putSums, Cond.instanceMethod yX4_putSums, Cond.selects RX4 yX4_putSums yX4_putSums, Cond.initialized RX4, Cond.code yX4_putSums cX4_putSums 7 none, Cond.fieldLink RX4 38 "VerseYears$Vocables" "size" "I", Cond.fieldLink RX4 9 "VerseYears$Vocables" "texts" "[I", Cond.fieldLink RX4 15 "VerseYears$Vocables" "lengths" "[I", Cond.methodLink RX4 57 yX0_sumOf, Cond.instanceMethod yX0_sumOf, Cond.selects RX0 yX0_sumOf yX0_sumOf, Cond.initialized RX0, Cond.code yX0_sumOf cX0_sumOf 9 (some .int), Cond.methodLink RX0 31 yX0_worthOf, Cond.instanceMethod yX0_worthOf, Cond.selects RX0 yX0_worthOf yX0_worthOf, Cond.code yX0_worthOf cX0_worthOf 5 (some .int), Cond.fieldLink RX0 9 "VerseYears$Customs" "values" "[I", Cond.static yX5_isLetter, Cond.code yX5_isLetter cX5_isLetter 1 (some .boolean)]
def wsX5_lines_r3 : List Cond := [Cond.methodLink RX5 190 yX5_isCapital, Cond.static yX5_isCapital, Cond.code yX5_isCapital cX5_isCapital 1 (some .boolean), Cond.methodLink RX3 78 yJ7_fill_d0a16, Cond.static yJ7_fill_d0a16, Cond.initialized RJ7, Cond.code yJ7_fill_d0a16 cJ7_fill_d0a16 5 none, Cond.methodLink RX3 64 yX3_waysOn, Cond.instanceMethod yX3_waysOn, Cond.selects RX3 yX3_waysOn yX3_waysOn, Cond.code yX3_waysOn cX3_waysOn 10 (some .long), Cond.constantLong RX3 91 (65535), Cond.methodLink RX3 84 yX3_placeKept, Cond.static yX3_placeKept, Cond.code yX3_placeKept cX3_placeKept 3 (some .int), Cond.methodLink RX3 88 yX3_countWaysOn, Cond.instanceMethod yX3_countWaysOn, Cond.selects RX3 yX3_countWaysOn yX3_countWaysOn, Cond.code yX3_countWaysOn cX3_countWaysOn 7 (some .long), Cond.fieldLink RX3 44 "VerseYears$Vocables" "size" "I", Cond.methodLink RX3 93 yX3_waysWith, Cond.instanceMethod yX3_waysWith, Cond.selects RX3 yX3_waysWith yX3_waysWith, Cond.code yX3_waysWith cX3_waysWith 7 (some .long)]
def wsX5_lines_r4 : List Cond := [Cond.fieldLink RX3 50 "VerseYears$Vocables" "feet" "[I", Cond.fieldLink RX3 57 "VerseYears$Vocables" "sorts" "[I", Cond.methodLink RX3 53 yX4_mayCome, Cond.instanceMethod yX4_mayCome, Cond.selects RX4 yX4_mayCome yX4_mayCome, Cond.code yX4_mayCome cX4_mayCome 3 (some .boolean), Cond.fieldLink RX4 24 "VerseYears$Vocables" "next" "[I", Cond.fieldLink RX4 21 "VerseYears$Vocables" "sorts" "[I"]
def wsX5_lines : List Cond := .code yX5_lines cX5_lines 5 (some .long) :: ((wsX5_lines_r1 ++ (wsX5_lines_r2 ++ (wsX5_lines_r3 ++ wsX5_lines_r4))) ++ wsX50 ++ wsX30 ++ wsX40 ++ wsX00)
def wsX5_line_r1 : List Cond := [Cond.fieldLink RX5 35 "VerseYears" "verses" "LVerseYears$Verses;", Cond.methodLink RX5 129 yX5_isLineAsked, Cond.static yX5_isLineAsked, Cond.initialized RX5, Cond.code yX5_isLineAsked cX5_isLineAsked 4 (some .boolean), Cond.methodLink RX5 52 yX5_isWithin, Cond.static yX5_isWithin, Cond.code yX5_isWithin cX5_isWithin 2 (some .boolean), Cond.methodLink RX5 67 yX5_isCustomary, Cond.static yX5_isCustomary, Cond.code yX5_isCustomary cX5_isCustomary 2 (some .boolean), Cond.methodLink RX5 133 yX3_ofSum, Cond.instanceMethod yX3_ofSum, Cond.selects RX3 yX3_ofSum yX3_ofSum, Cond.initialized RX3, Cond.code yX3_ofSum cX3_ofSum 5 (some .long), Cond.methodLink RX3 60 yX3_beginRound, Cond.instanceMethod yX3_beginRound, Cond.selects RX3 yX3_beginRound yX3_beginRound, Cond.code yX3_beginRound cX3_beginRound 3 none, Cond.fieldLink RX3 28 "VerseYears$Verses" "isRoundOver" "Z", Cond.fieldLink RX3 68 "VerseYears$Verses" "roundCounting" "I", Cond.fieldLink RX3 71 "VerseYears$Verses" "roundCustom" "I", Cond.fieldLink RX3 32 "VerseYears$Verses" "vocables" "LVerseYears$Vocables;"]
def wsX5_line_r2 : List Cond := [Cond.fieldLink RX3 9 "VerseYears$Verses" "sums" "[I", Cond.fieldLink RX3 36 "VerseYears$Verses" "customs" "LVerseYears$Customs;", Cond.fieldLink RX3 25 "VerseYears$Verses" "kept" "[J", Cond.methodLink RX3 74 yX4_putSums, Cond.instanceMethod yX4_putSums, Cond.selects RX4 yX4_putSums yX4_putSums, Cond.initialized RX4, Cond.code yX4_putSums cX4_putSums 7 none, Cond.fieldLink RX4 38 "VerseYears$Vocables" "size" "I", Cond.fieldLink RX4 9 "VerseYears$Vocables" "texts" "[I", Cond.fieldLink RX4 15 "VerseYears$Vocables" "lengths" "[I", Cond.methodLink RX4 57 yX0_sumOf, Cond.instanceMethod yX0_sumOf, Cond.selects RX0 yX0_sumOf yX0_sumOf, Cond.initialized RX0, Cond.code yX0_sumOf cX0_sumOf 9 (some .int), Cond.methodLink RX0 31 yX0_worthOf, Cond.instanceMethod yX0_worthOf, Cond.selects RX0 yX0_worthOf yX0_worthOf, Cond.code yX0_worthOf cX0_worthOf 5 (some .int), Cond.fieldLink RX0 9 "VerseYears$Customs" "values" "[I", Cond.static yX5_isLetter, Cond.code yX5_isLetter cX5_isLetter 1 (some .boolean), Cond.methodLink RX5 190 yX5_isCapital]
def wsX5_line_r3 : List Cond := [Cond.static yX5_isCapital, Cond.code yX5_isCapital cX5_isCapital 1 (some .boolean), Cond.methodLink RX3 78 yJ7_fill_d0a16, Cond.static yJ7_fill_d0a16, Cond.initialized RJ7, Cond.code yJ7_fill_d0a16 cJ7_fill_d0a16 5 none, Cond.methodLink RX3 64 yX3_waysOn, Cond.instanceMethod yX3_waysOn, Cond.selects RX3 yX3_waysOn yX3_waysOn, Cond.code yX3_waysOn cX3_waysOn 10 (some .long), Cond.constantLong RX3 91 (65535), Cond.methodLink RX3 84 yX3_placeKept, Cond.static yX3_placeKept, Cond.code yX3_placeKept cX3_placeKept 3 (some .int), Cond.methodLink RX3 88 yX3_countWaysOn, Cond.instanceMethod yX3_countWaysOn, Cond.selects RX3 yX3_countWaysOn yX3_countWaysOn, Cond.code yX3_countWaysOn cX3_countWaysOn 7 (some .long), Cond.fieldLink RX3 44 "VerseYears$Vocables" "size" "I", Cond.methodLink RX3 93 yX3_waysWith, Cond.instanceMethod yX3_waysWith, Cond.selects RX3 yX3_waysWith yX3_waysWith, Cond.code yX3_waysWith cX3_waysWith 7 (some .long), Cond.fieldLink RX3 50 "VerseYears$Vocables" "feet" "[I"]
def wsX5_line_r4 : List Cond := [Cond.fieldLink RX3 57 "VerseYears$Vocables" "sorts" "[I", Cond.methodLink RX3 53 yX4_mayCome, Cond.instanceMethod yX4_mayCome, Cond.selects RX4 yX4_mayCome yX4_mayCome, Cond.code yX4_mayCome cX4_mayCome 3 (some .boolean), Cond.fieldLink RX4 24 "VerseYears$Vocables" "next" "[I", Cond.fieldLink RX4 21 "VerseYears$Vocables" "sorts" "[I", Cond.methodLink RX5 137 yX3_vocableAt, Cond.instanceMethod yX3_vocableAt, Cond.selects RX3 yX3_vocableAt yX3_vocableAt, Cond.code yX3_vocableAt cX3_vocableAt 15 (some .int)]
def wsX5_line : List Cond := .code yX5_line cX5_line 8 (some .int) :: ((wsX5_line_r1 ++ (wsX5_line_r2 ++ (wsX5_line_r3 ++ wsX5_line_r4))) ++ wsX50 ++ wsX30 ++ wsX40 ++ wsX00)
def wsX5_doubles_r1 : List Cond := [Cond.constantLong RX5 123 (-1), Cond.fieldLink RX5 35 "VerseYears" "verses" "LVerseYears$Verses;", Cond.methodLink RX5 129 yX5_isLineAsked, Cond.static yX5_isLineAsked, Cond.initialized RX5, Cond.code yX5_isLineAsked cX5_isLineAsked 4 (some .boolean), Cond.methodLink RX5 52 yX5_isWithin, Cond.static yX5_isWithin, Cond.code yX5_isWithin cX5_isWithin 2 (some .boolean), Cond.methodLink RX5 67 yX5_isCustomary, Cond.static yX5_isCustomary, Cond.code yX5_isCustomary cX5_isCustomary 2 (some .boolean), Cond.methodLink RX5 141 yX3_ofTwoSums, Cond.instanceMethod yX3_ofTwoSums, Cond.selects RX3 yX3_ofTwoSums yX3_ofTwoSums, Cond.initialized RX3, Cond.code yX3_ofTwoSums cX3_ofTwoSums 7 (some .long), Cond.fieldLink RX3 32 "VerseYears$Verses" "vocables" "LVerseYears$Vocables;", Cond.fieldLink RX3 15 "VerseYears$Verses" "oneSums" "[I", Cond.fieldLink RX3 36 "VerseYears$Verses" "customs" "LVerseYears$Customs;", Cond.fieldLink RX3 18 "VerseYears$Verses" "otherSums" "[I", Cond.methodLink RX3 74 yX4_putSums, Cond.instanceMethod yX4_putSums, Cond.selects RX4 yX4_putSums yX4_putSums]
def wsX5_doubles_r2 : List Cond := [Cond.initialized RX4, Cond.code yX4_putSums cX4_putSums 7 none, Cond.fieldLink RX4 38 "VerseYears$Vocables" "size" "I", Cond.fieldLink RX4 9 "VerseYears$Vocables" "texts" "[I", Cond.fieldLink RX4 15 "VerseYears$Vocables" "lengths" "[I", Cond.methodLink RX4 57 yX0_sumOf, Cond.instanceMethod yX0_sumOf, Cond.selects RX0 yX0_sumOf yX0_sumOf, Cond.initialized RX0, Cond.code yX0_sumOf cX0_sumOf 9 (some .int), Cond.methodLink RX0 31 yX0_worthOf, Cond.instanceMethod yX0_worthOf, Cond.selects RX0 yX0_worthOf yX0_worthOf, Cond.code yX0_worthOf cX0_worthOf 5 (some .int), Cond.fieldLink RX0 9 "VerseYears$Customs" "values" "[I", Cond.static yX5_isLetter, Cond.code yX5_isLetter cX5_isLetter 1 (some .boolean), Cond.methodLink RX5 190 yX5_isCapital, Cond.static yX5_isCapital, Cond.code yX5_isCapital cX5_isCapital 1 (some .boolean), Cond.methodLink RX3 97 yX3_doubleWaysOn, Cond.instanceMethod yX3_doubleWaysOn, Cond.selects RX3 yX3_doubleWaysOn yX3_doubleWaysOn, Cond.code yX3_doubleWaysOn cX3_doubleWaysOn 8 (some .long)]
def wsX5_doubles_r3 : List Cond := [Cond.fieldLink RX3 44 "VerseYears$Vocables" "size" "I", Cond.fieldLink RX3 57 "VerseYears$Vocables" "sorts" "[I", Cond.fieldLink RX3 50 "VerseYears$Vocables" "feet" "[I", Cond.methodLink RX3 53 yX4_mayCome, Cond.instanceMethod yX4_mayCome, Cond.selects RX4 yX4_mayCome yX4_mayCome, Cond.code yX4_mayCome cX4_mayCome 3 (some .boolean), Cond.fieldLink RX4 24 "VerseYears$Vocables" "next" "[I", Cond.fieldLink RX4 21 "VerseYears$Vocables" "sorts" "[I"]
def wsX5_doubles : List Cond := .code yX5_doubles cX5_doubles 7 (some .long) :: ((wsX5_doubles_r1 ++ (wsX5_doubles_r2 ++ wsX5_doubles_r3)) ++ wsX50 ++ wsX30 ++ wsX40 ++ wsX00)
def wsX5_fit_r1 : List Cond := [Cond.fieldLink RX5 19 "VerseYears" "draft" "LVerseYears$Draft;", Cond.fieldLink RX5 145 "VerseYears$Draft" "parts" "I", Cond.fieldLink RX5 44 "VerseYears" "stone" "LVerseYears$Stone;", Cond.methodLink RX5 52 yX5_isWithin, Cond.static yX5_isWithin, Cond.initialized RX5, Cond.code yX5_isWithin cX5_isWithin 2 (some .boolean), Cond.methodLink RX5 148 yX2_fittingPart, Cond.instanceMethod yX2_fittingPart, Cond.selects RX2 yX2_fittingPart yX2_fittingPart, Cond.initialized RX2, Cond.code yX2_fittingPart cX2_fittingPart 4 (some .int), Cond.fieldLink RX2 32 "VerseYears$Stone" "vocables" "LVerseYears$Vocables;", Cond.fieldLink RX2 40 "VerseYears$Vocables" "size" "I", Cond.fieldLink RX2 28 "VerseYears$Stone" "draft" "LVerseYears$Draft;", Cond.methodLink RX2 46 yX4_fitsPart, Cond.instanceMethod yX4_fitsPart, Cond.selects RX4 yX4_fitsPart yX4_fitsPart, Cond.initialized RX4, Cond.code yX4_fitsPart cX4_fitsPart 8 (some .boolean), Cond.fieldLink RX4 51 "VerseYears$Draft" "starts" "[I", Cond.fieldLink RX4 54 "VerseYears$Draft" "ends" "[I", Cond.fieldLink RX4 15 "VerseYears$Vocables" "lengths" "[I", Cond.fieldLink RX4 33 "VerseYears$Draft" "bytes" "[I"]
def wsX5_fit_r2 : List Cond := [Cond.fieldLink RX4 9 "VerseYears$Vocables" "texts" "[I"]
def wsX5_fit : List Cond := .code yX5_fit cX5_fit 2 (some .int) :: ((wsX5_fit_r1 ++ wsX5_fit_r2) ++ wsX50 ++ wsX10 ++ wsX20 ++ wsX40)
def wsX5_readings_r1 : List Cond := [Cond.fieldLink RX5 19 "VerseYears" "draft" "LVerseYears$Draft;", Cond.fieldLink RX5 145 "VerseYears$Draft" "parts" "I", Cond.fieldLink RX5 44 "VerseYears" "stone" "LVerseYears$Stone;", Cond.methodLink RX5 152 yX2_howManyReadings, Cond.instanceMethod yX2_howManyReadings, Cond.selects RX2 yX2_howManyReadings yX2_howManyReadings, Cond.initialized RX2, Cond.code yX2_howManyReadings cX2_howManyReadings 8 (some .int), Cond.fieldLink RX2 15 "VerseYears$Stone" "ways" "[J", Cond.fieldLink RX2 28 "VerseYears$Stone" "draft" "LVerseYears$Draft;", Cond.fieldLink RX2 56 "VerseYears$Draft" "parts" "I", Cond.constantLong RX2 65 (2000000000), Cond.methodLink RX2 67 Lib.MathLoose.min_long.x, Cond.static Lib.MathLoose.min_long.x, Cond.initialized "java/lang/Math", Cond.code Lib.MathLoose.min_long.x Lib.MathLoose.min_long.code 4 (some .long), Cond.methodLink RX2 50 yJ7_fill_d0a16, Cond.static yJ7_fill_d0a16, Cond.initialized RJ7, Cond.code yJ7_fill_d0a16 cJ7_fill_d0a16 5 none, Cond.methodLink RX2 61 yX2_readPart, Cond.instanceMethod yX2_readPart, Cond.selects RX2 yX2_readPart yX2_readPart, Cond.code yX2_readPart cX2_readPart 3 none]
def wsX5_readings_r2 : List Cond := [Cond.fieldLink RX2 19 "VerseYears$Stone" "nextWays" "[J", Cond.fieldLink RX2 32 "VerseYears$Stone" "vocables" "LVerseYears$Vocables;", Cond.fieldLink RX2 40 "VerseYears$Vocables" "size" "I", Cond.fieldLink RX2 73 "VerseYears$Vocables" "sorts" "[I", Cond.methodLink RX2 46 yX4_fitsPart, Cond.instanceMethod yX4_fitsPart, Cond.selects RX4 yX4_fitsPart yX4_fitsPart, Cond.initialized RX4, Cond.code yX4_fitsPart cX4_fitsPart 8 (some .boolean), Cond.fieldLink RX4 51 "VerseYears$Draft" "starts" "[I", Cond.fieldLink RX4 54 "VerseYears$Draft" "ends" "[I", Cond.fieldLink RX4 15 "VerseYears$Vocables" "lengths" "[I", Cond.fieldLink RX4 33 "VerseYears$Draft" "bytes" "[I", Cond.fieldLink RX4 9 "VerseYears$Vocables" "texts" "[I", Cond.methodLink RX2 76 yX2_waysTo, Cond.instanceMethod yX2_waysTo, Cond.selects RX2 yX2_waysTo yX2_waysTo, Cond.code yX2_waysTo cX2_waysTo 5 (some .long), Cond.methodLink RX2 80 yX4_mayCome, Cond.instanceMethod yX4_mayCome, Cond.selects RX4 yX4_mayCome yX4_mayCome, Cond.code yX4_mayCome cX4_mayCome 3 (some .boolean), Cond.fieldLink RX4 24 "VerseYears$Vocables" "next" "[I", Cond.fieldLink RX4 21 "VerseYears$Vocables" "sorts" "[I"]
def wsX5_readings : List Cond := .code yX5_readings cX5_readings 1 (some .int) :: ((wsX5_readings_r1 ++ wsX5_readings_r2) ++ wsX50 ++ wsX10 ++ wsX20 ++ wsX40)
def wsX5_years_r1 : List Cond := [Cond.fieldLink RX5 19 "VerseYears" "draft" "LVerseYears$Draft;", Cond.fieldLink RX5 145 "VerseYears$Draft" "parts" "I", Cond.fieldLink RX5 44 "VerseYears" "stone" "LVerseYears$Stone;", Cond.fieldLink RX5 160 "VerseYears$Stone" "found" "I", Cond.fieldLink RX5 163 "VerseYears$Stone" "least" "I", Cond.fieldLink RX5 166 "VerseYears$Stone" "greatest" "I", Cond.methodLink RX5 67 yX5_isCustomary, Cond.static yX5_isCustomary, Cond.initialized RX5, Cond.code yX5_isCustomary cX5_isCustomary 2 (some .boolean), Cond.methodLink RX5 52 yX5_isWithin, Cond.static yX5_isWithin, Cond.code yX5_isWithin cX5_isWithin 2 (some .boolean), Cond.methodLink RX5 156 yX2_findYears, Cond.instanceMethod yX2_findYears, Cond.selects RX2 yX2_findYears yX2_findYears, Cond.initialized RX2, Cond.code yX2_findYears cX2_findYears 4 none, Cond.fieldLink RX2 32 "VerseYears$Stone" "vocables" "LVerseYears$Vocables;", Cond.fieldLink RX2 11 "VerseYears$Stone" "sums" "[I", Cond.fieldLink RX2 36 "VerseYears$Stone" "customs" "LVerseYears$Customs;", Cond.fieldLink RX2 22 "VerseYears$Stone" "reached" "[J", Cond.fieldLink RX2 28 "VerseYears$Stone" "draft" "LVerseYears$Draft;", Cond.fieldLink RX2 56 "VerseYears$Draft" "parts" "I"]
def wsX5_years_r2 : List Cond := [Cond.fieldLink RX2 91 "VerseYears$Stone" "found" "I", Cond.fieldLink RX2 94 "VerseYears$Stone" "least" "I", Cond.fieldLink RX2 97 "VerseYears$Stone" "greatest" "I", Cond.methodLink RX2 84 yX4_putSums, Cond.instanceMethod yX4_putSums, Cond.selects RX4 yX4_putSums yX4_putSums, Cond.initialized RX4, Cond.code yX4_putSums cX4_putSums 7 none, Cond.fieldLink RX4 38 "VerseYears$Vocables" "size" "I", Cond.fieldLink RX4 9 "VerseYears$Vocables" "texts" "[I", Cond.fieldLink RX4 15 "VerseYears$Vocables" "lengths" "[I", Cond.methodLink RX4 57 yX0_sumOf, Cond.instanceMethod yX0_sumOf, Cond.selects RX0 yX0_sumOf yX0_sumOf, Cond.initialized RX0, Cond.code yX0_sumOf cX0_sumOf 9 (some .int), Cond.methodLink RX0 31 yX0_worthOf, Cond.instanceMethod yX0_worthOf, Cond.selects RX0 yX0_worthOf yX0_worthOf, Cond.code yX0_worthOf cX0_worthOf 5 (some .int), Cond.fieldLink RX0 9 "VerseYears$Customs" "values" "[I", Cond.static yX5_isLetter, Cond.code yX5_isLetter cX5_isLetter 1 (some .boolean), Cond.methodLink RX5 190 yX5_isCapital]
def wsX5_years_r3 : List Cond := [Cond.static yX5_isCapital, Cond.code yX5_isCapital cX5_isCapital 1 (some .boolean), Cond.methodLink RX2 50 yJ7_fill_d0a16, Cond.static yJ7_fill_d0a16, Cond.initialized RJ7, Cond.code yJ7_fill_d0a16 cJ7_fill_d0a16 5 none, Cond.methodLink RX2 88 yX2_reachOverPart, Cond.instanceMethod yX2_reachOverPart, Cond.selects RX2 yX2_reachOverPart yX2_reachOverPart, Cond.code yX2_reachOverPart cX2_reachOverPart 3 none, Cond.fieldLink RX2 25 "VerseYears$Stone" "nextReached" "[J", Cond.fieldLink RX2 40 "VerseYears$Vocables" "size" "I", Cond.methodLink RX2 106 arraycopyName, Cond.native arraycopyName, Cond.static arraycopyName, Cond.initialized "java/lang/System", Cond.methodLink RX2 46 yX4_fitsPart, Cond.instanceMethod yX4_fitsPart, Cond.selects RX4 yX4_fitsPart yX4_fitsPart, Cond.code yX4_fitsPart cX4_fitsPart 8 (some .boolean), Cond.fieldLink RX4 51 "VerseYears$Draft" "starts" "[I", Cond.fieldLink RX4 54 "VerseYears$Draft" "ends" "[I", Cond.fieldLink RX4 33 "VerseYears$Draft" "bytes" "[I", Cond.methodLink RX2 103 yX2_reachWith]
def wsX5_years_r4 : List Cond := [Cond.instanceMethod yX2_reachWith, Cond.selects RX2 yX2_reachWith yX2_reachWith, Cond.code yX2_reachWith cX2_reachWith 3 none, Cond.fieldLink RX2 73 "VerseYears$Vocables" "sorts" "[I", Cond.methodLink RX2 80 yX4_mayCome, Cond.instanceMethod yX4_mayCome, Cond.selects RX4 yX4_mayCome yX4_mayCome, Cond.code yX4_mayCome cX4_mayCome 3 (some .boolean), Cond.fieldLink RX4 24 "VerseYears$Vocables" "next" "[I", Cond.fieldLink RX4 21 "VerseYears$Vocables" "sorts" "[I", Cond.methodLink RX2 112 yX2_addShifted, Cond.instanceMethod yX2_addShifted, Cond.selects RX2 yX2_addShifted yX2_addShifted, Cond.code yX2_addShifted cX2_addShifted 10 none, Cond.methodLink RX2 100 yX2_takeYears, Cond.instanceMethod yX2_takeYears, Cond.selects RX2 yX2_takeYears yX2_takeYears, Cond.code yX2_takeYears cX2_takeYears 5 none]
def wsX5_years : List Cond := .code yX5_years cX5_years 4 (some .int) :: ((wsX5_years_r1 ++ (wsX5_years_r2 ++ (wsX5_years_r3 ++ wsX5_years_r4))) ++ wsX50 ++ wsX10 ++ wsX20 ++ wsX40 ++ wsX00)
def wsX5_borne_r1 : List Cond := [Cond.constant RX5 169 (60000), Cond.methodLink RX5 93 yX5_sumOfDraft, Cond.instanceMethod yX5_sumOfDraft, Cond.selects RX5 yX5_sumOfDraft yX5_sumOfDraft, Cond.initialized RX5, Cond.code yX5_sumOfDraft cX5_sumOfDraft 3 (some .int), Cond.fieldLink RX5 10 "VerseYears" "customs" "LVerseYears$Customs;", Cond.fieldLink RX5 19 "VerseYears" "draft" "LVerseYears$Draft;", Cond.fieldLink RX5 173 "VerseYears$Draft" "bytes" "[I", Cond.fieldLink RX5 82 "VerseYears$Draft" "length" "I", Cond.methodLink RX5 176 yX0_sumOf, Cond.instanceMethod yX0_sumOf, Cond.selects RX0 yX0_sumOf yX0_sumOf, Cond.initialized RX0, Cond.code yX0_sumOf cX0_sumOf 9 (some .int), Cond.methodLink RX0 31 yX0_worthOf, Cond.instanceMethod yX0_worthOf, Cond.selects RX0 yX0_worthOf yX0_worthOf, Cond.code yX0_worthOf cX0_worthOf 5 (some .int), Cond.fieldLink RX0 9 "VerseYears$Customs" "values" "[I", Cond.static yX5_isLetter, Cond.code yX5_isLetter cX5_isLetter 1 (some .boolean), Cond.methodLink RX5 190 yX5_isCapital, Cond.static yX5_isCapital]
def wsX5_borne_r2 : List Cond := [Cond.code yX5_isCapital cX5_isCapital 1 (some .boolean)]
def wsX5_borne : List Cond := .code yX5_borne cX5_borne 5 (some .int) :: ((wsX5_borne_r1 ++ wsX5_borne_r2) ++ wsX50 ++ wsX10 ++ wsX00)
def wsX5_count : List Cond := .code yX5_count cX5_count 2 (some .int) :: ([.fieldLink RX5 26 "VerseYears" "vocables" "LVerseYears$Vocables;", .fieldLink RX5 101 "VerseYears$Vocables" "size" "I", .fieldLink RX5 19 "VerseYears" "draft" "LVerseYears$Draft;", .fieldLink RX5 82 "VerseYears$Draft" "length" "I", .fieldLink RX5 145 "VerseYears$Draft" "parts" "I", .methodLink RX5 170 yX1_broken, .instanceMethod yX1_broken, .selects RX1 yX1_broken yX1_broken, .initialized RX1, .code yX1_broken cX1_broken 3 (some .int), .fieldLink RX1 21 "VerseYears$Draft" "length" "I", .fieldLink RX1 9 "VerseYears$Draft" "bytes" "[I"] ++ wsX50 ++ wsX40 ++ wsX10)
def wsX5_trace : List Cond := .code yX5_trace cX5_trace 1 (some .long) :: ([.fieldLink RX5 48 "VerseYears" "asked" "J"] ++ wsX50)
def wsX6_init_r1 : List Cond := [Cond.methodLink RX6 1 objectInit, Cond.instanceMethod objectInit, Cond.code objectInit ⟨#[0xb1]⟩ 1 none, Cond.arrayClass .int, Cond.fieldLink RX6 7 "VerseYearsModel" "value" "[I", Cond.fieldLink RX6 13 "VerseYearsModel" "draft" "[I", Cond.fieldLink RX6 16 "VerseYearsModel" "letter" "[I", Cond.fieldLink RX6 19 "VerseYearsModel" "long1" "[I", Cond.fieldLink RX6 22 "VerseYearsModel" "feet" "[I", Cond.fieldLink RX6 25 "VerseYearsModel" "sort" "[I", Cond.fieldLink RX6 28 "VerseYearsModel" "order" "[I", Cond.constant RX6 31 (108036), Cond.arrayClass .long, Cond.fieldLink RX6 32 "VerseYearsModel" "left" "[J", Cond.fieldLink RX6 36 "VerseYearsModel" "open" "[J", Cond.fieldLink RX6 39 "VerseYearsModel" "own" "[I", Cond.fieldLink RX6 42 "VerseYearsModel" "other" "[I", Cond.fieldLink RX6 45 "VerseYearsModel" "pick" "[I", Cond.fieldLink RX6 48 "VerseYearsModel" "from" "[I", Cond.fieldLink RX6 51 "VerseYearsModel" "size" "[I", Cond.arrayClass .boolean, Cond.fieldLink RX6 54 "VerseYearsModel" "isYear" "[Z", Cond.fieldLink RX6 58 "VerseYearsModel" "isNext" "[Z", Cond.fieldLink RX6 61 "VerseYearsModel" "ways" "[J"]
def wsX6_init_r2 : List Cond := [Cond.fieldLink RX6 64 "VerseYearsModel" "nextWays" "[J"]
def wsX6_init : List Cond := .code yX6_init cX6_init 2 none :: ((wsX6_init_r1 ++ wsX6_init_r2) ++ wsX60)
def wsX6_in : List Cond := .code yX6_in cX6_in 6 (some .boolean) :: ([])
def wsX6_isValue : List Cond := .code yX6_isValue cX6_isValue 1 (some .boolean) :: ([])
def wsX6_value : List Cond := .code yX6_value cX6_value 5 (some .int) :: ([.fieldLink RX6 67 "VerseYearsModel" "thrown" "I", .constantLong RX6 71 (3), .constantLong RX6 77 (97), .constantLong RX6 79 (122), .fieldLink RX6 7 "VerseYearsModel" "value" "[I", .methodLink RX6 73 yX6_in, .static yX6_in, .initialized RX6, .code yX6_in cX6_in 6 (some .boolean), .methodLink RX6 81 yX6_isValue, .static yX6_isValue, .code yX6_isValue cX6_isValue 1 (some .boolean)] ++ wsX60)
def wsX6_isCapital : List Cond := .code yX6_isCapital cX6_isCapital 1 (some .boolean) :: ([.constantLong RX6 85 (65), .constantLong RX6 87 (90), .methodLink RX6 73 yX6_in, .static yX6_in, .initialized RX6, .code yX6_in cX6_in 6 (some .boolean)])
def wsX6_isLetter : List Cond := .code yX6_isLetter cX6_isLetter 1 (some .boolean) :: ([.constantLong RX6 77 (97), .constantLong RX6 79 (122), .methodLink RX6 73 yX6_in, .static yX6_in, .initialized RX6, .code yX6_in cX6_in 6 (some .boolean), .methodLink RX6 89 yX6_isCapital, .static yX6_isCapital, .code yX6_isCapital cX6_isCapital 1 (some .boolean), .constantLong RX6 85 (65), .constantLong RX6 87 (90)])
def wsX6_worthOf : List Cond := .code yX6_worthOf cX6_worthOf 5 (some .int) :: ([.fieldLink RX6 7 "VerseYearsModel" "value" "[I", .methodLink RX6 92 yX6_isLetter, .static yX6_isLetter, .initialized RX6, .code yX6_isLetter cX6_isLetter 1 (some .boolean), .constantLong RX6 77 (97), .constantLong RX6 79 (122), .methodLink RX6 73 yX6_in, .static yX6_in, .code yX6_in cX6_in 6 (some .boolean), .methodLink RX6 89 yX6_isCapital, .static yX6_isCapital, .code yX6_isCapital cX6_isCapital 1 (some .boolean), .constantLong RX6 85 (65), .constantLong RX6 87 (90)] ++ wsX60)
def wsX6_isWay : List Cond := .code yX6_isWay cX6_isWay 2 (some .boolean) :: ([.constantLong RX6 95 (2), .constantLong RX6 71 (3), .methodLink RX6 73 yX6_in, .static yX6_in, .initialized RX6, .code yX6_in cX6_in 6 (some .boolean)])
def wsX6_worth_r1 : List Cond := [Cond.fieldLink RX6 67 "VerseYearsModel" "thrown" "I", Cond.constantLong RX6 101 (255), Cond.fieldLink RX6 103 "VerseYearsModel" "trace" "J", Cond.constantLong RX6 107 (11), Cond.constantLong RX6 109 (111), Cond.methodLink RX6 97 yX6_isWay, Cond.static yX6_isWay, Cond.initialized RX6, Cond.code yX6_isWay cX6_isWay 2 (some .boolean), Cond.constantLong RX6 95 (2), Cond.constantLong RX6 71 (3), Cond.methodLink RX6 73 yX6_in, Cond.static yX6_in, Cond.code yX6_in cX6_in 6 (some .boolean), Cond.methodLink RX6 111 yX6_worthOf, Cond.instanceMethod yX6_worthOf, Cond.selects RX6 yX6_worthOf yX6_worthOf, Cond.code yX6_worthOf cX6_worthOf 5 (some .int), Cond.fieldLink RX6 7 "VerseYearsModel" "value" "[I", Cond.methodLink RX6 92 yX6_isLetter, Cond.static yX6_isLetter, Cond.code yX6_isLetter cX6_isLetter 1 (some .boolean), Cond.constantLong RX6 77 (97), Cond.constantLong RX6 79 (122)]
def wsX6_worth_r2 : List Cond := [Cond.methodLink RX6 89 yX6_isCapital, Cond.static yX6_isCapital, Cond.code yX6_isCapital cX6_isCapital 1 (some .boolean), Cond.constantLong RX6 85 (65), Cond.constantLong RX6 87 (90)]
def wsX6_worth : List Cond := .code yX6_worth cX6_worth 5 (some .int) :: ((wsX6_worth_r1 ++ wsX6_worth_r2) ++ wsX60)
def wsX6_type : List Cond := .code yX6_type cX6_type 6 (some .int) :: ([.fieldLink RX6 67 "VerseYearsModel" "thrown" "I", .constantLong RX6 115 (8), .constantLong RX6 101 (255), .fieldLink RX6 117 "VerseYearsModel" "typed" "I", .fieldLink RX6 13 "VerseYearsModel" "draft" "[I", .methodLink RX6 73 yX6_in, .static yX6_in, .initialized RX6, .code yX6_in cX6_in 6 (some .boolean), .methodLink RX6 92 yX6_isLetter, .static yX6_isLetter, .code yX6_isLetter cX6_isLetter 1 (some .boolean), .constantLong RX6 77 (97), .constantLong RX6 79 (122), .methodLink RX6 89 yX6_isCapital, .static yX6_isCapital, .code yX6_isCapital cX6_isCapital 1 (some .boolean), .constantLong RX6 85 (65), .constantLong RX6 87 (90)] ++ wsX60)
def wsX6_clear : List Cond := .code yX6_clear cX6_clear 2 (some .int) :: ([.fieldLink RX6 67 "VerseYearsModel" "thrown" "I", .fieldLink RX6 117 "VerseYearsModel" "typed" "I"] ++ wsX60)
def wsX6_sumOf : List Cond := .code yX6_sumOf cX6_sumOf 5 (some .int) :: ([.fieldLink RX6 117 "VerseYearsModel" "typed" "I", .fieldLink RX6 13 "VerseYearsModel" "draft" "[I", .methodLink RX6 111 yX6_worthOf, .instanceMethod yX6_worthOf, .selects RX6 yX6_worthOf yX6_worthOf, .initialized RX6, .code yX6_worthOf cX6_worthOf 5 (some .int), .fieldLink RX6 7 "VerseYearsModel" "value" "[I", .methodLink RX6 92 yX6_isLetter, .static yX6_isLetter, .code yX6_isLetter cX6_isLetter 1 (some .boolean), .constantLong RX6 77 (97), .constantLong RX6 79 (122), .methodLink RX6 73 yX6_in, .static yX6_in, .code yX6_in cX6_in 6 (some .boolean), .methodLink RX6 89 yX6_isCapital, .static yX6_isCapital, .code yX6_isCapital cX6_isCapital 1 (some .boolean), .constantLong RX6 85 (65), .constantLong RX6 87 (90)] ++ wsX60)
def wsX6_sum_r1 : List Cond := [Cond.fieldLink RX6 67 "VerseYearsModel" "thrown" "I", Cond.methodLink RX6 97 yX6_isWay, Cond.static yX6_isWay, Cond.initialized RX6, Cond.code yX6_isWay cX6_isWay 2 (some .boolean), Cond.constantLong RX6 95 (2), Cond.constantLong RX6 71 (3), Cond.methodLink RX6 73 yX6_in, Cond.static yX6_in, Cond.code yX6_in cX6_in 6 (some .boolean), Cond.methodLink RX6 120 yX6_sumOf, Cond.instanceMethod yX6_sumOf, Cond.selects RX6 yX6_sumOf yX6_sumOf, Cond.code yX6_sumOf cX6_sumOf 5 (some .int), Cond.fieldLink RX6 117 "VerseYearsModel" "typed" "I", Cond.fieldLink RX6 13 "VerseYearsModel" "draft" "[I", Cond.methodLink RX6 111 yX6_worthOf, Cond.instanceMethod yX6_worthOf, Cond.selects RX6 yX6_worthOf yX6_worthOf, Cond.code yX6_worthOf cX6_worthOf 5 (some .int), Cond.fieldLink RX6 7 "VerseYearsModel" "value" "[I", Cond.methodLink RX6 92 yX6_isLetter, Cond.static yX6_isLetter, Cond.code yX6_isLetter cX6_isLetter 1 (some .boolean)]
def wsX6_sum_r2 : List Cond := [Cond.constantLong RX6 77 (97), Cond.constantLong RX6 79 (122), Cond.methodLink RX6 89 yX6_isCapital, Cond.static yX6_isCapital, Cond.code yX6_isCapital cX6_isCapital 1 (some .boolean), Cond.constantLong RX6 85 (65), Cond.constantLong RX6 87 (90)]
def wsX6_sum : List Cond := .code yX6_sum cX6_sum 3 (some .int) :: ((wsX6_sum_r1 ++ wsX6_sum_r2) ++ wsX60)
def wsX6_vocable_r1 : List Cond := [Cond.fieldLink RX6 67 "VerseYearsModel" "thrown" "I", Cond.constantLong RX6 71 (3), Cond.constantLong RX6 95 (2), Cond.fieldLink RX6 117 "VerseYearsModel" "typed" "I", Cond.constantLong RX6 115 (8), Cond.fieldLink RX6 13 "VerseYearsModel" "draft" "[I", Cond.fieldLink RX6 124 "VerseYearsModel" "vocables" "I", Cond.fieldLink RX6 16 "VerseYearsModel" "letter" "[I", Cond.fieldLink RX6 19 "VerseYearsModel" "long1" "[I", Cond.fieldLink RX6 22 "VerseYearsModel" "feet" "[I", Cond.fieldLink RX6 25 "VerseYearsModel" "sort" "[I", Cond.methodLink RX6 73 yX6_in, Cond.static yX6_in, Cond.initialized RX6, Cond.code yX6_in cX6_in 6 (some .boolean), Cond.methodLink RX6 92 yX6_isLetter, Cond.static yX6_isLetter, Cond.code yX6_isLetter cX6_isLetter 1 (some .boolean), Cond.constantLong RX6 77 (97), Cond.constantLong RX6 79 (122), Cond.methodLink RX6 89 yX6_isCapital, Cond.static yX6_isCapital, Cond.code yX6_isCapital cX6_isCapital 1 (some .boolean), Cond.constantLong RX6 85 (65)]
def wsX6_vocable_r2 : List Cond := [Cond.constantLong RX6 87 (90)]
def wsX6_vocable : List Cond := .code yX6_vocable cX6_vocable 5 (some .int) :: ((wsX6_vocable_r1 ++ wsX6_vocable_r2) ++ wsX60)
def wsX6_about : List Cond := .code yX6_about cX6_about 3 (some .int) :: ([.fieldLink RX6 67 "VerseYearsModel" "thrown" "I", .fieldLink RX6 124 "VerseYearsModel" "vocables" "I", .constantLong RX6 71 (3), .fieldLink RX6 19 "VerseYearsModel" "long1" "[I", .fieldLink RX6 22 "VerseYearsModel" "feet" "[I", .fieldLink RX6 25 "VerseYearsModel" "sort" "[I", .fieldLink RX6 16 "VerseYearsModel" "letter" "[I", .methodLink RX6 73 yX6_in, .static yX6_in, .initialized RX6, .code yX6_in cX6_in 6 (some .boolean)] ++ wsX60)
def wsX6_order : List Cond := .code yX6_order cX6_order 4 (some .int) :: ([.fieldLink RX6 67 "VerseYearsModel" "thrown" "I", .constantLong RX6 71 (3), .constantLong RX6 127 (7), .fieldLink RX6 28 "VerseYearsModel" "order" "[I", .methodLink RX6 73 yX6_in, .static yX6_in, .initialized RX6, .code yX6_in cX6_in 6 (some .boolean)] ++ wsX60)
def wsX6_isAfter : List Cond := .code yX6_isAfter cX6_isAfter 3 (some .boolean) :: ([.fieldLink RX6 28 "VerseYearsModel" "order" "[I", .fieldLink RX6 25 "VerseYearsModel" "sort" "[I"] ++ wsX60)
def wsX6_many : List Cond := .code yX6_many cX6_many 7 (some .long) :: ([.fieldLink RX6 67 "VerseYearsModel" "thrown" "I", .constantLong RX6 115 (8), .constantLong RX6 129 (-1), .fieldLink RX6 124 "VerseYearsModel" "vocables" "I", .fieldLink RX6 22 "VerseYearsModel" "feet" "[I", .fieldLink RX6 36 "VerseYearsModel" "open" "[J", .fieldLink RX6 25 "VerseYearsModel" "sort" "[I", .methodLink RX6 73 yX6_in, .static yX6_in, .initialized RX6, .code yX6_in cX6_in 6 (some .boolean), .methodLink RX6 131 yX6_isAfter, .instanceMethod yX6_isAfter, .selects RX6 yX6_isAfter yX6_isAfter, .code yX6_isAfter cX6_isAfter 3 (some .boolean), .fieldLink RX6 28 "VerseYearsModel" "order" "[I"] ++ wsX60)
def wsX6_owns : List Cond := .code yX6_owns cX6_owns 6 none :: ([.fieldLink RX6 124 "VerseYearsModel" "vocables" "I", .fieldLink RX6 19 "VerseYearsModel" "long1" "[I", .fieldLink RX6 16 "VerseYearsModel" "letter" "[I", .methodLink RX6 111 yX6_worthOf, .instanceMethod yX6_worthOf, .selects RX6 yX6_worthOf yX6_worthOf, .initialized RX6, .code yX6_worthOf cX6_worthOf 5 (some .int), .fieldLink RX6 7 "VerseYearsModel" "value" "[I", .methodLink RX6 92 yX6_isLetter, .static yX6_isLetter, .code yX6_isLetter cX6_isLetter 1 (some .boolean), .constantLong RX6 77 (97), .constantLong RX6 79 (122), .methodLink RX6 73 yX6_in, .static yX6_in, .code yX6_in cX6_in 6 (some .boolean), .methodLink RX6 89 yX6_isCapital, .static yX6_isCapital, .code yX6_isCapital cX6_isCapital 1 (some .boolean), .constantLong RX6 85 (65), .constantLong RX6 87 (90)] ++ wsX60)
def wsX6_place : List Cond := .code yX6_place cX6_place 3 (some .int) :: ([])
def wsX6_works_r1 : List Cond := [Cond.fieldLink RX6 39 "VerseYearsModel" "own" "[I", Cond.fieldLink RX6 124 "VerseYearsModel" "vocables" "I", Cond.fieldLink RX6 22 "VerseYearsModel" "feet" "[I", Cond.fieldLink RX6 32 "VerseYearsModel" "left" "[J", Cond.fieldLink RX6 25 "VerseYearsModel" "sort" "[I", Cond.methodLink RX6 134 yX6_owns, Cond.instanceMethod yX6_owns, Cond.selects RX6 yX6_owns yX6_owns, Cond.initialized RX6, Cond.code yX6_owns cX6_owns 6 none, Cond.fieldLink RX6 19 "VerseYearsModel" "long1" "[I", Cond.fieldLink RX6 16 "VerseYearsModel" "letter" "[I", Cond.methodLink RX6 111 yX6_worthOf, Cond.instanceMethod yX6_worthOf, Cond.selects RX6 yX6_worthOf yX6_worthOf, Cond.code yX6_worthOf cX6_worthOf 5 (some .int), Cond.fieldLink RX6 7 "VerseYearsModel" "value" "[I", Cond.methodLink RX6 92 yX6_isLetter, Cond.static yX6_isLetter, Cond.code yX6_isLetter cX6_isLetter 1 (some .boolean), Cond.constantLong RX6 77 (97), Cond.constantLong RX6 79 (122), Cond.methodLink RX6 73 yX6_in, Cond.static yX6_in]
def wsX6_works_r2 : List Cond := [Cond.code yX6_in cX6_in 6 (some .boolean), Cond.methodLink RX6 89 yX6_isCapital, Cond.static yX6_isCapital, Cond.code yX6_isCapital cX6_isCapital 1 (some .boolean), Cond.constantLong RX6 85 (65), Cond.constantLong RX6 87 (90), Cond.methodLink RX6 131 yX6_isAfter, Cond.instanceMethod yX6_isAfter, Cond.selects RX6 yX6_isAfter yX6_isAfter, Cond.code yX6_isAfter cX6_isAfter 3 (some .boolean), Cond.fieldLink RX6 28 "VerseYearsModel" "order" "[I", Cond.methodLink RX6 138 yX6_place, Cond.static yX6_place, Cond.code yX6_place cX6_place 3 (some .int)]
def wsX6_works : List Cond := .code yX6_works cX6_works 11 none :: ((wsX6_works_r1 ++ wsX6_works_r2) ++ wsX60)
def wsX6_isAsked : List Cond := .code yX6_isAsked cX6_isAsked 4 (some .boolean) :: ([.constantLong RX6 115 (8), .constantLong RX6 142 (3000), .methodLink RX6 73 yX6_in, .static yX6_in, .initialized RX6, .code yX6_in cX6_in 6 (some .boolean), .methodLink RX6 97 yX6_isWay, .static yX6_isWay, .code yX6_isWay cX6_isWay 2 (some .boolean), .constantLong RX6 95 (2), .constantLong RX6 71 (3)])
def wsX6_lines_r1 : List Cond := [Cond.fieldLink RX6 67 "VerseYearsModel" "thrown" "I", Cond.constantLong RX6 129 (-1), Cond.fieldLink RX6 32 "VerseYearsModel" "left" "[J", Cond.methodLink RX6 144 yX6_isAsked, Cond.static yX6_isAsked, Cond.initialized RX6, Cond.code yX6_isAsked cX6_isAsked 4 (some .boolean), Cond.constantLong RX6 115 (8), Cond.constantLong RX6 142 (3000), Cond.methodLink RX6 73 yX6_in, Cond.static yX6_in, Cond.code yX6_in cX6_in 6 (some .boolean), Cond.methodLink RX6 97 yX6_isWay, Cond.static yX6_isWay, Cond.code yX6_isWay cX6_isWay 2 (some .boolean), Cond.constantLong RX6 95 (2), Cond.constantLong RX6 71 (3), Cond.methodLink RX6 148 yX6_works, Cond.instanceMethod yX6_works, Cond.selects RX6 yX6_works yX6_works, Cond.code yX6_works cX6_works 11 none, Cond.fieldLink RX6 39 "VerseYearsModel" "own" "[I", Cond.fieldLink RX6 124 "VerseYearsModel" "vocables" "I", Cond.fieldLink RX6 22 "VerseYearsModel" "feet" "[I"]
def wsX6_lines_r2 : List Cond := [Cond.fieldLink RX6 25 "VerseYearsModel" "sort" "[I", Cond.methodLink RX6 134 yX6_owns, Cond.instanceMethod yX6_owns, Cond.selects RX6 yX6_owns yX6_owns, Cond.code yX6_owns cX6_owns 6 none, Cond.fieldLink RX6 19 "VerseYearsModel" "long1" "[I", Cond.fieldLink RX6 16 "VerseYearsModel" "letter" "[I", Cond.methodLink RX6 111 yX6_worthOf, Cond.instanceMethod yX6_worthOf, Cond.selects RX6 yX6_worthOf yX6_worthOf, Cond.code yX6_worthOf cX6_worthOf 5 (some .int), Cond.fieldLink RX6 7 "VerseYearsModel" "value" "[I", Cond.methodLink RX6 92 yX6_isLetter, Cond.static yX6_isLetter, Cond.code yX6_isLetter cX6_isLetter 1 (some .boolean), Cond.constantLong RX6 77 (97), Cond.constantLong RX6 79 (122), Cond.methodLink RX6 89 yX6_isCapital, Cond.static yX6_isCapital, Cond.code yX6_isCapital cX6_isCapital 1 (some .boolean), Cond.constantLong RX6 85 (65), Cond.constantLong RX6 87 (90), Cond.methodLink RX6 131 yX6_isAfter, Cond.instanceMethod yX6_isAfter]
def wsX6_lines_r3 : List Cond := [Cond.selects RX6 yX6_isAfter yX6_isAfter, Cond.code yX6_isAfter cX6_isAfter 3 (some .boolean), Cond.fieldLink RX6 28 "VerseYearsModel" "order" "[I", Cond.methodLink RX6 138 yX6_place, Cond.static yX6_place, Cond.code yX6_place cX6_place 3 (some .int)]
def wsX6_lines : List Cond := .code yX6_lines cX6_lines 5 (some .long) :: ((wsX6_lines_r1 ++ (wsX6_lines_r2 ++ wsX6_lines_r3)) ++ wsX60)
def wsX6_line_r1 : List Cond := [Cond.fieldLink RX6 67 "VerseYearsModel" "thrown" "I", Cond.fieldLink RX6 32 "VerseYearsModel" "left" "[J", Cond.fieldLink RX6 22 "VerseYearsModel" "feet" "[I", Cond.fieldLink RX6 39 "VerseYearsModel" "own" "[I", Cond.fieldLink RX6 25 "VerseYearsModel" "sort" "[I", Cond.methodLink RX6 144 yX6_isAsked, Cond.static yX6_isAsked, Cond.initialized RX6, Cond.code yX6_isAsked cX6_isAsked 4 (some .boolean), Cond.constantLong RX6 115 (8), Cond.constantLong RX6 142 (3000), Cond.methodLink RX6 73 yX6_in, Cond.static yX6_in, Cond.code yX6_in cX6_in 6 (some .boolean), Cond.methodLink RX6 97 yX6_isWay, Cond.static yX6_isWay, Cond.code yX6_isWay cX6_isWay 2 (some .boolean), Cond.constantLong RX6 95 (2), Cond.constantLong RX6 71 (3), Cond.methodLink RX6 148 yX6_works, Cond.instanceMethod yX6_works, Cond.selects RX6 yX6_works yX6_works, Cond.code yX6_works cX6_works 11 none, Cond.fieldLink RX6 124 "VerseYearsModel" "vocables" "I"]
def wsX6_line_r2 : List Cond := [Cond.methodLink RX6 134 yX6_owns, Cond.instanceMethod yX6_owns, Cond.selects RX6 yX6_owns yX6_owns, Cond.code yX6_owns cX6_owns 6 none, Cond.fieldLink RX6 19 "VerseYearsModel" "long1" "[I", Cond.fieldLink RX6 16 "VerseYearsModel" "letter" "[I", Cond.methodLink RX6 111 yX6_worthOf, Cond.instanceMethod yX6_worthOf, Cond.selects RX6 yX6_worthOf yX6_worthOf, Cond.code yX6_worthOf cX6_worthOf 5 (some .int), Cond.fieldLink RX6 7 "VerseYearsModel" "value" "[I", Cond.methodLink RX6 92 yX6_isLetter, Cond.static yX6_isLetter, Cond.code yX6_isLetter cX6_isLetter 1 (some .boolean), Cond.constantLong RX6 77 (97), Cond.constantLong RX6 79 (122), Cond.methodLink RX6 89 yX6_isCapital, Cond.static yX6_isCapital, Cond.code yX6_isCapital cX6_isCapital 1 (some .boolean), Cond.constantLong RX6 85 (65), Cond.constantLong RX6 87 (90), Cond.methodLink RX6 131 yX6_isAfter, Cond.instanceMethod yX6_isAfter, Cond.selects RX6 yX6_isAfter yX6_isAfter]
def wsX6_line_r3 : List Cond := [Cond.code yX6_isAfter cX6_isAfter 3 (some .boolean), Cond.fieldLink RX6 28 "VerseYearsModel" "order" "[I", Cond.methodLink RX6 138 yX6_place, Cond.static yX6_place, Cond.code yX6_place cX6_place 3 (some .int)]
def wsX6_line : List Cond := .code yX6_line cX6_line 18 (some .int) :: ((wsX6_line_r1 ++ (wsX6_line_r2 ++ wsX6_line_r3)) ++ wsX60)
def wsX6_doubles_r1 : List Cond := [Cond.fieldLink RX6 67 "VerseYearsModel" "thrown" "I", Cond.constantLong RX6 152 (5), Cond.constantLong RX6 142 (3000), Cond.constantLong RX6 71 (3), Cond.constantLong RX6 129 (-1), Cond.fieldLink RX6 39 "VerseYearsModel" "own" "[I", Cond.fieldLink RX6 42 "VerseYearsModel" "other" "[I", Cond.fieldLink RX6 45 "VerseYearsModel" "pick" "[I", Cond.fieldLink RX6 124 "VerseYearsModel" "vocables" "I", Cond.fieldLink RX6 22 "VerseYearsModel" "feet" "[I", Cond.fieldLink RX6 25 "VerseYearsModel" "sort" "[I", Cond.methodLink RX6 73 yX6_in, Cond.static yX6_in, Cond.initialized RX6, Cond.code yX6_in cX6_in 6 (some .boolean), Cond.methodLink RX6 97 yX6_isWay, Cond.static yX6_isWay, Cond.code yX6_isWay cX6_isWay 2 (some .boolean), Cond.constantLong RX6 95 (2), Cond.methodLink RX6 134 yX6_owns, Cond.instanceMethod yX6_owns, Cond.selects RX6 yX6_owns yX6_owns, Cond.code yX6_owns cX6_owns 6 none, Cond.fieldLink RX6 19 "VerseYearsModel" "long1" "[I"]
def wsX6_doubles_r2 : List Cond := [Cond.fieldLink RX6 16 "VerseYearsModel" "letter" "[I", Cond.methodLink RX6 111 yX6_worthOf, Cond.instanceMethod yX6_worthOf, Cond.selects RX6 yX6_worthOf yX6_worthOf, Cond.code yX6_worthOf cX6_worthOf 5 (some .int), Cond.fieldLink RX6 7 "VerseYearsModel" "value" "[I", Cond.methodLink RX6 92 yX6_isLetter, Cond.static yX6_isLetter, Cond.code yX6_isLetter cX6_isLetter 1 (some .boolean), Cond.constantLong RX6 77 (97), Cond.constantLong RX6 79 (122), Cond.methodLink RX6 89 yX6_isCapital, Cond.static yX6_isCapital, Cond.code yX6_isCapital cX6_isCapital 1 (some .boolean), Cond.constantLong RX6 85 (65), Cond.constantLong RX6 87 (90), Cond.methodLink RX6 131 yX6_isAfter, Cond.instanceMethod yX6_isAfter, Cond.selects RX6 yX6_isAfter yX6_isAfter, Cond.code yX6_isAfter cX6_isAfter 3 (some .boolean), Cond.fieldLink RX6 28 "VerseYearsModel" "order" "[I"]
def wsX6_doubles : List Cond := .code yX6_doubles cX6_doubles 16 (some .long) :: ((wsX6_doubles_r1 ++ wsX6_doubles_r2) ++ wsX60)
def wsX6_parts : List Cond := .code yX6_parts cX6_parts 2 none :: ([.fieldLink RX6 154 "VerseYearsModel" "parts" "I", .fieldLink RX6 117 "VerseYearsModel" "typed" "I", .fieldLink RX6 13 "VerseYearsModel" "draft" "[I", .fieldLink RX6 48 "VerseYearsModel" "from" "[I", .fieldLink RX6 51 "VerseYearsModel" "size" "[I"] ++ wsX60)
def wsX6_isFit : List Cond := .code yX6_isFit cX6_isFit 6 (some .boolean) :: ([.fieldLink RX6 19 "VerseYearsModel" "long1" "[I", .fieldLink RX6 51 "VerseYearsModel" "size" "[I", .fieldLink RX6 13 "VerseYearsModel" "draft" "[I", .fieldLink RX6 48 "VerseYearsModel" "from" "[I", .fieldLink RX6 16 "VerseYearsModel" "letter" "[I"] ++ wsX60)
def wsX6_fit : List Cond := .code yX6_fit cX6_fit 4 (some .int) :: ([.fieldLink RX6 67 "VerseYearsModel" "thrown" "I", .fieldLink RX6 154 "VerseYearsModel" "parts" "I", .fieldLink RX6 124 "VerseYearsModel" "vocables" "I", .methodLink RX6 157 yX6_parts, .instanceMethod yX6_parts, .selects RX6 yX6_parts yX6_parts, .initialized RX6, .code yX6_parts cX6_parts 2 none, .fieldLink RX6 117 "VerseYearsModel" "typed" "I", .fieldLink RX6 13 "VerseYearsModel" "draft" "[I", .fieldLink RX6 48 "VerseYearsModel" "from" "[I", .fieldLink RX6 51 "VerseYearsModel" "size" "[I", .methodLink RX6 73 yX6_in, .static yX6_in, .code yX6_in cX6_in 6 (some .boolean), .methodLink RX6 159 yX6_isFit, .instanceMethod yX6_isFit, .selects RX6 yX6_isFit yX6_isFit, .code yX6_isFit cX6_isFit 6 (some .boolean), .fieldLink RX6 19 "VerseYearsModel" "long1" "[I", .fieldLink RX6 16 "VerseYearsModel" "letter" "[I"] ++ wsX60)
def wsX6_readings_r1 : List Cond := [Cond.fieldLink RX6 67 "VerseYearsModel" "thrown" "I", Cond.fieldLink RX6 154 "VerseYearsModel" "parts" "I", Cond.fieldLink RX6 61 "VerseYearsModel" "ways" "[J", Cond.fieldLink RX6 64 "VerseYearsModel" "nextWays" "[J", Cond.fieldLink RX6 124 "VerseYearsModel" "vocables" "I", Cond.fieldLink RX6 25 "VerseYearsModel" "sort" "[I", Cond.constantLong RX6 162 (2000000000), Cond.constant RX6 164 (2000000000), Cond.methodLink RX6 157 yX6_parts, Cond.instanceMethod yX6_parts, Cond.selects RX6 yX6_parts yX6_parts, Cond.initialized RX6, Cond.code yX6_parts cX6_parts 2 none, Cond.fieldLink RX6 117 "VerseYearsModel" "typed" "I", Cond.fieldLink RX6 13 "VerseYearsModel" "draft" "[I", Cond.fieldLink RX6 48 "VerseYearsModel" "from" "[I", Cond.fieldLink RX6 51 "VerseYearsModel" "size" "[I", Cond.methodLink RX6 159 yX6_isFit, Cond.instanceMethod yX6_isFit, Cond.selects RX6 yX6_isFit yX6_isFit, Cond.code yX6_isFit cX6_isFit 6 (some .boolean), Cond.fieldLink RX6 19 "VerseYearsModel" "long1" "[I", Cond.fieldLink RX6 16 "VerseYearsModel" "letter" "[I", Cond.methodLink RX6 131 yX6_isAfter]
def wsX6_readings_r2 : List Cond := [Cond.instanceMethod yX6_isAfter, Cond.selects RX6 yX6_isAfter yX6_isAfter, Cond.code yX6_isAfter cX6_isAfter 3 (some .boolean), Cond.fieldLink RX6 28 "VerseYearsModel" "order" "[I"]
def wsX6_readings : List Cond := .code yX6_readings cX6_readings 4 (some .int) :: ((wsX6_readings_r1 ++ wsX6_readings_r2) ++ wsX60)
def wsX6_yearsOf_r1 : List Cond := [Cond.fieldLink RX6 39 "VerseYearsModel" "own" "[I", Cond.fieldLink RX6 154 "VerseYearsModel" "parts" "I", Cond.fieldLink RX6 58 "VerseYearsModel" "isNext" "[Z", Cond.fieldLink RX6 124 "VerseYearsModel" "vocables" "I", Cond.fieldLink RX6 25 "VerseYearsModel" "sort" "[I", Cond.fieldLink RX6 54 "VerseYearsModel" "isYear" "[Z", Cond.methodLink RX6 134 yX6_owns, Cond.instanceMethod yX6_owns, Cond.selects RX6 yX6_owns yX6_owns, Cond.initialized RX6, Cond.code yX6_owns cX6_owns 6 none, Cond.fieldLink RX6 19 "VerseYearsModel" "long1" "[I", Cond.fieldLink RX6 16 "VerseYearsModel" "letter" "[I", Cond.methodLink RX6 111 yX6_worthOf, Cond.instanceMethod yX6_worthOf, Cond.selects RX6 yX6_worthOf yX6_worthOf, Cond.code yX6_worthOf cX6_worthOf 5 (some .int), Cond.fieldLink RX6 7 "VerseYearsModel" "value" "[I", Cond.methodLink RX6 92 yX6_isLetter, Cond.static yX6_isLetter, Cond.code yX6_isLetter cX6_isLetter 1 (some .boolean), Cond.constantLong RX6 77 (97), Cond.constantLong RX6 79 (122), Cond.methodLink RX6 73 yX6_in]
def wsX6_yearsOf_r2 : List Cond := [Cond.static yX6_in, Cond.code yX6_in cX6_in 6 (some .boolean), Cond.methodLink RX6 89 yX6_isCapital, Cond.static yX6_isCapital, Cond.code yX6_isCapital cX6_isCapital 1 (some .boolean), Cond.constantLong RX6 85 (65), Cond.constantLong RX6 87 (90), Cond.methodLink RX6 159 yX6_isFit, Cond.instanceMethod yX6_isFit, Cond.selects RX6 yX6_isFit yX6_isFit, Cond.code yX6_isFit cX6_isFit 6 (some .boolean), Cond.fieldLink RX6 51 "VerseYearsModel" "size" "[I", Cond.fieldLink RX6 13 "VerseYearsModel" "draft" "[I", Cond.fieldLink RX6 48 "VerseYearsModel" "from" "[I", Cond.methodLink RX6 131 yX6_isAfter, Cond.instanceMethod yX6_isAfter, Cond.selects RX6 yX6_isAfter yX6_isAfter, Cond.code yX6_isAfter cX6_isAfter 3 (some .boolean), Cond.fieldLink RX6 28 "VerseYearsModel" "order" "[I"]
def wsX6_yearsOf : List Cond := .code yX6_yearsOf cX6_yearsOf 8 none :: ((wsX6_yearsOf_r1 ++ wsX6_yearsOf_r2) ++ wsX60)
def wsX6_years_r1 : List Cond := [Cond.fieldLink RX6 67 "VerseYearsModel" "thrown" "I", Cond.constantLong RX6 71 (3), Cond.fieldLink RX6 154 "VerseYearsModel" "parts" "I", Cond.fieldLink RX6 54 "VerseYearsModel" "isYear" "[Z", Cond.methodLink RX6 97 yX6_isWay, Cond.static yX6_isWay, Cond.initialized RX6, Cond.code yX6_isWay cX6_isWay 2 (some .boolean), Cond.constantLong RX6 95 (2), Cond.methodLink RX6 73 yX6_in, Cond.static yX6_in, Cond.code yX6_in cX6_in 6 (some .boolean), Cond.methodLink RX6 157 yX6_parts, Cond.instanceMethod yX6_parts, Cond.selects RX6 yX6_parts yX6_parts, Cond.code yX6_parts cX6_parts 2 none, Cond.fieldLink RX6 117 "VerseYearsModel" "typed" "I", Cond.fieldLink RX6 13 "VerseYearsModel" "draft" "[I", Cond.fieldLink RX6 48 "VerseYearsModel" "from" "[I", Cond.fieldLink RX6 51 "VerseYearsModel" "size" "[I", Cond.methodLink RX6 165 yX6_yearsOf, Cond.instanceMethod yX6_yearsOf, Cond.selects RX6 yX6_yearsOf yX6_yearsOf, Cond.code yX6_yearsOf cX6_yearsOf 8 none]
def wsX6_years_r2 : List Cond := [Cond.fieldLink RX6 39 "VerseYearsModel" "own" "[I", Cond.fieldLink RX6 58 "VerseYearsModel" "isNext" "[Z", Cond.fieldLink RX6 124 "VerseYearsModel" "vocables" "I", Cond.fieldLink RX6 25 "VerseYearsModel" "sort" "[I", Cond.methodLink RX6 134 yX6_owns, Cond.instanceMethod yX6_owns, Cond.selects RX6 yX6_owns yX6_owns, Cond.code yX6_owns cX6_owns 6 none, Cond.fieldLink RX6 19 "VerseYearsModel" "long1" "[I", Cond.fieldLink RX6 16 "VerseYearsModel" "letter" "[I", Cond.methodLink RX6 111 yX6_worthOf, Cond.instanceMethod yX6_worthOf, Cond.selects RX6 yX6_worthOf yX6_worthOf, Cond.code yX6_worthOf cX6_worthOf 5 (some .int), Cond.fieldLink RX6 7 "VerseYearsModel" "value" "[I", Cond.methodLink RX6 92 yX6_isLetter, Cond.static yX6_isLetter, Cond.code yX6_isLetter cX6_isLetter 1 (some .boolean), Cond.constantLong RX6 77 (97), Cond.constantLong RX6 79 (122), Cond.methodLink RX6 89 yX6_isCapital, Cond.static yX6_isCapital, Cond.code yX6_isCapital cX6_isCapital 1 (some .boolean), Cond.constantLong RX6 85 (65)]
def wsX6_years_r3 : List Cond := [Cond.constantLong RX6 87 (90), Cond.methodLink RX6 159 yX6_isFit, Cond.instanceMethod yX6_isFit, Cond.selects RX6 yX6_isFit yX6_isFit, Cond.code yX6_isFit cX6_isFit 6 (some .boolean), Cond.methodLink RX6 131 yX6_isAfter, Cond.instanceMethod yX6_isAfter, Cond.selects RX6 yX6_isAfter yX6_isAfter, Cond.code yX6_isAfter cX6_isAfter 3 (some .boolean), Cond.fieldLink RX6 28 "VerseYearsModel" "order" "[I"]
def wsX6_years : List Cond := .code yX6_years cX6_years 8 (some .int) :: ((wsX6_years_r1 ++ (wsX6_years_r2 ++ wsX6_years_r3)) ++ wsX60)
def wsX6_borne_r1 : List Cond := [Cond.fieldLink RX6 67 "VerseYearsModel" "thrown" "I", Cond.constantLong RX6 169 (60000), Cond.methodLink RX6 73 yX6_in, Cond.static yX6_in, Cond.initialized RX6, Cond.code yX6_in cX6_in 6 (some .boolean), Cond.methodLink RX6 120 yX6_sumOf, Cond.instanceMethod yX6_sumOf, Cond.selects RX6 yX6_sumOf yX6_sumOf, Cond.code yX6_sumOf cX6_sumOf 5 (some .int), Cond.fieldLink RX6 117 "VerseYearsModel" "typed" "I", Cond.fieldLink RX6 13 "VerseYearsModel" "draft" "[I", Cond.methodLink RX6 111 yX6_worthOf, Cond.instanceMethod yX6_worthOf, Cond.selects RX6 yX6_worthOf yX6_worthOf, Cond.code yX6_worthOf cX6_worthOf 5 (some .int), Cond.fieldLink RX6 7 "VerseYearsModel" "value" "[I", Cond.methodLink RX6 92 yX6_isLetter, Cond.static yX6_isLetter, Cond.code yX6_isLetter cX6_isLetter 1 (some .boolean), Cond.constantLong RX6 77 (97), Cond.constantLong RX6 79 (122), Cond.methodLink RX6 89 yX6_isCapital, Cond.static yX6_isCapital]
def wsX6_borne_r2 : List Cond := [Cond.code yX6_isCapital cX6_isCapital 1 (some .boolean), Cond.constantLong RX6 85 (65), Cond.constantLong RX6 87 (90)]
def wsX6_borne : List Cond := .code yX6_borne cX6_borne 5 (some .int) :: ((wsX6_borne_r1 ++ wsX6_borne_r2) ++ wsX60)
def wsX6_count : List Cond := .code yX6_count cX6_count 4 (some .int) :: ([.fieldLink RX6 67 "VerseYearsModel" "thrown" "I", .fieldLink RX6 117 "VerseYearsModel" "typed" "I", .fieldLink RX6 13 "VerseYearsModel" "draft" "[I", .fieldLink RX6 124 "VerseYearsModel" "vocables" "I", .fieldLink RX6 154 "VerseYearsModel" "parts" "I", .methodLink RX6 157 yX6_parts, .instanceMethod yX6_parts, .selects RX6 yX6_parts yX6_parts, .initialized RX6, .code yX6_parts cX6_parts 2 none, .fieldLink RX6 48 "VerseYearsModel" "from" "[I", .fieldLink RX6 51 "VerseYearsModel" "size" "[I"] ++ wsX60)
def wsX6_trace : List Cond := .code yX6_trace cX6_trace 1 (some .long) :: ([.fieldLink RX6 67 "VerseYearsModel" "thrown" "I", .fieldLink RX6 103 "VerseYearsModel" "trace" "J"] ++ wsX60)
def wsJ9_min_f86c9 : List Cond := .code yJ9_min_f86c9 cJ9_min_f86c9 4 (some .long) :: ([])
def wsL_law_r1 : List Cond := [Cond.classLink RL 7 RX5, Cond.instantiable RX5 6, Cond.initialized RX5, Cond.classLink RL 10 RX6, Cond.instantiable RX6 23, Cond.initialized RX6, Cond.constantLong RL 23 (4294967295), Cond.methodLink RL 9 yX5_init, Cond.instanceMethod yX5_init, Cond.code yX5_init cX5_init 1 none, Cond.methodLink RX5 1 objectInit, Cond.instanceMethod objectInit, Cond.code objectInit ⟨#[0xb1]⟩ 1 none, Cond.classLink RX5 7 RX0, Cond.instantiable RX0 1, Cond.initialized RX0, Cond.fieldLink RX5 10 "VerseYears" "customs" "LVerseYears$Customs;", Cond.classLink RX5 16 RX1, Cond.instantiable RX1 5, Cond.initialized RX1, Cond.fieldLink RX5 19 "VerseYears" "draft" "LVerseYears$Draft;", Cond.classLink RX5 23 RX4, Cond.instantiable RX4 6, Cond.initialized RX4]
def wsL_law_r2 : List Cond := [Cond.fieldLink RX5 26 "VerseYears" "vocables" "LVerseYears$Vocables;", Cond.classLink RX5 30 RX3, Cond.instantiable RX3 10, Cond.initialized RX3, Cond.fieldLink RX5 35 "VerseYears" "verses" "LVerseYears$Verses;", Cond.classLink RX5 39 RX2, Cond.instantiable RX2 11, Cond.initialized RX2, Cond.fieldLink RX5 44 "VerseYears" "stone" "LVerseYears$Stone;", Cond.fieldLink RX5 48 "VerseYears" "asked" "J", Cond.methodLink RX5 9 yX0_init, Cond.instanceMethod yX0_init, Cond.code yX0_init cX0_init 2 none, Cond.methodLink RX0 3 objectInit, Cond.arrayClass .int, Cond.fieldLink RX0 9 "VerseYears$Customs" "values" "[I", Cond.methodLink RX0 18 arraycopyName, Cond.native arraycopyName, Cond.static arraycopyName, Cond.initialized "java/lang/System", Cond.instanceMethod yX1_init, Cond.code yX1_init cX1_init 1 none, Cond.methodLink RX1 3 objectInit, Cond.fieldLink RX1 9 "VerseYears$Draft" "bytes" "[I"]
def wsL_law_r3 : List Cond := [Cond.fieldLink RX1 15 "VerseYears$Draft" "starts" "[I", Cond.fieldLink RX1 18 "VerseYears$Draft" "ends" "[I", Cond.methodLink RX5 25 yX4_init, Cond.instanceMethod yX4_init, Cond.code yX4_init cX4_init 1 none, Cond.methodLink RX4 3 objectInit, Cond.fieldLink RX4 9 "VerseYears$Vocables" "texts" "[I", Cond.fieldLink RX4 15 "VerseYears$Vocables" "lengths" "[I", Cond.fieldLink RX4 18 "VerseYears$Vocables" "feet" "[I", Cond.fieldLink RX4 21 "VerseYears$Vocables" "sorts" "[I", Cond.fieldLink RX4 24 "VerseYears$Vocables" "next" "[I", Cond.methodLink RX4 27 yJ7_fill_53178, Cond.static yJ7_fill_53178, Cond.initialized RJ7, Cond.code yJ7_fill_53178 cJ7_fill_53178 4 none, Cond.methodLink RX5 32 yX3_init, Cond.instanceMethod yX3_init, Cond.code yX3_init cX3_init 3 none, Cond.methodLink RX3 3 objectInit, Cond.fieldLink RX3 9 "VerseYears$Verses" "sums" "[I", Cond.fieldLink RX3 15 "VerseYears$Verses" "oneSums" "[I", Cond.fieldLink RX3 18 "VerseYears$Verses" "otherSums" "[I", Cond.arrayClass .long, Cond.fieldLink RX3 21 "VerseYears$Verses" "byFeet" "[J"]
def wsL_law_r4 : List Cond := [Cond.fieldLink RX3 25 "VerseYears$Verses" "kept" "[J", Cond.fieldLink RX3 28 "VerseYears$Verses" "isRoundOver" "Z", Cond.fieldLink RX3 32 "VerseYears$Verses" "vocables" "LVerseYears$Vocables;", Cond.fieldLink RX3 36 "VerseYears$Verses" "customs" "LVerseYears$Customs;", Cond.methodLink RX5 41 yX2_init, Cond.instanceMethod yX2_init, Cond.code yX2_init cX2_init 4 none, Cond.methodLink RX2 5 objectInit, Cond.fieldLink RX2 11 "VerseYears$Stone" "sums" "[I", Cond.fieldLink RX2 15 "VerseYears$Stone" "ways" "[J", Cond.fieldLink RX2 19 "VerseYears$Stone" "nextWays" "[J", Cond.fieldLink RX2 22 "VerseYears$Stone" "reached" "[J", Cond.fieldLink RX2 25 "VerseYears$Stone" "nextReached" "[J", Cond.fieldLink RX2 28 "VerseYears$Stone" "draft" "LVerseYears$Draft;", Cond.fieldLink RX2 32 "VerseYears$Stone" "vocables" "LVerseYears$Vocables;", Cond.fieldLink RX2 36 "VerseYears$Stone" "customs" "LVerseYears$Customs;", Cond.methodLink RL 12 yX6_init, Cond.instanceMethod yX6_init, Cond.code yX6_init cX6_init 2 none, Cond.methodLink RX6 1 objectInit, Cond.fieldLink RX6 7 "VerseYearsModel" "value" "[I", Cond.fieldLink RX6 13 "VerseYearsModel" "draft" "[I", Cond.fieldLink RX6 16 "VerseYearsModel" "letter" "[I", Cond.fieldLink RX6 19 "VerseYearsModel" "long1" "[I"]
def wsL_law_r5 : List Cond := [Cond.fieldLink RX6 22 "VerseYearsModel" "feet" "[I", Cond.fieldLink RX6 25 "VerseYearsModel" "sort" "[I", Cond.fieldLink RX6 28 "VerseYearsModel" "order" "[I", Cond.constant RX6 31 (108036), Cond.fieldLink RX6 32 "VerseYearsModel" "left" "[J", Cond.fieldLink RX6 36 "VerseYearsModel" "open" "[J", Cond.fieldLink RX6 39 "VerseYearsModel" "own" "[I", Cond.fieldLink RX6 42 "VerseYearsModel" "other" "[I", Cond.fieldLink RX6 45 "VerseYearsModel" "pick" "[I", Cond.fieldLink RX6 48 "VerseYearsModel" "from" "[I", Cond.fieldLink RX6 51 "VerseYearsModel" "size" "[I", Cond.arrayClass .boolean, Cond.fieldLink RX6 54 "VerseYearsModel" "isYear" "[Z", Cond.fieldLink RX6 58 "VerseYearsModel" "isNext" "[Z", Cond.fieldLink RX6 61 "VerseYearsModel" "ways" "[J", Cond.fieldLink RX6 64 "VerseYearsModel" "nextWays" "[J", Cond.methodLink RL 13 yX5_value, Cond.instanceMethod yX5_value, Cond.selects RX5 yX5_value yX5_value, Cond.code yX5_value cX5_value 4 (some .int), Cond.methodLink RX5 52 yX5_isWithin, Cond.static yX5_isWithin, Cond.code yX5_isWithin cX5_isWithin 2 (some .boolean), Cond.methodLink RX5 56 yX5_isValue]
def wsL_law_r6 : List Cond := [Cond.static yX5_isValue, Cond.code yX5_isValue cX5_isValue 5 (some .boolean), Cond.fieldLink RX5 180 "VerseYears" "VALUES" "[I", Cond.methodLink RX5 60 yX3_forget, Cond.instanceMethod yX3_forget, Cond.selects RX3 yX3_forget yX3_forget, Cond.code yX3_forget cX3_forget 1 none, Cond.methodLink RX5 63 yX0_replace, Cond.instanceMethod yX0_replace, Cond.selects RX0 yX0_replace yX0_replace, Cond.code yX0_replace cX0_replace 6 (some .int), Cond.methodLink RL 17 yX6_value, Cond.instanceMethod yX6_value, Cond.selects RX6 yX6_value yX6_value, Cond.code yX6_value cX6_value 5 (some .int), Cond.fieldLink RX6 67 "VerseYearsModel" "thrown" "I", Cond.constantLong RX6 71 (3), Cond.constantLong RX6 77 (97), Cond.constantLong RX6 79 (122), Cond.methodLink RX6 73 yX6_in, Cond.static yX6_in, Cond.code yX6_in cX6_in 6 (some .boolean), Cond.methodLink RX6 81 yX6_isValue, Cond.static yX6_isValue]
def wsL_law_r7 : List Cond := [Cond.code yX6_isValue cX6_isValue 1 (some .boolean), Cond.methodLink RL 18 yX5_worth, Cond.instanceMethod yX5_worth, Cond.selects RX5 yX5_worth yX5_worth, Cond.code yX5_worth cX5_worth 5 (some .int), Cond.fieldLink RX5 70 "VerseYears" "ASKED_BY_COUNTING" "[I", Cond.methodLink RX5 67 yX5_isCustomary, Cond.static yX5_isCustomary, Cond.code yX5_isCustomary cX5_isCustomary 2 (some .boolean), Cond.methodLink RX5 74 yX0_worthOf, Cond.instanceMethod yX0_worthOf, Cond.selects RX0 yX0_worthOf yX0_worthOf, Cond.code yX0_worthOf cX0_worthOf 5 (some .int), Cond.static yX5_isLetter, Cond.code yX5_isLetter cX5_isLetter 1 (some .boolean), Cond.methodLink RX5 190 yX5_isCapital, Cond.static yX5_isCapital, Cond.code yX5_isCapital cX5_isCapital 1 (some .boolean), Cond.methodLink RL 22 yX6_worth, Cond.instanceMethod yX6_worth, Cond.selects RX6 yX6_worth yX6_worth, Cond.code yX6_worth cX6_worth 5 (some .int), Cond.constantLong RX6 101 (255), Cond.fieldLink RX6 103 "VerseYearsModel" "trace" "J"]
def wsL_law_r8 : List Cond := [Cond.constantLong RX6 107 (11), Cond.constantLong RX6 109 (111), Cond.methodLink RX6 97 yX6_isWay, Cond.static yX6_isWay, Cond.code yX6_isWay cX6_isWay 2 (some .boolean), Cond.constantLong RX6 95 (2), Cond.methodLink RX6 111 yX6_worthOf, Cond.instanceMethod yX6_worthOf, Cond.selects RX6 yX6_worthOf yX6_worthOf, Cond.code yX6_worthOf cX6_worthOf 5 (some .int), Cond.methodLink RX6 92 yX6_isLetter, Cond.static yX6_isLetter, Cond.code yX6_isLetter cX6_isLetter 1 (some .boolean), Cond.methodLink RX6 89 yX6_isCapital, Cond.static yX6_isCapital, Cond.code yX6_isCapital cX6_isCapital 1 (some .boolean), Cond.constantLong RX6 85 (65), Cond.constantLong RX6 87 (90), Cond.methodLink RL 25 yX5_type, Cond.instanceMethod yX5_type, Cond.selects RX5 yX5_type yX5_type, Cond.code yX5_type cX5_type 4 (some .int), Cond.fieldLink RX5 82 "VerseYears$Draft" "length" "I", Cond.methodLink RX5 78 yX5_mayAllStand]
def wsL_law_r9 : List Cond := [Cond.static yX5_mayAllStand, Cond.code yX5_mayAllStand cX5_mayAllStand 5 (some .boolean), Cond.methodLink RX5 183 yX5_byteOf, Cond.static yX5_byteOf, Cond.code yX5_byteOf cX5_byteOf 3 (some .int), Cond.methodLink RX5 187 yX5_isLetter, Cond.methodLink RX5 86 yX1_append, Cond.instanceMethod yX1_append, Cond.selects RX1 yX1_append yX1_append, Cond.code yX1_append cX1_append 5 none, Cond.fieldLink RX1 21 "VerseYears$Draft" "length" "I", Cond.methodLink RX1 29 yX1_findParts, Cond.instanceMethod yX1_findParts, Cond.selects RX1 yX1_findParts yX1_findParts, Cond.code yX1_findParts cX1_findParts 3 none, Cond.fieldLink RX1 32 "VerseYears$Draft" "parts" "I", Cond.methodLink RL 29 yX6_type, Cond.instanceMethod yX6_type, Cond.selects RX6 yX6_type yX6_type, Cond.code yX6_type cX6_type 6 (some .int), Cond.constantLong RX6 115 (8), Cond.fieldLink RX6 117 "VerseYearsModel" "typed" "I", Cond.methodLink RL 30 yX5_clear, Cond.instanceMethod yX5_clear]
def wsL_law_r10 : List Cond := [Cond.selects RX5 yX5_clear yX5_clear, Cond.code yX5_clear cX5_clear 2 (some .int), Cond.methodLink RX5 90 yX1_wipe, Cond.instanceMethod yX1_wipe, Cond.selects RX1 yX1_wipe yX1_wipe, Cond.code yX1_wipe cX1_wipe 1 none, Cond.methodLink RL 34 yX6_clear, Cond.instanceMethod yX6_clear, Cond.selects RX6 yX6_clear yX6_clear, Cond.code yX6_clear cX6_clear 2 (some .int), Cond.methodLink RL 35 yX5_sum, Cond.instanceMethod yX5_sum, Cond.selects RX5 yX5_sum yX5_sum, Cond.code yX5_sum cX5_sum 3 (some .int), Cond.methodLink RX5 93 yX5_sumOfDraft, Cond.instanceMethod yX5_sumOfDraft, Cond.selects RX5 yX5_sumOfDraft yX5_sumOfDraft, Cond.code yX5_sumOfDraft cX5_sumOfDraft 3 (some .int), Cond.fieldLink RX5 173 "VerseYears$Draft" "bytes" "[I", Cond.methodLink RX5 176 yX0_sumOf, Cond.instanceMethod yX0_sumOf, Cond.selects RX0 yX0_sumOf yX0_sumOf, Cond.code yX0_sumOf cX0_sumOf 9 (some .int), Cond.methodLink RX0 31 yX0_worthOf]
def wsL_law_r11 : List Cond := [Cond.methodLink RL 39 yX6_sum, Cond.instanceMethod yX6_sum, Cond.selects RX6 yX6_sum yX6_sum, Cond.code yX6_sum cX6_sum 3 (some .int), Cond.methodLink RX6 120 yX6_sumOf, Cond.instanceMethod yX6_sumOf, Cond.selects RX6 yX6_sumOf yX6_sumOf, Cond.code yX6_sumOf cX6_sumOf 5 (some .int), Cond.methodLink RL 40 yX5_vocable, Cond.instanceMethod yX5_vocable, Cond.selects RX5 yX5_vocable yX5_vocable, Cond.code yX5_vocable cX5_vocable 4 (some .int), Cond.fieldLink RX5 101 "VerseYears$Vocables" "size" "I", Cond.methodLink RX5 97 yX1_isWord, Cond.instanceMethod yX1_isWord, Cond.selects RX1 yX1_isWord yX1_isWord, Cond.code yX1_isWord cX1_isWord 2 (some .boolean), Cond.methodLink RX5 104 yX4_take, Cond.instanceMethod yX4_take, Cond.selects RX4 yX4_take yX4_take, Cond.code yX4_take cX4_take 4 none, Cond.fieldLink RX4 33 "VerseYears$Draft" "bytes" "[I", Cond.fieldLink RX4 38 "VerseYears$Vocables" "size" "I", Cond.fieldLink RX4 42 "VerseYears$Draft" "length" "I"]
def wsL_law_r12 : List Cond := [Cond.methodLink RX4 45 arraycopyName, Cond.methodLink RL 43 yX6_vocable, Cond.instanceMethod yX6_vocable, Cond.selects RX6 yX6_vocable yX6_vocable, Cond.code yX6_vocable cX6_vocable 5 (some .int), Cond.fieldLink RX6 124 "VerseYearsModel" "vocables" "I", Cond.methodLink RL 44 yX5_about, Cond.instanceMethod yX5_about, Cond.selects RX5 yX5_about yX5_about, Cond.code yX5_about cX5_about 3 (some .int), Cond.fieldLink RX5 108 "VerseYears$Vocables" "lengths" "[I", Cond.fieldLink RX5 111 "VerseYears$Vocables" "feet" "[I", Cond.fieldLink RX5 114 "VerseYears$Vocables" "sorts" "[I", Cond.fieldLink RX5 117 "VerseYears$Vocables" "texts" "[I", Cond.methodLink RL 47 yX6_about, Cond.instanceMethod yX6_about, Cond.selects RX6 yX6_about yX6_about, Cond.code yX6_about cX6_about 3 (some .int), Cond.methodLink RL 48 yX5_order, Cond.instanceMethod yX5_order, Cond.selects RX5 yX5_order yX5_order, Cond.code yX5_order cX5_order 4 (some .int), Cond.fieldLink RX5 120 "VerseYears$Vocables" "next" "[I", Cond.methodLink RL 51 yX6_order]
def wsL_law_r13 : List Cond := [Cond.instanceMethod yX6_order, Cond.selects RX6 yX6_order yX6_order, Cond.code yX6_order cX6_order 4 (some .int), Cond.constantLong RX6 127 (7), Cond.methodLink RL 52 yX5_many, Cond.instanceMethod yX5_many, Cond.selects RX5 yX5_many yX5_many, Cond.code yX5_many cX5_many 2 (some .long), Cond.constantLong RX5 123 (-1), Cond.methodLink RX5 125 yX3_ofFeet, Cond.instanceMethod yX3_ofFeet, Cond.selects RX3 yX3_ofFeet yX3_ofFeet, Cond.code yX3_ofFeet cX3_ofFeet 4 (some .long), Cond.methodLink RX3 40 yX3_stepOfFeet, Cond.instanceMethod yX3_stepOfFeet, Cond.selects RX3 yX3_stepOfFeet yX3_stepOfFeet, Cond.code yX3_stepOfFeet cX3_stepOfFeet 6 (some .long), Cond.fieldLink RX3 44 "VerseYears$Vocables" "size" "I", Cond.fieldLink RX3 50 "VerseYears$Vocables" "feet" "[I", Cond.fieldLink RX3 57 "VerseYears$Vocables" "sorts" "[I", Cond.methodLink RX3 53 yX4_mayCome, Cond.instanceMethod yX4_mayCome, Cond.selects RX4 yX4_mayCome yX4_mayCome, Cond.code yX4_mayCome cX4_mayCome 3 (some .boolean)]
def wsL_law_r14 : List Cond := [Cond.methodLink RL 56 yX6_many, Cond.instanceMethod yX6_many, Cond.selects RX6 yX6_many yX6_many, Cond.code yX6_many cX6_many 7 (some .long), Cond.constantLong RX6 129 (-1), Cond.methodLink RX6 131 yX6_isAfter, Cond.instanceMethod yX6_isAfter, Cond.selects RX6 yX6_isAfter yX6_isAfter, Cond.code yX6_isAfter cX6_isAfter 3 (some .boolean), Cond.methodLink RL 57 yX5_lines, Cond.instanceMethod yX5_lines, Cond.selects RX5 yX5_lines yX5_lines, Cond.code yX5_lines cX5_lines 5 (some .long), Cond.methodLink RX5 129 yX5_isLineAsked, Cond.static yX5_isLineAsked, Cond.code yX5_isLineAsked cX5_isLineAsked 4 (some .boolean), Cond.methodLink RX5 133 yX3_ofSum, Cond.instanceMethod yX3_ofSum, Cond.selects RX3 yX3_ofSum yX3_ofSum, Cond.code yX3_ofSum cX3_ofSum 5 (some .long), Cond.methodLink RX3 60 yX3_beginRound, Cond.instanceMethod yX3_beginRound, Cond.selects RX3 yX3_beginRound yX3_beginRound, Cond.code yX3_beginRound cX3_beginRound 3 none]
def wsL_law_r15 : List Cond := [Cond.fieldLink RX3 68 "VerseYears$Verses" "roundCounting" "I", Cond.fieldLink RX3 71 "VerseYears$Verses" "roundCustom" "I", Cond.methodLink RX3 74 yX4_putSums, Cond.instanceMethod yX4_putSums, Cond.selects RX4 yX4_putSums yX4_putSums, Cond.code yX4_putSums cX4_putSums 7 none, Cond.methodLink RX4 57 yX0_sumOf, Cond.methodLink RX3 78 yJ7_fill_d0a16, Cond.static yJ7_fill_d0a16, Cond.code yJ7_fill_d0a16 cJ7_fill_d0a16 5 none, Cond.methodLink RX3 64 yX3_waysOn, Cond.instanceMethod yX3_waysOn, Cond.selects RX3 yX3_waysOn yX3_waysOn, Cond.code yX3_waysOn cX3_waysOn 10 (some .long), Cond.constantLong RX3 91 (65535), Cond.methodLink RX3 84 yX3_placeKept, Cond.static yX3_placeKept, Cond.code yX3_placeKept cX3_placeKept 3 (some .int), Cond.methodLink RX3 88 yX3_countWaysOn, Cond.instanceMethod yX3_countWaysOn, Cond.selects RX3 yX3_countWaysOn yX3_countWaysOn, Cond.code yX3_countWaysOn cX3_countWaysOn 7 (some .long), Cond.methodLink RX3 93 yX3_waysWith, Cond.instanceMethod yX3_waysWith]
def wsL_law_r16 : List Cond := [Cond.selects RX3 yX3_waysWith yX3_waysWith, Cond.code yX3_waysWith cX3_waysWith 7 (some .long), Cond.methodLink RL 61 yX6_lines, Cond.instanceMethod yX6_lines, Cond.selects RX6 yX6_lines yX6_lines, Cond.code yX6_lines cX6_lines 5 (some .long), Cond.methodLink RX6 144 yX6_isAsked, Cond.static yX6_isAsked, Cond.code yX6_isAsked cX6_isAsked 4 (some .boolean), Cond.constantLong RX6 142 (3000), Cond.methodLink RX6 148 yX6_works, Cond.instanceMethod yX6_works, Cond.selects RX6 yX6_works yX6_works, Cond.code yX6_works cX6_works 11 none, Cond.methodLink RX6 134 yX6_owns, Cond.instanceMethod yX6_owns, Cond.selects RX6 yX6_owns yX6_owns, Cond.code yX6_owns cX6_owns 6 none, Cond.methodLink RX6 138 yX6_place, Cond.static yX6_place, Cond.code yX6_place cX6_place 3 (some .int), Cond.methodLink RL 62 yX5_line, Cond.instanceMethod yX5_line, Cond.selects RX5 yX5_line yX5_line]
def wsL_law_r17 : List Cond := [Cond.code yX5_line cX5_line 8 (some .int), Cond.methodLink RX5 137 yX3_vocableAt, Cond.instanceMethod yX3_vocableAt, Cond.selects RX3 yX3_vocableAt yX3_vocableAt, Cond.code yX3_vocableAt cX3_vocableAt 15 (some .int), Cond.methodLink RL 66 yX6_line, Cond.instanceMethod yX6_line, Cond.selects RX6 yX6_line yX6_line, Cond.code yX6_line cX6_line 18 (some .int), Cond.methodLink RL 67 yX5_doubles, Cond.instanceMethod yX5_doubles, Cond.selects RX5 yX5_doubles yX5_doubles, Cond.code yX5_doubles cX5_doubles 7 (some .long), Cond.methodLink RX5 141 yX3_ofTwoSums, Cond.instanceMethod yX3_ofTwoSums, Cond.selects RX3 yX3_ofTwoSums yX3_ofTwoSums, Cond.code yX3_ofTwoSums cX3_ofTwoSums 7 (some .long), Cond.methodLink RX3 97 yX3_doubleWaysOn, Cond.instanceMethod yX3_doubleWaysOn, Cond.selects RX3 yX3_doubleWaysOn yX3_doubleWaysOn, Cond.code yX3_doubleWaysOn cX3_doubleWaysOn 8 (some .long), Cond.methodLink RL 71 yX6_doubles, Cond.instanceMethod yX6_doubles, Cond.selects RX6 yX6_doubles yX6_doubles]
def wsL_law_r18 : List Cond := [Cond.code yX6_doubles cX6_doubles 16 (some .long), Cond.constantLong RX6 152 (5), Cond.methodLink RL 72 yX5_fit, Cond.instanceMethod yX5_fit, Cond.selects RX5 yX5_fit yX5_fit, Cond.code yX5_fit cX5_fit 2 (some .int), Cond.fieldLink RX5 145 "VerseYears$Draft" "parts" "I", Cond.methodLink RX5 148 yX2_fittingPart, Cond.instanceMethod yX2_fittingPart, Cond.selects RX2 yX2_fittingPart yX2_fittingPart, Cond.code yX2_fittingPart cX2_fittingPart 4 (some .int), Cond.fieldLink RX2 40 "VerseYears$Vocables" "size" "I", Cond.methodLink RX2 46 yX4_fitsPart, Cond.instanceMethod yX4_fitsPart, Cond.selects RX4 yX4_fitsPart yX4_fitsPart, Cond.code yX4_fitsPart cX4_fitsPart 8 (some .boolean), Cond.fieldLink RX4 51 "VerseYears$Draft" "starts" "[I", Cond.fieldLink RX4 54 "VerseYears$Draft" "ends" "[I", Cond.methodLink RL 76 yX6_fit, Cond.instanceMethod yX6_fit, Cond.selects RX6 yX6_fit yX6_fit, Cond.code yX6_fit cX6_fit 4 (some .int), Cond.fieldLink RX6 154 "VerseYearsModel" "parts" "I", Cond.methodLink RX6 157 yX6_parts]
def wsL_law_r19 : List Cond := [Cond.instanceMethod yX6_parts, Cond.selects RX6 yX6_parts yX6_parts, Cond.code yX6_parts cX6_parts 2 none, Cond.methodLink RX6 159 yX6_isFit, Cond.instanceMethod yX6_isFit, Cond.selects RX6 yX6_isFit yX6_isFit, Cond.code yX6_isFit cX6_isFit 6 (some .boolean), Cond.methodLink RL 77 yX5_readings, Cond.instanceMethod yX5_readings, Cond.selects RX5 yX5_readings yX5_readings, Cond.code yX5_readings cX5_readings 1 (some .int), Cond.methodLink RX5 152 yX2_howManyReadings, Cond.instanceMethod yX2_howManyReadings, Cond.selects RX2 yX2_howManyReadings yX2_howManyReadings, Cond.code yX2_howManyReadings cX2_howManyReadings 8 (some .int), Cond.fieldLink RX2 56 "VerseYears$Draft" "parts" "I", Cond.constantLong RX2 65 (2000000000), Cond.methodLink RX2 67 Lib.MathLoose.min_long.x, Cond.static Lib.MathLoose.min_long.x, Cond.initialized "java/lang/Math", Cond.code Lib.MathLoose.min_long.x Lib.MathLoose.min_long.code 4 (some .long), Cond.methodLink RX2 50 yJ7_fill_d0a16, Cond.methodLink RX2 61 yX2_readPart, Cond.instanceMethod yX2_readPart]
def wsL_law_r20 : List Cond := [Cond.selects RX2 yX2_readPart yX2_readPart, Cond.code yX2_readPart cX2_readPart 3 none, Cond.fieldLink RX2 73 "VerseYears$Vocables" "sorts" "[I", Cond.methodLink RX2 76 yX2_waysTo, Cond.instanceMethod yX2_waysTo, Cond.selects RX2 yX2_waysTo yX2_waysTo, Cond.code yX2_waysTo cX2_waysTo 5 (some .long), Cond.methodLink RX2 80 yX4_mayCome, Cond.methodLink RL 80 yX6_readings, Cond.instanceMethod yX6_readings, Cond.selects RX6 yX6_readings yX6_readings, Cond.code yX6_readings cX6_readings 4 (some .int), Cond.constantLong RX6 162 (2000000000), Cond.constant RX6 164 (2000000000), Cond.methodLink RL 81 yX5_years, Cond.instanceMethod yX5_years, Cond.selects RX5 yX5_years yX5_years, Cond.code yX5_years cX5_years 4 (some .int), Cond.fieldLink RX5 160 "VerseYears$Stone" "found" "I", Cond.fieldLink RX5 163 "VerseYears$Stone" "least" "I", Cond.fieldLink RX5 166 "VerseYears$Stone" "greatest" "I", Cond.methodLink RX5 156 yX2_findYears, Cond.instanceMethod yX2_findYears, Cond.selects RX2 yX2_findYears yX2_findYears]
def wsL_law_r21 : List Cond := [Cond.code yX2_findYears cX2_findYears 4 none, Cond.fieldLink RX2 91 "VerseYears$Stone" "found" "I", Cond.fieldLink RX2 94 "VerseYears$Stone" "least" "I", Cond.fieldLink RX2 97 "VerseYears$Stone" "greatest" "I", Cond.methodLink RX2 84 yX4_putSums, Cond.methodLink RX2 88 yX2_reachOverPart, Cond.instanceMethod yX2_reachOverPart, Cond.selects RX2 yX2_reachOverPart yX2_reachOverPart, Cond.code yX2_reachOverPart cX2_reachOverPart 3 none, Cond.methodLink RX2 106 arraycopyName, Cond.methodLink RX2 103 yX2_reachWith, Cond.instanceMethod yX2_reachWith, Cond.selects RX2 yX2_reachWith yX2_reachWith, Cond.code yX2_reachWith cX2_reachWith 3 none, Cond.methodLink RX2 112 yX2_addShifted, Cond.instanceMethod yX2_addShifted, Cond.selects RX2 yX2_addShifted yX2_addShifted, Cond.code yX2_addShifted cX2_addShifted 10 none, Cond.methodLink RX2 100 yX2_takeYears, Cond.instanceMethod yX2_takeYears, Cond.selects RX2 yX2_takeYears yX2_takeYears, Cond.code yX2_takeYears cX2_takeYears 5 none, Cond.methodLink RL 84 yX6_years, Cond.instanceMethod yX6_years]
def wsL_law_r22 : List Cond := [Cond.selects RX6 yX6_years yX6_years, Cond.code yX6_years cX6_years 8 (some .int), Cond.methodLink RX6 165 yX6_yearsOf, Cond.instanceMethod yX6_yearsOf, Cond.selects RX6 yX6_yearsOf yX6_yearsOf, Cond.code yX6_yearsOf cX6_yearsOf 8 none, Cond.methodLink RL 85 yX5_borne, Cond.instanceMethod yX5_borne, Cond.selects RX5 yX5_borne yX5_borne, Cond.code yX5_borne cX5_borne 5 (some .int), Cond.constant RX5 169 (60000), Cond.methodLink RL 88 yX6_borne, Cond.instanceMethod yX6_borne, Cond.selects RX6 yX6_borne yX6_borne, Cond.code yX6_borne cX6_borne 5 (some .int), Cond.constantLong RX6 169 (60000), Cond.methodLink RL 89 yX5_count, Cond.instanceMethod yX5_count, Cond.selects RX5 yX5_count yX5_count, Cond.code yX5_count cX5_count 2 (some .int), Cond.methodLink RX5 170 yX1_broken, Cond.instanceMethod yX1_broken, Cond.selects RX1 yX1_broken yX1_broken, Cond.code yX1_broken cX1_broken 3 (some .int)]
def wsL_law_r23 : List Cond := [Cond.methodLink RL 92 yX6_count, Cond.instanceMethod yX6_count, Cond.selects RX6 yX6_count yX6_count, Cond.code yX6_count cX6_count 4 (some .int), Cond.methodLink RL 93 yX5_trace, Cond.instanceMethod yX5_trace, Cond.selects RX5 yX5_trace yX5_trace, Cond.code yX5_trace cX5_trace 1 (some .long), Cond.methodLink RL 97 yX6_trace, Cond.instanceMethod yX6_trace, Cond.selects RX6 yX6_trace yX6_trace, Cond.code yX6_trace cX6_trace 1 (some .long)]
def wsL_law : List Cond := (wsL_law_r1 ++ (wsL_law_r2 ++ (wsL_law_r3 ++ (wsL_law_r4 ++ (wsL_law_r5 ++ (wsL_law_r6 ++ (wsL_law_r7 ++ (wsL_law_r8 ++ (wsL_law_r9 ++ (wsL_law_r10 ++ (wsL_law_r11 ++ (wsL_law_r12 ++ (wsL_law_r13 ++ (wsL_law_r14 ++ (wsL_law_r15 ++ (wsL_law_r16 ++ (wsL_law_r17 ++ (wsL_law_r18 ++ (wsL_law_r19 ++ (wsL_law_r20 ++ (wsL_law_r21 ++ (wsL_law_r22 ++ wsL_law_r23)))))))))))))))))))))) ++ wsX50 ++ wsX60 ++ wsX00 ++ wsX10 ++ wsX40 ++ wsX30 ++ wsX20 ++ ([] : List Cond)
end
section
theorem dX0_init_0 : decode cX0_init 0 = .ok (.aload_n 0, 1) := by decide +kernel
theorem dX0_init_1 : decode cX0_init 1 = .ok (.invokespecial 3, 3) := by decide +kernel
theorem dX0_init_4 : decode cX0_init 4 = .ok (.aload_n 0, 1) := by decide +kernel
theorem dX0_init_5 : decode cX0_init 5 = .ok (.bipush 104, 2) := by decide +kernel
theorem dX0_init_7 : decode cX0_init 7 = .ok (.newarray .int, 2) := by decide +kernel
theorem dX0_init_9 : decode cX0_init 9 = .ok (.putfield 9, 3) := by decide +kernel
theorem dX0_init_12 : decode cX0_init 12 = .ok (.iconst 0, 1) := by decide +kernel
theorem dX0_init_13 : decode cX0_init 13 = .ok (.istore_n 1, 1) := by decide +kernel
theorem dX0_init_14 : decode cX0_init 14 = .ok (.iload_n 1, 1) := by decide +kernel
theorem dX0_init_15 : decode cX0_init 15 = .ok (.iconst 4, 1) := by decide +kernel
theorem dX0_init_16 : decode cX0_init 16 = .ok (.if_icmp .ge 26, 3) := by decide +kernel
theorem dX0_init_19 : decode cX0_init 19 = .ok (.getstatic 15, 3) := by decide +kernel
theorem dX0_init_22 : decode cX0_init 22 = .ok (.iconst 0, 1) := by decide +kernel
theorem dX0_init_23 : decode cX0_init 23 = .ok (.aload_n 0, 1) := by decide +kernel
theorem dX0_init_24 : decode cX0_init 24 = .ok (.getfield 9, 3) := by decide +kernel
theorem dX0_init_27 : decode cX0_init 27 = .ok (.iload_n 1, 1) := by decide +kernel
theorem dX0_init_28 : decode cX0_init 28 = .ok (.bipush 26, 2) := by decide +kernel
theorem dX0_init_30 : decode cX0_init 30 = .ok (.imul, 1) := by decide +kernel
theorem dX0_init_31 : decode cX0_init 31 = .ok (.bipush 26, 2) := by decide +kernel
theorem dX0_init_33 : decode cX0_init 33 = .ok (.invokestatic 18, 3) := by decide +kernel
theorem dX0_init_36 : decode cX0_init 36 = .ok (.iinc 1 1, 3) := by decide +kernel
theorem dX0_init_39 : decode cX0_init 39 = .ok (.goto (-25), 3) := by decide +kernel
theorem dX0_init_42 : decode cX0_init 42 = .ok (.return_, 1) := by decide +kernel
theorem dX0_replace_0 : decode cX0_replace 0 = .ok (.iload_n 1, 1) := by decide +kernel
theorem dX0_replace_1 : decode cX0_replace 1 = .ok (.bipush 26, 2) := by decide +kernel
theorem dX0_replace_3 : decode cX0_replace 3 = .ok (.imul, 1) := by decide +kernel
theorem dX0_replace_4 : decode cX0_replace 4 = .ok (.iload_n 2, 1) := by decide +kernel
theorem dX0_replace_5 : decode cX0_replace 5 = .ok (.iadd, 1) := by decide +kernel
theorem dX0_replace_6 : decode cX0_replace 6 = .ok (.bipush 97, 2) := by decide +kernel
theorem dX0_replace_8 : decode cX0_replace 8 = .ok (.isub, 1) := by decide +kernel
theorem dX0_replace_9 : decode cX0_replace 9 = .ok (.istore 4, 2) := by decide +kernel
theorem dX0_replace_11 : decode cX0_replace 11 = .ok (.aload_n 0, 1) := by decide +kernel
theorem dX0_replace_12 : decode cX0_replace 12 = .ok (.getfield 9, 3) := by decide +kernel
theorem dX0_replace_15 : decode cX0_replace 15 = .ok (.iload 4, 2) := by decide +kernel
theorem dX0_replace_17 : decode cX0_replace 17 = .ok (.iaload, 1) := by decide +kernel
theorem dX0_replace_18 : decode cX0_replace 18 = .ok (.istore 5, 2) := by decide +kernel
theorem dX0_replace_20 : decode cX0_replace 20 = .ok (.aload_n 0, 1) := by decide +kernel
theorem dX0_replace_21 : decode cX0_replace 21 = .ok (.getfield 9, 3) := by decide +kernel
theorem dX0_replace_24 : decode cX0_replace 24 = .ok (.iload 4, 2) := by decide +kernel
theorem dX0_replace_26 : decode cX0_replace 26 = .ok (.iload_n 3, 1) := by decide +kernel
theorem dX0_replace_27 : decode cX0_replace 27 = .ok (.iastore, 1) := by decide +kernel
theorem dX0_replace_28 : decode cX0_replace 28 = .ok (.iload 5, 2) := by decide +kernel
theorem dX0_replace_30 : decode cX0_replace 30 = .ok (.ireturn, 1) := by decide +kernel
set_option maxRecDepth 20000 in
theorem ggX0_worthOf_X5_isLetter : GoodIn wsX0_worthOf wsX5_isLetter := goodIn_r _ [4, 5, 6, 3, 7] (by decide +kernel) (by decide +kernel)
set_option maxRecDepth 20000 in
theorem gX0_worthOf_X5_isLetter_n24 : GoodIn wsX0_worthOf (wsX5_isLetter) := ggX0_worthOf_X5_isLetter
set_option maxRecDepth 20000 in
theorem ggX0_worthOf_X5_isCapital : GoodIn wsX0_worthOf wsX5_isCapital := goodIn_r _ [7] (by decide +kernel) (by decide +kernel)
set_option maxRecDepth 20000 in
theorem gX0_worthOf_X5_isCapital_n28 : GoodIn wsX0_worthOf (wsX5_isCapital) := ggX0_worthOf_X5_isCapital
theorem dX0_worthOf_0 : decode cX0_worthOf 0 = .ok (.iload_n 3, 1) := by decide +kernel
theorem dX0_worthOf_1 : decode cX0_worthOf 1 = .ok (.invokestatic 24, 3) := by decide +kernel
theorem dX0_worthOf_4 : decode cX0_worthOf 4 = .ok (.ifCond .ne 5, 3) := by decide +kernel
theorem dX0_worthOf_7 : decode cX0_worthOf 7 = .ok (.iconst 0, 1) := by decide +kernel
theorem dX0_worthOf_8 : decode cX0_worthOf 8 = .ok (.ireturn, 1) := by decide +kernel
theorem dX0_worthOf_9 : decode cX0_worthOf 9 = .ok (.iload_n 1, 1) := by decide +kernel
theorem dX0_worthOf_10 : decode cX0_worthOf 10 = .ok (.iconst 1, 1) := by decide +kernel
theorem dX0_worthOf_11 : decode cX0_worthOf 11 = .ok (.if_icmp .lt 12, 3) := by decide +kernel
theorem dX0_worthOf_14 : decode cX0_worthOf 14 = .ok (.iload_n 3, 1) := by decide +kernel
theorem dX0_worthOf_15 : decode cX0_worthOf 15 = .ok (.invokestatic 28, 3) := by decide +kernel
theorem dX0_worthOf_18 : decode cX0_worthOf 18 = .ok (.ifCond .ne 5, 3) := by decide +kernel
theorem dX0_worthOf_21 : decode cX0_worthOf 21 = .ok (.iconst 0, 1) := by decide +kernel
theorem dX0_worthOf_22 : decode cX0_worthOf 22 = .ok (.ireturn, 1) := by decide +kernel
theorem dX0_worthOf_23 : decode cX0_worthOf 23 = .ok (.iload_n 1, 1) := by decide +kernel
theorem dX0_worthOf_24 : decode cX0_worthOf 24 = .ok (.iconst 2, 1) := by decide +kernel
theorem dX0_worthOf_25 : decode cX0_worthOf 25 = .ok (.if_icmp .lt 11, 3) := by decide +kernel
theorem dX0_worthOf_28 : decode cX0_worthOf 28 = .ok (.iload_n 3, 1) := by decide +kernel
theorem dX0_worthOf_29 : decode cX0_worthOf 29 = .ok (.iload 4, 2) := by decide +kernel
theorem dX0_worthOf_31 : decode cX0_worthOf 31 = .ok (.if_icmp .ne 5, 3) := by decide +kernel
theorem dX0_worthOf_34 : decode cX0_worthOf 34 = .ok (.iconst 0, 1) := by decide +kernel
theorem dX0_worthOf_35 : decode cX0_worthOf 35 = .ok (.ireturn, 1) := by decide +kernel
theorem dX0_worthOf_36 : decode cX0_worthOf 36 = .ok (.aload_n 0, 1) := by decide +kernel
theorem dX0_worthOf_37 : decode cX0_worthOf 37 = .ok (.getfield 9, 3) := by decide +kernel
theorem dX0_worthOf_40 : decode cX0_worthOf 40 = .ok (.iload_n 2, 1) := by decide +kernel
theorem dX0_worthOf_41 : decode cX0_worthOf 41 = .ok (.bipush 26, 2) := by decide +kernel
theorem dX0_worthOf_43 : decode cX0_worthOf 43 = .ok (.imul, 1) := by decide +kernel
theorem dX0_worthOf_44 : decode cX0_worthOf 44 = .ok (.iload_n 3, 1) := by decide +kernel
theorem dX0_worthOf_45 : decode cX0_worthOf 45 = .ok (.iadd, 1) := by decide +kernel
theorem dX0_worthOf_46 : decode cX0_worthOf 46 = .ok (.iload_n 3, 1) := by decide +kernel
theorem dX0_worthOf_47 : decode cX0_worthOf 47 = .ok (.invokestatic 28, 3) := by decide +kernel
theorem dX0_worthOf_50 : decode cX0_worthOf 50 = .ok (.ifCond .eq 8, 3) := by decide +kernel
theorem dX0_worthOf_53 : decode cX0_worthOf 53 = .ok (.bipush 65, 2) := by decide +kernel
theorem dX0_worthOf_55 : decode cX0_worthOf 55 = .ok (.goto 5, 3) := by decide +kernel
theorem dX0_worthOf_58 : decode cX0_worthOf 58 = .ok (.bipush 97, 2) := by decide +kernel
theorem dX0_worthOf_60 : decode cX0_worthOf 60 = .ok (.isub, 1) := by decide +kernel
theorem dX0_worthOf_61 : decode cX0_worthOf 61 = .ok (.iaload, 1) := by decide +kernel
theorem dX0_worthOf_62 : decode cX0_worthOf 62 = .ok (.ireturn, 1) := by decide +kernel
set_option maxRecDepth 20000 in
theorem ggX0_sumOf_X0_worthOf : GoodIn wsX0_sumOf wsX0_worthOf := goodIn_r _ [5, 6, 7, 8, 9, 10, 11, 12, 13] (by decide +kernel) (by decide +kernel)
set_option maxRecDepth 20000 in
theorem gX0_sumOf_X0_worthOf : GoodIn wsX0_sumOf (wsV RX0 31 RX0 yX0_worthOf wsX0_worthOf) := goodIn_app (goodIn_of _ (by decide +kernel)) ggX0_sumOf_X0_worthOf
theorem dX0_sumOf_0 : decode cX0_sumOf 0 = .ok (.iconst 0, 1) := by decide +kernel
theorem dX0_sumOf_1 : decode cX0_sumOf 1 = .ok (.istore 6, 2) := by decide +kernel
theorem dX0_sumOf_3 : decode cX0_sumOf 3 = .ok (.bipush 32, 2) := by decide +kernel
theorem dX0_sumOf_5 : decode cX0_sumOf 5 = .ok (.istore 7, 2) := by decide +kernel
theorem dX0_sumOf_7 : decode cX0_sumOf 7 = .ok (.iload 4, 2) := by decide +kernel
theorem dX0_sumOf_9 : decode cX0_sumOf 9 = .ok (.istore 8, 2) := by decide +kernel
theorem dX0_sumOf_11 : decode cX0_sumOf 11 = .ok (.iload 8, 2) := by decide +kernel
theorem dX0_sumOf_13 : decode cX0_sumOf 13 = .ok (.iload 5, 2) := by decide +kernel
theorem dX0_sumOf_15 : decode cX0_sumOf 15 = .ok (.if_icmp .ge 32, 3) := by decide +kernel
theorem dX0_sumOf_18 : decode cX0_sumOf 18 = .ok (.iload 6, 2) := by decide +kernel
theorem dX0_sumOf_20 : decode cX0_sumOf 20 = .ok (.aload_n 0, 1) := by decide +kernel
theorem dX0_sumOf_21 : decode cX0_sumOf 21 = .ok (.iload_n 1, 1) := by decide +kernel
theorem dX0_sumOf_22 : decode cX0_sumOf 22 = .ok (.iload_n 2, 1) := by decide +kernel
theorem dX0_sumOf_23 : decode cX0_sumOf 23 = .ok (.aload_n 3, 1) := by decide +kernel
theorem dX0_sumOf_24 : decode cX0_sumOf 24 = .ok (.iload 8, 2) := by decide +kernel
theorem dX0_sumOf_26 : decode cX0_sumOf 26 = .ok (.iaload, 1) := by decide +kernel
theorem dX0_sumOf_27 : decode cX0_sumOf 27 = .ok (.iload 7, 2) := by decide +kernel
theorem dX0_sumOf_29 : decode cX0_sumOf 29 = .ok (.invokevirtual 31, 3) := by decide +kernel
theorem dX0_sumOf_32 : decode cX0_sumOf 32 = .ok (.iadd, 1) := by decide +kernel
theorem dX0_sumOf_33 : decode cX0_sumOf 33 = .ok (.istore 6, 2) := by decide +kernel
theorem dX0_sumOf_35 : decode cX0_sumOf 35 = .ok (.aload_n 3, 1) := by decide +kernel
theorem dX0_sumOf_36 : decode cX0_sumOf 36 = .ok (.iload 8, 2) := by decide +kernel
theorem dX0_sumOf_38 : decode cX0_sumOf 38 = .ok (.iaload, 1) := by decide +kernel
theorem dX0_sumOf_39 : decode cX0_sumOf 39 = .ok (.istore 7, 2) := by decide +kernel
theorem dX0_sumOf_41 : decode cX0_sumOf 41 = .ok (.iinc 8 1, 3) := by decide +kernel
theorem dX0_sumOf_44 : decode cX0_sumOf 44 = .ok (.goto (-33), 3) := by decide +kernel
theorem dX0_sumOf_47 : decode cX0_sumOf 47 = .ok (.iload 6, 2) := by decide +kernel
theorem dX0_sumOf_49 : decode cX0_sumOf 49 = .ok (.ireturn, 1) := by decide +kernel
theorem dX1_init_0 : decode cX1_init 0 = .ok (.aload_n 0, 1) := by decide +kernel
theorem dX1_init_1 : decode cX1_init 1 = .ok (.invokespecial 3, 3) := by decide +kernel
theorem dX1_init_4 : decode cX1_init 4 = .ok (.aload_n 0, 1) := by decide +kernel
theorem dX1_init_5 : decode cX1_init 5 = .ok (.bipush 40, 2) := by decide +kernel
theorem dX1_init_7 : decode cX1_init 7 = .ok (.newarray .int, 2) := by decide +kernel
theorem dX1_init_9 : decode cX1_init 9 = .ok (.putfield 9, 3) := by decide +kernel
theorem dX1_init_12 : decode cX1_init 12 = .ok (.aload_n 0, 1) := by decide +kernel
theorem dX1_init_13 : decode cX1_init 13 = .ok (.bipush 20, 2) := by decide +kernel
theorem dX1_init_15 : decode cX1_init 15 = .ok (.newarray .int, 2) := by decide +kernel
theorem dX1_init_17 : decode cX1_init 17 = .ok (.putfield 15, 3) := by decide +kernel
theorem dX1_init_20 : decode cX1_init 20 = .ok (.aload_n 0, 1) := by decide +kernel
theorem dX1_init_21 : decode cX1_init 21 = .ok (.bipush 20, 2) := by decide +kernel
theorem dX1_init_23 : decode cX1_init 23 = .ok (.newarray .int, 2) := by decide +kernel
theorem dX1_init_25 : decode cX1_init 25 = .ok (.putfield 18, 3) := by decide +kernel
theorem dX1_init_28 : decode cX1_init 28 = .ok (.return_, 1) := by decide +kernel
set_option maxRecDepth 20000 in
theorem ggX1_append_X5_byteOf : GoodIn wsX1_append wsX5_byteOf := goodIn_r _ [5] (by decide +kernel) (by decide +kernel)
set_option maxRecDepth 20000 in
theorem gX1_append_X5_byteOf_n25 : GoodIn wsX1_append (wsX5_byteOf) := ggX1_append_X5_byteOf
set_option maxRecDepth 20000 in
theorem ggX1_append_X1_findParts : GoodIn wsX1_append wsX1_findParts := goodIn_r _ [10, 11, 2, 1, 12, 13, 14, 15, 16, 17, 18] (by decide +kernel) (by decide +kernel)
set_option maxRecDepth 20000 in
theorem gX1_append_X1_findParts : GoodIn wsX1_append (wsV RX1 29 RX1 yX1_findParts wsX1_findParts) := goodIn_app (goodIn_of _ (by decide +kernel)) ggX1_append_X1_findParts
theorem dX1_append_0 : decode cX1_append 0 = .ok (.iload_n 3, 1) := by decide +kernel
theorem dX1_append_1 : decode cX1_append 1 = .ok (.iconst 1, 1) := by decide +kernel
theorem dX1_append_2 : decode cX1_append 2 = .ok (.isub, 1) := by decide +kernel
theorem dX1_append_3 : decode cX1_append 3 = .ok (.istore 4, 2) := by decide +kernel
theorem dX1_append_5 : decode cX1_append 5 = .ok (.iload 4, 2) := by decide +kernel
theorem dX1_append_7 : decode cX1_append 7 = .ok (.ifCond .lt 34, 3) := by decide +kernel
theorem dX1_append_10 : decode cX1_append 10 = .ok (.aload_n 0, 1) := by decide +kernel
theorem dX1_append_11 : decode cX1_append 11 = .ok (.getfield 9, 3) := by decide +kernel
theorem dX1_append_14 : decode cX1_append 14 = .ok (.aload_n 0, 1) := by decide +kernel
theorem dX1_append_15 : decode cX1_append 15 = .ok (.getfield 21, 3) := by decide +kernel
theorem dX1_append_18 : decode cX1_append 18 = .ok (.lload_n 1, 1) := by decide +kernel
theorem dX1_append_19 : decode cX1_append 19 = .ok (.iload 4, 2) := by decide +kernel
theorem dX1_append_21 : decode cX1_append 21 = .ok (.invokestatic 25, 3) := by decide +kernel
theorem dX1_append_24 : decode cX1_append 24 = .ok (.iastore, 1) := by decide +kernel
theorem dX1_append_25 : decode cX1_append 25 = .ok (.aload_n 0, 1) := by decide +kernel
theorem dX1_append_26 : decode cX1_append 26 = .ok (.dup, 1) := by decide +kernel
theorem dX1_append_27 : decode cX1_append 27 = .ok (.getfield 21, 3) := by decide +kernel
theorem dX1_append_30 : decode cX1_append 30 = .ok (.iconst 1, 1) := by decide +kernel
theorem dX1_append_31 : decode cX1_append 31 = .ok (.iadd, 1) := by decide +kernel
theorem dX1_append_32 : decode cX1_append 32 = .ok (.putfield 21, 3) := by decide +kernel
theorem dX1_append_35 : decode cX1_append 35 = .ok (.iinc 4 (-1), 3) := by decide +kernel
theorem dX1_append_38 : decode cX1_append 38 = .ok (.goto (-33), 3) := by decide +kernel
theorem dX1_append_41 : decode cX1_append 41 = .ok (.aload_n 0, 1) := by decide +kernel
theorem dX1_append_42 : decode cX1_append 42 = .ok (.invokevirtual 29, 3) := by decide +kernel
theorem dX1_append_45 : decode cX1_append 45 = .ok (.return_, 1) := by decide +kernel
theorem dX1_wipe_0 : decode cX1_wipe 0 = .ok (.aload_n 0, 1) := by decide +kernel
theorem dX1_wipe_1 : decode cX1_wipe 1 = .ok (.iconst 0, 1) := by decide +kernel
theorem dX1_wipe_2 : decode cX1_wipe 2 = .ok (.putfield 21, 3) := by decide +kernel
theorem dX1_wipe_5 : decode cX1_wipe 5 = .ok (.aload_n 0, 1) := by decide +kernel
theorem dX1_wipe_6 : decode cX1_wipe 6 = .ok (.iconst 0, 1) := by decide +kernel
theorem dX1_wipe_7 : decode cX1_wipe 7 = .ok (.putfield 32, 3) := by decide +kernel
theorem dX1_wipe_10 : decode cX1_wipe 10 = .ok (.return_, 1) := by decide +kernel
set_option maxRecDepth 20000 in
theorem ggX1_isWord_X5_isLetter : GoodIn wsX1_isWord wsX5_isLetter := goodIn_r _ [5, 6, 7, 4, 8] (by decide +kernel) (by decide +kernel)
set_option maxRecDepth 20000 in
theorem gX1_isWord_X5_isLetter_n35 : GoodIn wsX1_isWord (wsX5_isLetter) := ggX1_isWord_X5_isLetter
theorem dX1_isWord_0 : decode cX1_isWord 0 = .ok (.aload_n 0, 1) := by decide +kernel
theorem dX1_isWord_1 : decode cX1_isWord 1 = .ok (.getfield 21, 3) := by decide +kernel
theorem dX1_isWord_4 : decode cX1_isWord 4 = .ok (.iconst 1, 1) := by decide +kernel
theorem dX1_isWord_5 : decode cX1_isWord 5 = .ok (.if_icmp .lt 12, 3) := by decide +kernel
theorem dX1_isWord_8 : decode cX1_isWord 8 = .ok (.aload_n 0, 1) := by decide +kernel
theorem dX1_isWord_9 : decode cX1_isWord 9 = .ok (.getfield 21, 3) := by decide +kernel
theorem dX1_isWord_12 : decode cX1_isWord 12 = .ok (.bipush 8, 2) := by decide +kernel
theorem dX1_isWord_14 : decode cX1_isWord 14 = .ok (.if_icmp .le 5, 3) := by decide +kernel
theorem dX1_isWord_17 : decode cX1_isWord 17 = .ok (.iconst 0, 1) := by decide +kernel
theorem dX1_isWord_18 : decode cX1_isWord 18 = .ok (.ireturn, 1) := by decide +kernel
theorem dX1_isWord_19 : decode cX1_isWord 19 = .ok (.iconst 0, 1) := by decide +kernel
theorem dX1_isWord_20 : decode cX1_isWord 20 = .ok (.istore_n 1, 1) := by decide +kernel
theorem dX1_isWord_21 : decode cX1_isWord 21 = .ok (.iload_n 1, 1) := by decide +kernel
theorem dX1_isWord_22 : decode cX1_isWord 22 = .ok (.aload_n 0, 1) := by decide +kernel
theorem dX1_isWord_23 : decode cX1_isWord 23 = .ok (.getfield 21, 3) := by decide +kernel
theorem dX1_isWord_26 : decode cX1_isWord 26 = .ok (.if_icmp .ge 23, 3) := by decide +kernel
theorem dX1_isWord_29 : decode cX1_isWord 29 = .ok (.aload_n 0, 1) := by decide +kernel
theorem dX1_isWord_30 : decode cX1_isWord 30 = .ok (.getfield 9, 3) := by decide +kernel
theorem dX1_isWord_33 : decode cX1_isWord 33 = .ok (.iload_n 1, 1) := by decide +kernel
theorem dX1_isWord_34 : decode cX1_isWord 34 = .ok (.iaload, 1) := by decide +kernel
theorem dX1_isWord_35 : decode cX1_isWord 35 = .ok (.invokestatic 35, 3) := by decide +kernel
theorem dX1_isWord_38 : decode cX1_isWord 38 = .ok (.ifCond .ne 5, 3) := by decide +kernel
theorem dX1_isWord_41 : decode cX1_isWord 41 = .ok (.iconst 0, 1) := by decide +kernel
theorem dX1_isWord_42 : decode cX1_isWord 42 = .ok (.ireturn, 1) := by decide +kernel
theorem dX1_isWord_43 : decode cX1_isWord 43 = .ok (.iinc 1 1, 3) := by decide +kernel
theorem dX1_isWord_46 : decode cX1_isWord 46 = .ok (.goto (-25), 3) := by decide +kernel
theorem dX1_isWord_49 : decode cX1_isWord 49 = .ok (.iconst 1, 1) := by decide +kernel
theorem dX1_isWord_50 : decode cX1_isWord 50 = .ok (.ireturn, 1) := by decide +kernel
theorem dX1_broken_0 : decode cX1_broken 0 = .ok (.iconst 0, 1) := by decide +kernel
theorem dX1_broken_1 : decode cX1_broken 1 = .ok (.istore_n 1, 1) := by decide +kernel
theorem dX1_broken_2 : decode cX1_broken 2 = .ok (.iconst 0, 1) := by decide +kernel
theorem dX1_broken_3 : decode cX1_broken 3 = .ok (.istore_n 2, 1) := by decide +kernel
theorem dX1_broken_4 : decode cX1_broken 4 = .ok (.iload_n 2, 1) := by decide +kernel
theorem dX1_broken_5 : decode cX1_broken 5 = .ok (.aload_n 0, 1) := by decide +kernel
theorem dX1_broken_6 : decode cX1_broken 6 = .ok (.getfield 21, 3) := by decide +kernel
theorem dX1_broken_9 : decode cX1_broken 9 = .ok (.if_icmp .ge 23, 3) := by decide +kernel
theorem dX1_broken_12 : decode cX1_broken 12 = .ok (.aload_n 0, 1) := by decide +kernel
theorem dX1_broken_13 : decode cX1_broken 13 = .ok (.getfield 9, 3) := by decide +kernel
theorem dX1_broken_16 : decode cX1_broken 16 = .ok (.iload_n 2, 1) := by decide +kernel
theorem dX1_broken_17 : decode cX1_broken 17 = .ok (.iaload, 1) := by decide +kernel
theorem dX1_broken_18 : decode cX1_broken 18 = .ok (.bipush 63, 2) := by decide +kernel
theorem dX1_broken_20 : decode cX1_broken 20 = .ok (.if_icmp .ne 6, 3) := by decide +kernel
theorem dX1_broken_23 : decode cX1_broken 23 = .ok (.iinc 1 1, 3) := by decide +kernel
theorem dX1_broken_26 : decode cX1_broken 26 = .ok (.iinc 2 1, 3) := by decide +kernel
theorem dX1_broken_29 : decode cX1_broken 29 = .ok (.goto (-25), 3) := by decide +kernel
theorem dX1_broken_32 : decode cX1_broken 32 = .ok (.iload_n 1, 1) := by decide +kernel
theorem dX1_broken_33 : decode cX1_broken 33 = .ok (.ireturn, 1) := by decide +kernel
theorem dX1_findParts_0 : decode cX1_findParts 0 = .ok (.aload_n 0, 1) := by decide +kernel
theorem dX1_findParts_1 : decode cX1_findParts 1 = .ok (.iconst 0, 1) := by decide +kernel
theorem dX1_findParts_2 : decode cX1_findParts 2 = .ok (.putfield 32, 3) := by decide +kernel
theorem dX1_findParts_5 : decode cX1_findParts 5 = .ok (.bipush 32, 2) := by decide +kernel
theorem dX1_findParts_7 : decode cX1_findParts 7 = .ok (.istore_n 1, 1) := by decide +kernel
theorem dX1_findParts_8 : decode cX1_findParts 8 = .ok (.iconst 0, 1) := by decide +kernel
theorem dX1_findParts_9 : decode cX1_findParts 9 = .ok (.istore_n 2, 1) := by decide +kernel
theorem dX1_findParts_10 : decode cX1_findParts 10 = .ok (.iload_n 2, 1) := by decide +kernel
theorem dX1_findParts_11 : decode cX1_findParts 11 = .ok (.aload_n 0, 1) := by decide +kernel
theorem dX1_findParts_12 : decode cX1_findParts 12 = .ok (.getfield 21, 3) := by decide +kernel
theorem dX1_findParts_15 : decode cX1_findParts 15 = .ok (.if_icmp .ge 67, 3) := by decide +kernel
theorem dX1_findParts_18 : decode cX1_findParts 18 = .ok (.aload_n 0, 1) := by decide +kernel
theorem dX1_findParts_19 : decode cX1_findParts 19 = .ok (.getfield 9, 3) := by decide +kernel
theorem dX1_findParts_22 : decode cX1_findParts 22 = .ok (.iload_n 2, 1) := by decide +kernel
theorem dX1_findParts_23 : decode cX1_findParts 23 = .ok (.iaload, 1) := by decide +kernel
theorem dX1_findParts_24 : decode cX1_findParts 24 = .ok (.bipush 32, 2) := by decide +kernel
theorem dX1_findParts_26 : decode cX1_findParts 26 = .ok (.if_icmp .eq 43, 3) := by decide +kernel
theorem dX1_findParts_29 : decode cX1_findParts 29 = .ok (.iload_n 1, 1) := by decide +kernel
theorem dX1_findParts_30 : decode cX1_findParts 30 = .ok (.bipush 32, 2) := by decide +kernel
theorem dX1_findParts_32 : decode cX1_findParts 32 = .ok (.if_icmp .ne 23, 3) := by decide +kernel
theorem dX1_findParts_35 : decode cX1_findParts 35 = .ok (.aload_n 0, 1) := by decide +kernel
theorem dX1_findParts_36 : decode cX1_findParts 36 = .ok (.getfield 15, 3) := by decide +kernel
theorem dX1_findParts_39 : decode cX1_findParts 39 = .ok (.aload_n 0, 1) := by decide +kernel
theorem dX1_findParts_40 : decode cX1_findParts 40 = .ok (.getfield 32, 3) := by decide +kernel
theorem dX1_findParts_43 : decode cX1_findParts 43 = .ok (.iload_n 2, 1) := by decide +kernel
theorem dX1_findParts_44 : decode cX1_findParts 44 = .ok (.iastore, 1) := by decide +kernel
theorem dX1_findParts_45 : decode cX1_findParts 45 = .ok (.aload_n 0, 1) := by decide +kernel
theorem dX1_findParts_46 : decode cX1_findParts 46 = .ok (.dup, 1) := by decide +kernel
theorem dX1_findParts_47 : decode cX1_findParts 47 = .ok (.getfield 32, 3) := by decide +kernel
theorem dX1_findParts_50 : decode cX1_findParts 50 = .ok (.iconst 1, 1) := by decide +kernel
theorem dX1_findParts_51 : decode cX1_findParts 51 = .ok (.iadd, 1) := by decide +kernel
theorem dX1_findParts_52 : decode cX1_findParts 52 = .ok (.putfield 32, 3) := by decide +kernel
theorem dX1_findParts_55 : decode cX1_findParts 55 = .ok (.aload_n 0, 1) := by decide +kernel
theorem dX1_findParts_56 : decode cX1_findParts 56 = .ok (.getfield 18, 3) := by decide +kernel
theorem dX1_findParts_59 : decode cX1_findParts 59 = .ok (.aload_n 0, 1) := by decide +kernel
theorem dX1_findParts_60 : decode cX1_findParts 60 = .ok (.getfield 32, 3) := by decide +kernel
theorem dX1_findParts_63 : decode cX1_findParts 63 = .ok (.iconst 1, 1) := by decide +kernel
theorem dX1_findParts_64 : decode cX1_findParts 64 = .ok (.isub, 1) := by decide +kernel
theorem dX1_findParts_65 : decode cX1_findParts 65 = .ok (.iload_n 2, 1) := by decide +kernel
theorem dX1_findParts_66 : decode cX1_findParts 66 = .ok (.iconst 1, 1) := by decide +kernel
theorem dX1_findParts_67 : decode cX1_findParts 67 = .ok (.iadd, 1) := by decide +kernel
theorem dX1_findParts_68 : decode cX1_findParts 68 = .ok (.iastore, 1) := by decide +kernel
theorem dX1_findParts_69 : decode cX1_findParts 69 = .ok (.aload_n 0, 1) := by decide +kernel
theorem dX1_findParts_70 : decode cX1_findParts 70 = .ok (.getfield 9, 3) := by decide +kernel
theorem dX1_findParts_73 : decode cX1_findParts 73 = .ok (.iload_n 2, 1) := by decide +kernel
theorem dX1_findParts_74 : decode cX1_findParts 74 = .ok (.iaload, 1) := by decide +kernel
theorem dX1_findParts_75 : decode cX1_findParts 75 = .ok (.istore_n 1, 1) := by decide +kernel
theorem dX1_findParts_76 : decode cX1_findParts 76 = .ok (.iinc 2 1, 3) := by decide +kernel
theorem dX1_findParts_79 : decode cX1_findParts 79 = .ok (.goto (-69), 3) := by decide +kernel
theorem dX1_findParts_82 : decode cX1_findParts 82 = .ok (.return_, 1) := by decide +kernel
theorem dX2_init_0 : decode cX2_init 0 = .ok (.aload_n 0, 1) := by decide +kernel
theorem dX2_init_1 : decode cX2_init 1 = .ok (.invokespecial 5, 3) := by decide +kernel
theorem dX2_init_4 : decode cX2_init 4 = .ok (.aload_n 0, 1) := by decide +kernel
theorem dX2_init_5 : decode cX2_init 5 = .ok (.bipush 10, 2) := by decide +kernel
theorem dX2_init_7 : decode cX2_init 7 = .ok (.newarray .int, 2) := by decide +kernel
theorem dX2_init_9 : decode cX2_init 9 = .ok (.putfield 11, 3) := by decide +kernel
theorem dX2_init_12 : decode cX2_init 12 = .ok (.aload_n 0, 1) := by decide +kernel
theorem dX2_init_13 : decode cX2_init 13 = .ok (.iconst 4, 1) := by decide +kernel
theorem dX2_init_14 : decode cX2_init 14 = .ok (.newarray .long, 2) := by decide +kernel
theorem dX2_init_16 : decode cX2_init 16 = .ok (.putfield 15, 3) := by decide +kernel
theorem dX2_init_19 : decode cX2_init 19 = .ok (.aload_n 0, 1) := by decide +kernel
theorem dX2_init_20 : decode cX2_init 20 = .ok (.iconst 4, 1) := by decide +kernel
theorem dX2_init_21 : decode cX2_init 21 = .ok (.newarray .long, 2) := by decide +kernel
theorem dX2_init_23 : decode cX2_init 23 = .ok (.putfield 19, 3) := by decide +kernel
theorem dX2_init_26 : decode cX2_init 26 = .ok (.aload_n 0, 1) := by decide +kernel
theorem dX2_init_27 : decode cX2_init 27 = .ok (.sipush 188, 3) := by decide +kernel
theorem dX2_init_30 : decode cX2_init 30 = .ok (.newarray .long, 2) := by decide +kernel
theorem dX2_init_32 : decode cX2_init 32 = .ok (.putfield 22, 3) := by decide +kernel
theorem dX2_init_35 : decode cX2_init 35 = .ok (.aload_n 0, 1) := by decide +kernel
theorem dX2_init_36 : decode cX2_init 36 = .ok (.sipush 188, 3) := by decide +kernel
theorem dX2_init_39 : decode cX2_init 39 = .ok (.newarray .long, 2) := by decide +kernel
theorem dX2_init_41 : decode cX2_init 41 = .ok (.putfield 25, 3) := by decide +kernel
theorem dX2_init_44 : decode cX2_init 44 = .ok (.aload_n 0, 1) := by decide +kernel
theorem dX2_init_45 : decode cX2_init 45 = .ok (.aload_n 1, 1) := by decide +kernel
theorem dX2_init_46 : decode cX2_init 46 = .ok (.putfield 28, 3) := by decide +kernel
theorem dX2_init_49 : decode cX2_init 49 = .ok (.aload_n 0, 1) := by decide +kernel
theorem dX2_init_50 : decode cX2_init 50 = .ok (.aload_n 2, 1) := by decide +kernel
theorem dX2_init_51 : decode cX2_init 51 = .ok (.putfield 32, 3) := by decide +kernel
theorem dX2_init_54 : decode cX2_init 54 = .ok (.aload_n 0, 1) := by decide +kernel
theorem dX2_init_55 : decode cX2_init 55 = .ok (.aload_n 3, 1) := by decide +kernel
theorem dX2_init_56 : decode cX2_init 56 = .ok (.putfield 36, 3) := by decide +kernel
theorem dX2_init_59 : decode cX2_init 59 = .ok (.return_, 1) := by decide +kernel
set_option maxRecDepth 20000 in
theorem ggX2_fittingPart_X4_fitsPart : GoodIn wsX2_fittingPart wsX4_fitsPart := goodIn_r _ [8, 9, 10, 11, 12, 13, 31, 32, 33, 34, 35, 25, 26, 27, 28, 29, 30] (by decide +kernel) (by decide +kernel)
set_option maxRecDepth 20000 in
theorem gX2_fittingPart_X4_fitsPart : GoodIn wsX2_fittingPart (wsV RX2 46 RX4 yX4_fitsPart wsX4_fitsPart) := goodIn_app (goodIn_of _ (by decide +kernel)) ggX2_fittingPart_X4_fitsPart
theorem dX2_fittingPart_0 : decode cX2_fittingPart 0 = .ok (.iconst 0, 1) := by decide +kernel
theorem dX2_fittingPart_1 : decode cX2_fittingPart 1 = .ok (.istore_n 2, 1) := by decide +kernel
theorem dX2_fittingPart_2 : decode cX2_fittingPart 2 = .ok (.iconst 0, 1) := by decide +kernel
theorem dX2_fittingPart_3 : decode cX2_fittingPart 3 = .ok (.istore_n 3, 1) := by decide +kernel
theorem dX2_fittingPart_4 : decode cX2_fittingPart 4 = .ok (.iload_n 3, 1) := by decide +kernel
theorem dX2_fittingPart_5 : decode cX2_fittingPart 5 = .ok (.aload_n 0, 1) := by decide +kernel
theorem dX2_fittingPart_6 : decode cX2_fittingPart 6 = .ok (.getfield 32, 3) := by decide +kernel
theorem dX2_fittingPart_9 : decode cX2_fittingPart 9 = .ok (.getfield 40, 3) := by decide +kernel
theorem dX2_fittingPart_12 : decode cX2_fittingPart 12 = .ok (.if_icmp .ge 28, 3) := by decide +kernel
theorem dX2_fittingPart_15 : decode cX2_fittingPart 15 = .ok (.aload_n 0, 1) := by decide +kernel
theorem dX2_fittingPart_16 : decode cX2_fittingPart 16 = .ok (.getfield 32, 3) := by decide +kernel
theorem dX2_fittingPart_19 : decode cX2_fittingPart 19 = .ok (.iload_n 3, 1) := by decide +kernel
theorem dX2_fittingPart_20 : decode cX2_fittingPart 20 = .ok (.aload_n 0, 1) := by decide +kernel
theorem dX2_fittingPart_21 : decode cX2_fittingPart 21 = .ok (.getfield 28, 3) := by decide +kernel
theorem dX2_fittingPart_24 : decode cX2_fittingPart 24 = .ok (.iload_n 1, 1) := by decide +kernel
theorem dX2_fittingPart_25 : decode cX2_fittingPart 25 = .ok (.invokevirtual 46, 3) := by decide +kernel
theorem dX2_fittingPart_28 : decode cX2_fittingPart 28 = .ok (.ifCond .eq 6, 3) := by decide +kernel
theorem dX2_fittingPart_31 : decode cX2_fittingPart 31 = .ok (.iinc 2 1, 3) := by decide +kernel
theorem dX2_fittingPart_34 : decode cX2_fittingPart 34 = .ok (.iinc 3 1, 3) := by decide +kernel
theorem dX2_fittingPart_37 : decode cX2_fittingPart 37 = .ok (.goto (-33), 3) := by decide +kernel
theorem dX2_fittingPart_40 : decode cX2_fittingPart 40 = .ok (.iload_n 2, 1) := by decide +kernel
theorem dX2_fittingPart_41 : decode cX2_fittingPart 41 = .ok (.ireturn, 1) := by decide +kernel
set_option maxRecDepth 20000 in
theorem ggX2_howManyReadings_J7_fill_d0a16 : GoodIn wsX2_howManyReadings wsJ7_fill_d0a16 := goodIn_r _ [12] (by decide +kernel) (by decide +kernel)
set_option maxRecDepth 20000 in
theorem gX2_howManyReadings_J7_fill_d0a16 : GoodIn wsX2_howManyReadings (va_wsS RX2 50 yJ7_fill_d0a16 wsJ7_fill_d0a16) := goodIn_app (goodIn_of _ (by decide +kernel)) ggX2_howManyReadings_J7_fill_d0a16
set_option maxRecDepth 20000 in
theorem ggX2_howManyReadings_X2_readPart : GoodIn wsX2_howManyReadings wsX2_readPart := goodIn_r _ [17, 18, 19, 20, 2, 21, 1, 4, 5, 6, 7, 8, 9, 10, 11, 12, 22, 23, 24, 25, 26, 27, 28, 29, 30, 31, 32, 33, 34, 16, 35, 36, 37, 38, 39, 40, 41, 42, 43, 44, 45, 46, 47, 48, 49, 50, 51, 52, 58, 59, 60, 61, 62, 63, 53, 54, 55, 56, 57] (by decide +kernel) (by decide +kernel)
set_option maxRecDepth 20000 in
theorem gX2_howManyReadings_X2_readPart : GoodIn wsX2_howManyReadings (wsV RX2 61 RX2 yX2_readPart wsX2_readPart) := goodIn_app (goodIn_of _ (by decide +kernel)) ggX2_howManyReadings_X2_readPart
theorem dX2_howManyReadings_0 : decode cX2_howManyReadings 0 = .ok (.aload_n 0, 1) := by decide +kernel
theorem dX2_howManyReadings_1 : decode cX2_howManyReadings 1 = .ok (.getfield 15, 3) := by decide +kernel
theorem dX2_howManyReadings_4 : decode cX2_howManyReadings 4 = .ok (.lconst 0, 1) := by decide +kernel
theorem dX2_howManyReadings_5 : decode cX2_howManyReadings 5 = .ok (.invokestatic 50, 3) := by decide +kernel
theorem dX2_howManyReadings_8 : decode cX2_howManyReadings 8 = .ok (.aload_n 0, 1) := by decide +kernel
theorem dX2_howManyReadings_9 : decode cX2_howManyReadings 9 = .ok (.getfield 15, 3) := by decide +kernel
theorem dX2_howManyReadings_12 : decode cX2_howManyReadings 12 = .ok (.iconst 3, 1) := by decide +kernel
theorem dX2_howManyReadings_13 : decode cX2_howManyReadings 13 = .ok (.lconst 1, 1) := by decide +kernel
theorem dX2_howManyReadings_14 : decode cX2_howManyReadings 14 = .ok (.lastore, 1) := by decide +kernel
theorem dX2_howManyReadings_15 : decode cX2_howManyReadings 15 = .ok (.iconst 0, 1) := by decide +kernel
theorem dX2_howManyReadings_16 : decode cX2_howManyReadings 16 = .ok (.istore_n 1, 1) := by decide +kernel
theorem dX2_howManyReadings_17 : decode cX2_howManyReadings 17 = .ok (.iload_n 1, 1) := by decide +kernel
theorem dX2_howManyReadings_18 : decode cX2_howManyReadings 18 = .ok (.aload_n 0, 1) := by decide +kernel
theorem dX2_howManyReadings_19 : decode cX2_howManyReadings 19 = .ok (.getfield 28, 3) := by decide +kernel
theorem dX2_howManyReadings_22 : decode cX2_howManyReadings 22 = .ok (.getfield 56, 3) := by decide +kernel
theorem dX2_howManyReadings_25 : decode cX2_howManyReadings 25 = .ok (.if_icmp .ge 14, 3) := by decide +kernel
theorem dX2_howManyReadings_28 : decode cX2_howManyReadings 28 = .ok (.aload_n 0, 1) := by decide +kernel
theorem dX2_howManyReadings_29 : decode cX2_howManyReadings 29 = .ok (.iload_n 1, 1) := by decide +kernel
theorem dX2_howManyReadings_30 : decode cX2_howManyReadings 30 = .ok (.invokevirtual 61, 3) := by decide +kernel
theorem dX2_howManyReadings_33 : decode cX2_howManyReadings 33 = .ok (.iinc 1 1, 3) := by decide +kernel
theorem dX2_howManyReadings_36 : decode cX2_howManyReadings 36 = .ok (.goto (-19), 3) := by decide +kernel
theorem dX2_howManyReadings_39 : decode cX2_howManyReadings 39 = .ok (.lconst 0, 1) := by decide +kernel
theorem dX2_howManyReadings_40 : decode cX2_howManyReadings 40 = .ok (.lstore_n 1, 1) := by decide +kernel
theorem dX2_howManyReadings_41 : decode cX2_howManyReadings 41 = .ok (.aload_n 0, 1) := by decide +kernel
theorem dX2_howManyReadings_42 : decode cX2_howManyReadings 42 = .ok (.getfield 15, 3) := by decide +kernel
theorem dX2_howManyReadings_45 : decode cX2_howManyReadings 45 = .ok (.astore_n 3, 1) := by decide +kernel
theorem dX2_howManyReadings_46 : decode cX2_howManyReadings 46 = .ok (.aload_n 3, 1) := by decide +kernel
theorem dX2_howManyReadings_47 : decode cX2_howManyReadings 47 = .ok (.arraylength, 1) := by decide +kernel
theorem dX2_howManyReadings_48 : decode cX2_howManyReadings 48 = .ok (.istore 4, 2) := by decide +kernel
theorem dX2_howManyReadings_50 : decode cX2_howManyReadings 50 = .ok (.iconst 0, 1) := by decide +kernel
theorem dX2_howManyReadings_51 : decode cX2_howManyReadings 51 = .ok (.istore 5, 2) := by decide +kernel
theorem dX2_howManyReadings_53 : decode cX2_howManyReadings 53 = .ok (.iload 5, 2) := by decide +kernel
theorem dX2_howManyReadings_55 : decode cX2_howManyReadings 55 = .ok (.iload 4, 2) := by decide +kernel
theorem dX2_howManyReadings_57 : decode cX2_howManyReadings 57 = .ok (.if_icmp .ge 20, 3) := by decide +kernel
theorem dX2_howManyReadings_60 : decode cX2_howManyReadings 60 = .ok (.aload_n 3, 1) := by decide +kernel
theorem dX2_howManyReadings_61 : decode cX2_howManyReadings 61 = .ok (.iload 5, 2) := by decide +kernel
theorem dX2_howManyReadings_63 : decode cX2_howManyReadings 63 = .ok (.laload, 1) := by decide +kernel
theorem dX2_howManyReadings_64 : decode cX2_howManyReadings 64 = .ok (.lstore 6, 2) := by decide +kernel
theorem dX2_howManyReadings_66 : decode cX2_howManyReadings 66 = .ok (.lload_n 1, 1) := by decide +kernel
theorem dX2_howManyReadings_67 : decode cX2_howManyReadings 67 = .ok (.lload 6, 2) := by decide +kernel
theorem dX2_howManyReadings_69 : decode cX2_howManyReadings 69 = .ok (.ladd, 1) := by decide +kernel
theorem dX2_howManyReadings_70 : decode cX2_howManyReadings 70 = .ok (.lstore_n 1, 1) := by decide +kernel
theorem dX2_howManyReadings_71 : decode cX2_howManyReadings 71 = .ok (.iinc 5 1, 3) := by decide +kernel
theorem dX2_howManyReadings_74 : decode cX2_howManyReadings 74 = .ok (.goto (-21), 3) := by decide +kernel
theorem dX2_howManyReadings_77 : decode cX2_howManyReadings 77 = .ok (.lload_n 1, 1) := by decide +kernel
theorem dX2_howManyReadings_78 : decode cX2_howManyReadings 78 = .ok (.ldc2_w 65, 3) := by decide +kernel
theorem dX2_howManyReadings_81 : decode cX2_howManyReadings 81 = .ok (.invokestatic 67, 3) := by decide +kernel
theorem dX2_howManyReadings_84 : decode cX2_howManyReadings 84 = .ok (.l2i, 1) := by decide +kernel
theorem dX2_howManyReadings_85 : decode cX2_howManyReadings 85 = .ok (.ireturn, 1) := by decide +kernel
set_option maxRecDepth 20000 in
theorem ggX2_readPart_J7_fill_d0a16 : GoodIn wsX2_readPart wsJ7_fill_d0a16 := goodIn_r _ [15] (by decide +kernel) (by decide +kernel)
set_option maxRecDepth 20000 in
theorem gX2_readPart_J7_fill_d0a16 : GoodIn wsX2_readPart (va_wsS RX2 50 yJ7_fill_d0a16 wsJ7_fill_d0a16) := goodIn_app (goodIn_of _ (by decide +kernel)) ggX2_readPart_J7_fill_d0a16
set_option maxRecDepth 20000 in
theorem ggX2_readPart_X4_fitsPart : GoodIn wsX2_readPart wsX4_fitsPart := goodIn_r _ [20, 21, 22, 23, 24, 25, 54, 55, 56, 57, 58, 48, 49, 50, 51, 52, 53] (by decide +kernel) (by decide +kernel)
set_option maxRecDepth 20000 in
theorem gX2_readPart_X4_fitsPart : GoodIn wsX2_readPart (wsV RX2 46 RX4 yX4_fitsPart wsX4_fitsPart) := goodIn_app (goodIn_of _ (by decide +kernel)) ggX2_readPart_X4_fitsPart
set_option maxRecDepth 20000 in
theorem ggX2_readPart_X2_waysTo : GoodIn wsX2_readPart wsX2_waysTo := goodIn_r _ [30, 2, 6, 31, 32, 33, 19, 34, 35, 36, 37, 38, 39, 40, 41, 42, 43, 44, 45, 46, 47, 48, 49, 50, 51, 52, 53] (by decide +kernel) (by decide +kernel)
set_option maxRecDepth 20000 in
theorem gX2_readPart_X2_waysTo : GoodIn wsX2_readPart (wsV RX2 76 RX2 yX2_waysTo wsX2_waysTo) := goodIn_app (goodIn_of _ (by decide +kernel)) ggX2_readPart_X2_waysTo
theorem dX2_readPart_0 : decode cX2_readPart 0 = .ok (.aload_n 0, 1) := by decide +kernel
theorem dX2_readPart_1 : decode cX2_readPart 1 = .ok (.getfield 19, 3) := by decide +kernel
theorem dX2_readPart_4 : decode cX2_readPart 4 = .ok (.lconst 0, 1) := by decide +kernel
theorem dX2_readPart_5 : decode cX2_readPart 5 = .ok (.invokestatic 50, 3) := by decide +kernel
theorem dX2_readPart_8 : decode cX2_readPart 8 = .ok (.iconst 0, 1) := by decide +kernel
theorem dX2_readPart_9 : decode cX2_readPart 9 = .ok (.istore_n 2, 1) := by decide +kernel
theorem dX2_readPart_10 : decode cX2_readPart 10 = .ok (.iload_n 2, 1) := by decide +kernel
theorem dX2_readPart_11 : decode cX2_readPart 11 = .ok (.aload_n 0, 1) := by decide +kernel
theorem dX2_readPart_12 : decode cX2_readPart 12 = .ok (.getfield 32, 3) := by decide +kernel
theorem dX2_readPart_15 : decode cX2_readPart 15 = .ok (.getfield 40, 3) := by decide +kernel
theorem dX2_readPart_18 : decode cX2_readPart 18 = .ok (.if_icmp .ge 47, 3) := by decide +kernel
theorem dX2_readPart_21 : decode cX2_readPart 21 = .ok (.aload_n 0, 1) := by decide +kernel
theorem dX2_readPart_22 : decode cX2_readPart 22 = .ok (.getfield 32, 3) := by decide +kernel
theorem dX2_readPart_25 : decode cX2_readPart 25 = .ok (.iload_n 2, 1) := by decide +kernel
theorem dX2_readPart_26 : decode cX2_readPart 26 = .ok (.aload_n 0, 1) := by decide +kernel
theorem dX2_readPart_27 : decode cX2_readPart 27 = .ok (.getfield 28, 3) := by decide +kernel
theorem dX2_readPart_30 : decode cX2_readPart 30 = .ok (.iload_n 1, 1) := by decide +kernel
theorem dX2_readPart_31 : decode cX2_readPart 31 = .ok (.invokevirtual 46, 3) := by decide +kernel
theorem dX2_readPart_34 : decode cX2_readPart 34 = .ok (.ifCond .eq 25, 3) := by decide +kernel
theorem dX2_readPart_37 : decode cX2_readPart 37 = .ok (.aload_n 0, 1) := by decide +kernel
theorem dX2_readPart_38 : decode cX2_readPart 38 = .ok (.getfield 19, 3) := by decide +kernel
theorem dX2_readPart_41 : decode cX2_readPart 41 = .ok (.aload_n 0, 1) := by decide +kernel
theorem dX2_readPart_42 : decode cX2_readPart 42 = .ok (.getfield 32, 3) := by decide +kernel
theorem dX2_readPart_45 : decode cX2_readPart 45 = .ok (.getfield 73, 3) := by decide +kernel
theorem dX2_readPart_48 : decode cX2_readPart 48 = .ok (.iload_n 2, 1) := by decide +kernel
theorem dX2_readPart_49 : decode cX2_readPart 49 = .ok (.iaload, 1) := by decide +kernel
theorem dX2_readPart_50 : decode cX2_readPart 50 = .ok (.dup2, 1) := by decide +kernel
theorem dX2_readPart_51 : decode cX2_readPart 51 = .ok (.laload, 1) := by decide +kernel
theorem dX2_readPart_52 : decode cX2_readPart 52 = .ok (.aload_n 0, 1) := by decide +kernel
theorem dX2_readPart_53 : decode cX2_readPart 53 = .ok (.iload_n 2, 1) := by decide +kernel
theorem dX2_readPart_54 : decode cX2_readPart 54 = .ok (.invokevirtual 76, 3) := by decide +kernel
theorem dX2_readPart_57 : decode cX2_readPart 57 = .ok (.ladd, 1) := by decide +kernel
theorem dX2_readPart_58 : decode cX2_readPart 58 = .ok (.lastore, 1) := by decide +kernel
theorem dX2_readPart_59 : decode cX2_readPart 59 = .ok (.iinc 2 1, 3) := by decide +kernel
theorem dX2_readPart_62 : decode cX2_readPart 62 = .ok (.goto (-52), 3) := by decide +kernel
theorem dX2_readPart_65 : decode cX2_readPart 65 = .ok (.iconst 0, 1) := by decide +kernel
theorem dX2_readPart_66 : decode cX2_readPart 66 = .ok (.istore_n 2, 1) := by decide +kernel
theorem dX2_readPart_67 : decode cX2_readPart 67 = .ok (.iload_n 2, 1) := by decide +kernel
theorem dX2_readPart_68 : decode cX2_readPart 68 = .ok (.iconst 4, 1) := by decide +kernel
theorem dX2_readPart_69 : decode cX2_readPart 69 = .ok (.if_icmp .ge 27, 3) := by decide +kernel
theorem dX2_readPart_72 : decode cX2_readPart 72 = .ok (.aload_n 0, 1) := by decide +kernel
theorem dX2_readPart_73 : decode cX2_readPart 73 = .ok (.getfield 15, 3) := by decide +kernel
theorem dX2_readPart_76 : decode cX2_readPart 76 = .ok (.iload_n 2, 1) := by decide +kernel
theorem dX2_readPart_77 : decode cX2_readPart 77 = .ok (.aload_n 0, 1) := by decide +kernel
theorem dX2_readPart_78 : decode cX2_readPart 78 = .ok (.getfield 19, 3) := by decide +kernel
theorem dX2_readPart_81 : decode cX2_readPart 81 = .ok (.iload_n 2, 1) := by decide +kernel
theorem dX2_readPart_82 : decode cX2_readPart 82 = .ok (.laload, 1) := by decide +kernel
theorem dX2_readPart_83 : decode cX2_readPart 83 = .ok (.ldc2_w 65, 3) := by decide +kernel
theorem dX2_readPart_86 : decode cX2_readPart 86 = .ok (.invokestatic 67, 3) := by decide +kernel
theorem dX2_readPart_89 : decode cX2_readPart 89 = .ok (.lastore, 1) := by decide +kernel
theorem dX2_readPart_90 : decode cX2_readPart 90 = .ok (.iinc 2 1, 3) := by decide +kernel
theorem dX2_readPart_93 : decode cX2_readPart 93 = .ok (.goto (-26), 3) := by decide +kernel
theorem dX2_readPart_96 : decode cX2_readPart 96 = .ok (.return_, 1) := by decide +kernel
set_option maxRecDepth 20000 in
theorem ggX2_waysTo_X4_mayCome : GoodIn wsX2_waysTo wsX4_mayCome := goodIn_r _ [7, 8, 9, 21, 22, 23, 24, 25, 26] (by decide +kernel) (by decide +kernel)
set_option maxRecDepth 20000 in
theorem gX2_waysTo_X4_mayCome : GoodIn wsX2_waysTo (wsV RX2 80 RX4 yX4_mayCome wsX4_mayCome) := goodIn_app (goodIn_of _ (by decide +kernel)) ggX2_waysTo_X4_mayCome
theorem dX2_waysTo_0 : decode cX2_waysTo 0 = .ok (.lconst 0, 1) := by decide +kernel
theorem dX2_waysTo_1 : decode cX2_waysTo 1 = .ok (.lstore_n 2, 1) := by decide +kernel
theorem dX2_waysTo_2 : decode cX2_waysTo 2 = .ok (.iconst 0, 1) := by decide +kernel
theorem dX2_waysTo_3 : decode cX2_waysTo 3 = .ok (.istore 4, 2) := by decide +kernel
theorem dX2_waysTo_5 : decode cX2_waysTo 5 = .ok (.iload 4, 2) := by decide +kernel
theorem dX2_waysTo_7 : decode cX2_waysTo 7 = .ok (.iconst 4, 1) := by decide +kernel
theorem dX2_waysTo_8 : decode cX2_waysTo 8 = .ok (.if_icmp .ge 32, 3) := by decide +kernel
theorem dX2_waysTo_11 : decode cX2_waysTo 11 = .ok (.aload_n 0, 1) := by decide +kernel
theorem dX2_waysTo_12 : decode cX2_waysTo 12 = .ok (.getfield 32, 3) := by decide +kernel
theorem dX2_waysTo_15 : decode cX2_waysTo 15 = .ok (.iload 4, 2) := by decide +kernel
theorem dX2_waysTo_17 : decode cX2_waysTo 17 = .ok (.iload_n 1, 1) := by decide +kernel
theorem dX2_waysTo_18 : decode cX2_waysTo 18 = .ok (.invokevirtual 80, 3) := by decide +kernel
theorem dX2_waysTo_21 : decode cX2_waysTo 21 = .ok (.ifCond .eq 13, 3) := by decide +kernel
theorem dX2_waysTo_24 : decode cX2_waysTo 24 = .ok (.lload_n 2, 1) := by decide +kernel
theorem dX2_waysTo_25 : decode cX2_waysTo 25 = .ok (.aload_n 0, 1) := by decide +kernel
theorem dX2_waysTo_26 : decode cX2_waysTo 26 = .ok (.getfield 15, 3) := by decide +kernel
theorem dX2_waysTo_29 : decode cX2_waysTo 29 = .ok (.iload 4, 2) := by decide +kernel
theorem dX2_waysTo_31 : decode cX2_waysTo 31 = .ok (.laload, 1) := by decide +kernel
theorem dX2_waysTo_32 : decode cX2_waysTo 32 = .ok (.ladd, 1) := by decide +kernel
theorem dX2_waysTo_33 : decode cX2_waysTo 33 = .ok (.lstore_n 2, 1) := by decide +kernel
theorem dX2_waysTo_34 : decode cX2_waysTo 34 = .ok (.iinc 4 1, 3) := by decide +kernel
theorem dX2_waysTo_37 : decode cX2_waysTo 37 = .ok (.goto (-32), 3) := by decide +kernel
theorem dX2_waysTo_40 : decode cX2_waysTo 40 = .ok (.lload_n 2, 1) := by decide +kernel
theorem dX2_waysTo_41 : decode cX2_waysTo 41 = .ok (.lreturn, 1) := by decide +kernel
set_option maxRecDepth 20000 in
theorem ggX2_findYears_X4_putSums : GoodIn wsX2_findYears wsX4_putSums := goodIn_r _ [14, 15, 16, 17, 18, 19, 20, 21, 22, 23, 24, 25, 26, 27, 28, 29, 30, 31, 32, 33, 91, 92, 93, 94, 95, 96, 97] (by decide +kernel) (by decide +kernel)
set_option maxRecDepth 20000 in
theorem gX2_findYears_X4_putSums : GoodIn wsX2_findYears (wsV RX2 84 RX4 yX4_putSums wsX4_putSums) := goodIn_app (goodIn_of _ (by decide +kernel)) ggX2_findYears_X4_putSums
set_option maxRecDepth 20000 in
theorem ggX2_findYears_J7_fill_d0a16 : GoodIn wsX2_findYears wsJ7_fill_d0a16 := goodIn_r _ [37] (by decide +kernel) (by decide +kernel)
set_option maxRecDepth 20000 in
theorem gX2_findYears_J7_fill_d0a16 : GoodIn wsX2_findYears (va_wsS RX2 50 yJ7_fill_d0a16 wsJ7_fill_d0a16) := goodIn_app (goodIn_of _ (by decide +kernel)) ggX2_findYears_J7_fill_d0a16
set_option maxRecDepth 20000 in
theorem ggX2_findYears_X2_reachOverPart : GoodIn wsX2_findYears wsX2_reachOverPart := goodIn_r _ [42, 43, 1, 44, 5, 4, 45, 46, 47, 48, 34, 35, 36, 37, 49, 50, 51, 13, 52, 53, 54, 17, 55, 16, 56, 57, 58, 41, 59, 60, 2, 61, 62, 63, 64, 65, 66, 67, 68, 69, 70, 75, 76, 77, 78, 79, 80, 81, 82, 83, 84, 85, 91, 92, 93, 94, 95, 96, 86, 87, 88, 89, 90] (by decide +kernel) (by decide +kernel)
set_option maxRecDepth 20000 in
theorem gX2_findYears_X2_reachOverPart : GoodIn wsX2_findYears (wsV RX2 88 RX2 yX2_reachOverPart wsX2_reachOverPart) := goodIn_app (goodIn_of _ (by decide +kernel)) ggX2_findYears_X2_reachOverPart
set_option maxRecDepth 20000 in
theorem ggX2_findYears_X2_takeYears : GoodIn wsX2_findYears wsX2_takeYears := goodIn_r _ [74, 4, 7, 8, 9, 75, 76, 77, 78, 79, 80, 81, 82, 83, 84, 85] (by decide +kernel) (by decide +kernel)
set_option maxRecDepth 20000 in
theorem gX2_findYears_X2_takeYears : GoodIn wsX2_findYears (wsV RX2 100 RX2 yX2_takeYears wsX2_takeYears) := goodIn_app (goodIn_of _ (by decide +kernel)) ggX2_findYears_X2_takeYears
theorem dX2_findYears_0 : decode cX2_findYears 0 = .ok (.aload_n 0, 1) := by decide +kernel
theorem dX2_findYears_1 : decode cX2_findYears 1 = .ok (.getfield 32, 3) := by decide +kernel
theorem dX2_findYears_4 : decode cX2_findYears 4 = .ok (.aload_n 0, 1) := by decide +kernel
theorem dX2_findYears_5 : decode cX2_findYears 5 = .ok (.getfield 11, 3) := by decide +kernel
theorem dX2_findYears_8 : decode cX2_findYears 8 = .ok (.aload_n 0, 1) := by decide +kernel
theorem dX2_findYears_9 : decode cX2_findYears 9 = .ok (.getfield 36, 3) := by decide +kernel
theorem dX2_findYears_12 : decode cX2_findYears 12 = .ok (.iload_n 1, 1) := by decide +kernel
theorem dX2_findYears_13 : decode cX2_findYears 13 = .ok (.iload_n 2, 1) := by decide +kernel
theorem dX2_findYears_14 : decode cX2_findYears 14 = .ok (.invokevirtual 84, 3) := by decide +kernel
theorem dX2_findYears_17 : decode cX2_findYears 17 = .ok (.aload_n 0, 1) := by decide +kernel
theorem dX2_findYears_18 : decode cX2_findYears 18 = .ok (.getfield 22, 3) := by decide +kernel
theorem dX2_findYears_21 : decode cX2_findYears 21 = .ok (.lconst 0, 1) := by decide +kernel
theorem dX2_findYears_22 : decode cX2_findYears 22 = .ok (.invokestatic 50, 3) := by decide +kernel
theorem dX2_findYears_25 : decode cX2_findYears 25 = .ok (.aload_n 0, 1) := by decide +kernel
theorem dX2_findYears_26 : decode cX2_findYears 26 = .ok (.getfield 22, 3) := by decide +kernel
theorem dX2_findYears_29 : decode cX2_findYears 29 = .ok (.sipush 141, 3) := by decide +kernel
theorem dX2_findYears_32 : decode cX2_findYears 32 = .ok (.lconst 1, 1) := by decide +kernel
theorem dX2_findYears_33 : decode cX2_findYears 33 = .ok (.lastore, 1) := by decide +kernel
theorem dX2_findYears_34 : decode cX2_findYears 34 = .ok (.iconst 0, 1) := by decide +kernel
theorem dX2_findYears_35 : decode cX2_findYears 35 = .ok (.istore_n 3, 1) := by decide +kernel
theorem dX2_findYears_36 : decode cX2_findYears 36 = .ok (.iload_n 3, 1) := by decide +kernel
theorem dX2_findYears_37 : decode cX2_findYears 37 = .ok (.aload_n 0, 1) := by decide +kernel
theorem dX2_findYears_38 : decode cX2_findYears 38 = .ok (.getfield 28, 3) := by decide +kernel
theorem dX2_findYears_41 : decode cX2_findYears 41 = .ok (.getfield 56, 3) := by decide +kernel
theorem dX2_findYears_44 : decode cX2_findYears 44 = .ok (.if_icmp .ge 14, 3) := by decide +kernel
theorem dX2_findYears_47 : decode cX2_findYears 47 = .ok (.aload_n 0, 1) := by decide +kernel
theorem dX2_findYears_48 : decode cX2_findYears 48 = .ok (.iload_n 3, 1) := by decide +kernel
theorem dX2_findYears_49 : decode cX2_findYears 49 = .ok (.invokevirtual 88, 3) := by decide +kernel
theorem dX2_findYears_52 : decode cX2_findYears 52 = .ok (.iinc 3 1, 3) := by decide +kernel
theorem dX2_findYears_55 : decode cX2_findYears 55 = .ok (.goto (-19), 3) := by decide +kernel
theorem dX2_findYears_58 : decode cX2_findYears 58 = .ok (.aload_n 0, 1) := by decide +kernel
theorem dX2_findYears_59 : decode cX2_findYears 59 = .ok (.iconst 0, 1) := by decide +kernel
theorem dX2_findYears_60 : decode cX2_findYears 60 = .ok (.putfield 91, 3) := by decide +kernel
theorem dX2_findYears_63 : decode cX2_findYears 63 = .ok (.aload_n 0, 1) := by decide +kernel
theorem dX2_findYears_64 : decode cX2_findYears 64 = .ok (.bipush (-9), 2) := by decide +kernel
theorem dX2_findYears_66 : decode cX2_findYears 66 = .ok (.putfield 94, 3) := by decide +kernel
theorem dX2_findYears_69 : decode cX2_findYears 69 = .ok (.aload_n 0, 1) := by decide +kernel
theorem dX2_findYears_70 : decode cX2_findYears 70 = .ok (.bipush (-9), 2) := by decide +kernel
theorem dX2_findYears_72 : decode cX2_findYears 72 = .ok (.putfield 97, 3) := by decide +kernel
theorem dX2_findYears_75 : decode cX2_findYears 75 = .ok (.iconst 0, 1) := by decide +kernel
theorem dX2_findYears_76 : decode cX2_findYears 76 = .ok (.istore_n 3, 1) := by decide +kernel
theorem dX2_findYears_77 : decode cX2_findYears 77 = .ok (.iload_n 3, 1) := by decide +kernel
theorem dX2_findYears_78 : decode cX2_findYears 78 = .ok (.bipush 47, 2) := by decide +kernel
theorem dX2_findYears_80 : decode cX2_findYears 80 = .ok (.if_icmp .ge 14, 3) := by decide +kernel
theorem dX2_findYears_83 : decode cX2_findYears 83 = .ok (.aload_n 0, 1) := by decide +kernel
theorem dX2_findYears_84 : decode cX2_findYears 84 = .ok (.iload_n 3, 1) := by decide +kernel
theorem dX2_findYears_85 : decode cX2_findYears 85 = .ok (.invokevirtual 100, 3) := by decide +kernel
theorem dX2_findYears_88 : decode cX2_findYears 88 = .ok (.iinc 3 1, 3) := by decide +kernel
theorem dX2_findYears_91 : decode cX2_findYears 91 = .ok (.goto (-14), 3) := by decide +kernel
theorem dX2_findYears_94 : decode cX2_findYears 94 = .ok (.return_, 1) := by decide +kernel
set_option maxRecDepth 20000 in
theorem ggX2_reachOverPart_J7_fill_d0a16 : GoodIn wsX2_reachOverPart wsJ7_fill_d0a16 := goodIn_r _ [13] (by decide +kernel) (by decide +kernel)
set_option maxRecDepth 20000 in
theorem gX2_reachOverPart_J7_fill_d0a16 : GoodIn wsX2_reachOverPart (va_wsS RX2 50 yJ7_fill_d0a16 wsJ7_fill_d0a16) := goodIn_app (goodIn_of _ (by decide +kernel)) ggX2_reachOverPart_J7_fill_d0a16
set_option maxRecDepth 20000 in
theorem ggX2_reachOverPart_X4_fitsPart : GoodIn wsX2_reachOverPart wsX4_fitsPart := goodIn_r _ [18, 19, 20, 21, 22, 23, 58, 59, 60, 61, 62, 52, 53, 54, 55, 56, 57] (by decide +kernel) (by decide +kernel)
set_option maxRecDepth 20000 in
theorem gX2_reachOverPart_X4_fitsPart : GoodIn wsX2_reachOverPart (wsV RX2 46 RX4 yX4_fitsPart wsX4_fitsPart) := goodIn_app (goodIn_of _ (by decide +kernel)) ggX2_reachOverPart_X4_fitsPart
set_option maxRecDepth 20000 in
theorem ggX2_reachOverPart_X2_reachWith : GoodIn wsX2_reachOverPart wsX2_reachWith := goodIn_r _ [28, 2, 29, 30, 31, 32, 33, 17, 34, 35, 36, 37, 38, 39, 27, 40, 5, 1, 41, 42, 43, 44, 45, 46, 47, 48, 49, 50, 51, 52, 53, 54, 55, 56, 57] (by decide +kernel) (by decide +kernel)
set_option maxRecDepth 20000 in
theorem gX2_reachOverPart_X2_reachWith : GoodIn wsX2_reachOverPart (wsV RX2 103 RX2 yX2_reachWith wsX2_reachWith) := goodIn_app (goodIn_of _ (by decide +kernel)) ggX2_reachOverPart_X2_reachWith
theorem dX2_reachOverPart_0 : decode cX2_reachOverPart 0 = .ok (.aload_n 0, 1) := by decide +kernel
theorem dX2_reachOverPart_1 : decode cX2_reachOverPart 1 = .ok (.getfield 25, 3) := by decide +kernel
theorem dX2_reachOverPart_4 : decode cX2_reachOverPart 4 = .ok (.lconst 0, 1) := by decide +kernel
theorem dX2_reachOverPart_5 : decode cX2_reachOverPart 5 = .ok (.invokestatic 50, 3) := by decide +kernel
theorem dX2_reachOverPart_8 : decode cX2_reachOverPart 8 = .ok (.iconst 0, 1) := by decide +kernel
theorem dX2_reachOverPart_9 : decode cX2_reachOverPart 9 = .ok (.istore_n 2, 1) := by decide +kernel
theorem dX2_reachOverPart_10 : decode cX2_reachOverPart 10 = .ok (.iload_n 2, 1) := by decide +kernel
theorem dX2_reachOverPart_11 : decode cX2_reachOverPart 11 = .ok (.aload_n 0, 1) := by decide +kernel
theorem dX2_reachOverPart_12 : decode cX2_reachOverPart 12 = .ok (.getfield 32, 3) := by decide +kernel
theorem dX2_reachOverPart_15 : decode cX2_reachOverPart 15 = .ok (.getfield 40, 3) := by decide +kernel
theorem dX2_reachOverPart_18 : decode cX2_reachOverPart 18 = .ok (.if_icmp .ge 30, 3) := by decide +kernel
theorem dX2_reachOverPart_21 : decode cX2_reachOverPart 21 = .ok (.aload_n 0, 1) := by decide +kernel
theorem dX2_reachOverPart_22 : decode cX2_reachOverPart 22 = .ok (.getfield 32, 3) := by decide +kernel
theorem dX2_reachOverPart_25 : decode cX2_reachOverPart 25 = .ok (.iload_n 2, 1) := by decide +kernel
theorem dX2_reachOverPart_26 : decode cX2_reachOverPart 26 = .ok (.aload_n 0, 1) := by decide +kernel
theorem dX2_reachOverPart_27 : decode cX2_reachOverPart 27 = .ok (.getfield 28, 3) := by decide +kernel
theorem dX2_reachOverPart_30 : decode cX2_reachOverPart 30 = .ok (.iload_n 1, 1) := by decide +kernel
theorem dX2_reachOverPart_31 : decode cX2_reachOverPart 31 = .ok (.invokevirtual 46, 3) := by decide +kernel
theorem dX2_reachOverPart_34 : decode cX2_reachOverPart 34 = .ok (.ifCond .eq 8, 3) := by decide +kernel
theorem dX2_reachOverPart_37 : decode cX2_reachOverPart 37 = .ok (.aload_n 0, 1) := by decide +kernel
theorem dX2_reachOverPart_38 : decode cX2_reachOverPart 38 = .ok (.iload_n 2, 1) := by decide +kernel
theorem dX2_reachOverPart_39 : decode cX2_reachOverPart 39 = .ok (.invokevirtual 103, 3) := by decide +kernel
theorem dX2_reachOverPart_42 : decode cX2_reachOverPart 42 = .ok (.iinc 2 1, 3) := by decide +kernel
theorem dX2_reachOverPart_45 : decode cX2_reachOverPart 45 = .ok (.goto (-35), 3) := by decide +kernel
theorem dX2_reachOverPart_48 : decode cX2_reachOverPart 48 = .ok (.aload_n 0, 1) := by decide +kernel
theorem dX2_reachOverPart_49 : decode cX2_reachOverPart 49 = .ok (.getfield 25, 3) := by decide +kernel
theorem dX2_reachOverPart_52 : decode cX2_reachOverPart 52 = .ok (.iconst 0, 1) := by decide +kernel
theorem dX2_reachOverPart_53 : decode cX2_reachOverPart 53 = .ok (.aload_n 0, 1) := by decide +kernel
theorem dX2_reachOverPart_54 : decode cX2_reachOverPart 54 = .ok (.getfield 22, 3) := by decide +kernel
theorem dX2_reachOverPart_57 : decode cX2_reachOverPart 57 = .ok (.iconst 0, 1) := by decide +kernel
theorem dX2_reachOverPart_58 : decode cX2_reachOverPart 58 = .ok (.aload_n 0, 1) := by decide +kernel
theorem dX2_reachOverPart_59 : decode cX2_reachOverPart 59 = .ok (.getfield 22, 3) := by decide +kernel
theorem dX2_reachOverPart_62 : decode cX2_reachOverPart 62 = .ok (.arraylength, 1) := by decide +kernel
theorem dX2_reachOverPart_63 : decode cX2_reachOverPart 63 = .ok (.invokestatic 106, 3) := by decide +kernel
theorem dX2_reachOverPart_66 : decode cX2_reachOverPart 66 = .ok (.return_, 1) := by decide +kernel
set_option maxRecDepth 20000 in
theorem ggX2_reachWith_X4_mayCome : GoodIn wsX2_reachWith wsX4_mayCome := goodIn_r _ [8, 9, 10, 29, 30, 31, 32, 33, 34] (by decide +kernel) (by decide +kernel)
set_option maxRecDepth 20000 in
theorem gX2_reachWith_X4_mayCome : GoodIn wsX2_reachWith (wsV RX2 80 RX4 yX4_mayCome wsX4_mayCome) := goodIn_app (goodIn_of _ (by decide +kernel)) ggX2_reachWith_X4_mayCome
set_option maxRecDepth 20000 in
theorem ggX2_reachWith_X2_addShifted : GoodIn wsX2_reachWith wsX2_addShifted := goodIn_r _ [15, 16, 17, 18, 19, 20, 21, 22, 23, 24, 25, 26, 27, 28] (by decide +kernel) (by decide +kernel)
set_option maxRecDepth 20000 in
theorem gX2_reachWith_X2_addShifted : GoodIn wsX2_reachWith (wsV RX2 112 RX2 yX2_addShifted wsX2_addShifted) := goodIn_app (goodIn_of _ (by decide +kernel)) ggX2_reachWith_X2_addShifted
theorem dX2_reachWith_0 : decode cX2_reachWith 0 = .ok (.iconst 0, 1) := by decide +kernel
theorem dX2_reachWith_1 : decode cX2_reachWith 1 = .ok (.istore_n 2, 1) := by decide +kernel
theorem dX2_reachWith_2 : decode cX2_reachWith 2 = .ok (.iload_n 2, 1) := by decide +kernel
theorem dX2_reachWith_3 : decode cX2_reachWith 3 = .ok (.iconst 4, 1) := by decide +kernel
theorem dX2_reachWith_4 : decode cX2_reachWith 4 = .ok (.if_icmp .ge 47, 3) := by decide +kernel
theorem dX2_reachWith_7 : decode cX2_reachWith 7 = .ok (.aload_n 0, 1) := by decide +kernel
theorem dX2_reachWith_8 : decode cX2_reachWith 8 = .ok (.getfield 32, 3) := by decide +kernel
theorem dX2_reachWith_11 : decode cX2_reachWith 11 = .ok (.iload_n 2, 1) := by decide +kernel
theorem dX2_reachWith_12 : decode cX2_reachWith 12 = .ok (.iload_n 1, 1) := by decide +kernel
theorem dX2_reachWith_13 : decode cX2_reachWith 13 = .ok (.invokevirtual 80, 3) := by decide +kernel
theorem dX2_reachWith_16 : decode cX2_reachWith 16 = .ok (.ifCond .eq 29, 3) := by decide +kernel
theorem dX2_reachWith_19 : decode cX2_reachWith 19 = .ok (.aload_n 0, 1) := by decide +kernel
theorem dX2_reachWith_20 : decode cX2_reachWith 20 = .ok (.iload_n 2, 1) := by decide +kernel
theorem dX2_reachWith_21 : decode cX2_reachWith 21 = .ok (.bipush 47, 2) := by decide +kernel
theorem dX2_reachWith_23 : decode cX2_reachWith 23 = .ok (.imul, 1) := by decide +kernel
theorem dX2_reachWith_24 : decode cX2_reachWith 24 = .ok (.aload_n 0, 1) := by decide +kernel
theorem dX2_reachWith_25 : decode cX2_reachWith 25 = .ok (.getfield 32, 3) := by decide +kernel
theorem dX2_reachWith_28 : decode cX2_reachWith 28 = .ok (.getfield 73, 3) := by decide +kernel
theorem dX2_reachWith_31 : decode cX2_reachWith 31 = .ok (.iload_n 1, 1) := by decide +kernel
theorem dX2_reachWith_32 : decode cX2_reachWith 32 = .ok (.iaload, 1) := by decide +kernel
theorem dX2_reachWith_33 : decode cX2_reachWith 33 = .ok (.bipush 47, 2) := by decide +kernel
theorem dX2_reachWith_35 : decode cX2_reachWith 35 = .ok (.imul, 1) := by decide +kernel
theorem dX2_reachWith_36 : decode cX2_reachWith 36 = .ok (.aload_n 0, 1) := by decide +kernel
theorem dX2_reachWith_37 : decode cX2_reachWith 37 = .ok (.getfield 11, 3) := by decide +kernel
theorem dX2_reachWith_40 : decode cX2_reachWith 40 = .ok (.iload_n 1, 1) := by decide +kernel
theorem dX2_reachWith_41 : decode cX2_reachWith 41 = .ok (.iaload, 1) := by decide +kernel
theorem dX2_reachWith_42 : decode cX2_reachWith 42 = .ok (.invokevirtual 112, 3) := by decide +kernel
theorem dX2_reachWith_45 : decode cX2_reachWith 45 = .ok (.iinc 2 1, 3) := by decide +kernel
theorem dX2_reachWith_48 : decode cX2_reachWith 48 = .ok (.goto (-46), 3) := by decide +kernel
theorem dX2_reachWith_51 : decode cX2_reachWith 51 = .ok (.return_, 1) := by decide +kernel
theorem dX2_addShifted_0 : decode cX2_addShifted 0 = .ok (.iload_n 3, 1) := by decide +kernel
theorem dX2_addShifted_1 : decode cX2_addShifted 1 = .ok (.bipush 64, 2) := by decide +kernel
theorem dX2_addShifted_3 : decode cX2_addShifted 3 = .ok (.idiv, 1) := by decide +kernel
theorem dX2_addShifted_4 : decode cX2_addShifted 4 = .ok (.istore 4, 2) := by decide +kernel
theorem dX2_addShifted_6 : decode cX2_addShifted 6 = .ok (.iload_n 3, 1) := by decide +kernel
theorem dX2_addShifted_7 : decode cX2_addShifted 7 = .ok (.bipush 64, 2) := by decide +kernel
theorem dX2_addShifted_9 : decode cX2_addShifted 9 = .ok (.irem, 1) := by decide +kernel
theorem dX2_addShifted_10 : decode cX2_addShifted 10 = .ok (.istore 5, 2) := by decide +kernel
theorem dX2_addShifted_12 : decode cX2_addShifted 12 = .ok (.iload 4, 2) := by decide +kernel
theorem dX2_addShifted_14 : decode cX2_addShifted 14 = .ok (.istore 6, 2) := by decide +kernel
theorem dX2_addShifted_16 : decode cX2_addShifted 16 = .ok (.iload 6, 2) := by decide +kernel
theorem dX2_addShifted_18 : decode cX2_addShifted 18 = .ok (.bipush 47, 2) := by decide +kernel
theorem dX2_addShifted_20 : decode cX2_addShifted 20 = .ok (.if_icmp .ge 76, 3) := by decide +kernel
theorem dX2_addShifted_23 : decode cX2_addShifted 23 = .ok (.iload 6, 2) := by decide +kernel
theorem dX2_addShifted_25 : decode cX2_addShifted 25 = .ok (.iload 4, 2) := by decide +kernel
theorem dX2_addShifted_27 : decode cX2_addShifted 27 = .ok (.isub, 1) := by decide +kernel
theorem dX2_addShifted_28 : decode cX2_addShifted 28 = .ok (.istore 7, 2) := by decide +kernel
theorem dX2_addShifted_30 : decode cX2_addShifted 30 = .ok (.aload_n 0, 1) := by decide +kernel
theorem dX2_addShifted_31 : decode cX2_addShifted 31 = .ok (.getfield 22, 3) := by decide +kernel
theorem dX2_addShifted_34 : decode cX2_addShifted 34 = .ok (.iload_n 1, 1) := by decide +kernel
theorem dX2_addShifted_35 : decode cX2_addShifted 35 = .ok (.iload 7, 2) := by decide +kernel
theorem dX2_addShifted_37 : decode cX2_addShifted 37 = .ok (.iadd, 1) := by decide +kernel
theorem dX2_addShifted_38 : decode cX2_addShifted 38 = .ok (.laload, 1) := by decide +kernel
theorem dX2_addShifted_39 : decode cX2_addShifted 39 = .ok (.iload 5, 2) := by decide +kernel
theorem dX2_addShifted_41 : decode cX2_addShifted 41 = .ok (.lshl, 1) := by decide +kernel
theorem dX2_addShifted_42 : decode cX2_addShifted 42 = .ok (.lstore 8, 2) := by decide +kernel
theorem dX2_addShifted_44 : decode cX2_addShifted 44 = .ok (.iload 5, 2) := by decide +kernel
theorem dX2_addShifted_46 : decode cX2_addShifted 46 = .ok (.ifCond .le 30, 3) := by decide +kernel
theorem dX2_addShifted_49 : decode cX2_addShifted 49 = .ok (.iload 7, 2) := by decide +kernel
theorem dX2_addShifted_51 : decode cX2_addShifted 51 = .ok (.ifCond .le 25, 3) := by decide +kernel
theorem dX2_addShifted_54 : decode cX2_addShifted 54 = .ok (.lload 8, 2) := by decide +kernel
theorem dX2_addShifted_56 : decode cX2_addShifted 56 = .ok (.aload_n 0, 1) := by decide +kernel
theorem dX2_addShifted_57 : decode cX2_addShifted 57 = .ok (.getfield 22, 3) := by decide +kernel
theorem dX2_addShifted_60 : decode cX2_addShifted 60 = .ok (.iload_n 1, 1) := by decide +kernel
theorem dX2_addShifted_61 : decode cX2_addShifted 61 = .ok (.iload 7, 2) := by decide +kernel
theorem dX2_addShifted_63 : decode cX2_addShifted 63 = .ok (.iadd, 1) := by decide +kernel
theorem dX2_addShifted_64 : decode cX2_addShifted 64 = .ok (.iconst 1, 1) := by decide +kernel
theorem dX2_addShifted_65 : decode cX2_addShifted 65 = .ok (.isub, 1) := by decide +kernel
theorem dX2_addShifted_66 : decode cX2_addShifted 66 = .ok (.laload, 1) := by decide +kernel
theorem dX2_addShifted_67 : decode cX2_addShifted 67 = .ok (.bipush 64, 2) := by decide +kernel
theorem dX2_addShifted_69 : decode cX2_addShifted 69 = .ok (.iload 5, 2) := by decide +kernel
theorem dX2_addShifted_71 : decode cX2_addShifted 71 = .ok (.isub, 1) := by decide +kernel
theorem dX2_addShifted_72 : decode cX2_addShifted 72 = .ok (.lushr, 1) := by decide +kernel
theorem dX2_addShifted_73 : decode cX2_addShifted 73 = .ok (.lor, 1) := by decide +kernel
theorem dX2_addShifted_74 : decode cX2_addShifted 74 = .ok (.lstore 8, 2) := by decide +kernel
theorem dX2_addShifted_76 : decode cX2_addShifted 76 = .ok (.aload_n 0, 1) := by decide +kernel
theorem dX2_addShifted_77 : decode cX2_addShifted 77 = .ok (.getfield 25, 3) := by decide +kernel
theorem dX2_addShifted_80 : decode cX2_addShifted 80 = .ok (.iload_n 2, 1) := by decide +kernel
theorem dX2_addShifted_81 : decode cX2_addShifted 81 = .ok (.iload 6, 2) := by decide +kernel
theorem dX2_addShifted_83 : decode cX2_addShifted 83 = .ok (.iadd, 1) := by decide +kernel
theorem dX2_addShifted_84 : decode cX2_addShifted 84 = .ok (.dup2, 1) := by decide +kernel
theorem dX2_addShifted_85 : decode cX2_addShifted 85 = .ok (.laload, 1) := by decide +kernel
theorem dX2_addShifted_86 : decode cX2_addShifted 86 = .ok (.lload 8, 2) := by decide +kernel
theorem dX2_addShifted_88 : decode cX2_addShifted 88 = .ok (.lor, 1) := by decide +kernel
theorem dX2_addShifted_89 : decode cX2_addShifted 89 = .ok (.lastore, 1) := by decide +kernel
theorem dX2_addShifted_90 : decode cX2_addShifted 90 = .ok (.iinc 6 1, 3) := by decide +kernel
theorem dX2_addShifted_93 : decode cX2_addShifted 93 = .ok (.goto (-77), 3) := by decide +kernel
theorem dX2_addShifted_96 : decode cX2_addShifted 96 = .ok (.return_, 1) := by decide +kernel
theorem dX2_takeYears_0 : decode cX2_takeYears 0 = .ok (.lconst 0, 1) := by decide +kernel
theorem dX2_takeYears_1 : decode cX2_takeYears 1 = .ok (.lstore_n 2, 1) := by decide +kernel
theorem dX2_takeYears_2 : decode cX2_takeYears 2 = .ok (.iconst 0, 1) := by decide +kernel
theorem dX2_takeYears_3 : decode cX2_takeYears 3 = .ok (.istore 4, 2) := by decide +kernel
theorem dX2_takeYears_5 : decode cX2_takeYears 5 = .ok (.iload 4, 2) := by decide +kernel
theorem dX2_takeYears_7 : decode cX2_takeYears 7 = .ok (.iconst 3, 1) := by decide +kernel
theorem dX2_takeYears_8 : decode cX2_takeYears 8 = .ok (.if_icmp .ge 24, 3) := by decide +kernel
theorem dX2_takeYears_11 : decode cX2_takeYears 11 = .ok (.lload_n 2, 1) := by decide +kernel
theorem dX2_takeYears_12 : decode cX2_takeYears 12 = .ok (.aload_n 0, 1) := by decide +kernel
theorem dX2_takeYears_13 : decode cX2_takeYears 13 = .ok (.getfield 22, 3) := by decide +kernel
theorem dX2_takeYears_16 : decode cX2_takeYears 16 = .ok (.iload 4, 2) := by decide +kernel
theorem dX2_takeYears_18 : decode cX2_takeYears 18 = .ok (.bipush 47, 2) := by decide +kernel
theorem dX2_takeYears_20 : decode cX2_takeYears 20 = .ok (.imul, 1) := by decide +kernel
theorem dX2_takeYears_21 : decode cX2_takeYears 21 = .ok (.iload_n 1, 1) := by decide +kernel
theorem dX2_takeYears_22 : decode cX2_takeYears 22 = .ok (.iadd, 1) := by decide +kernel
theorem dX2_takeYears_23 : decode cX2_takeYears 23 = .ok (.laload, 1) := by decide +kernel
theorem dX2_takeYears_24 : decode cX2_takeYears 24 = .ok (.lor, 1) := by decide +kernel
theorem dX2_takeYears_25 : decode cX2_takeYears 25 = .ok (.lstore_n 2, 1) := by decide +kernel
theorem dX2_takeYears_26 : decode cX2_takeYears 26 = .ok (.iinc 4 1, 3) := by decide +kernel
theorem dX2_takeYears_29 : decode cX2_takeYears 29 = .ok (.goto (-24), 3) := by decide +kernel
theorem dX2_takeYears_32 : decode cX2_takeYears 32 = .ok (.iload_n 1, 1) := by decide +kernel
theorem dX2_takeYears_33 : decode cX2_takeYears 33 = .ok (.bipush 64, 2) := by decide +kernel
theorem dX2_takeYears_35 : decode cX2_takeYears 35 = .ok (.imul, 1) := by decide +kernel
theorem dX2_takeYears_36 : decode cX2_takeYears 36 = .ok (.istore 4, 2) := by decide +kernel
theorem dX2_takeYears_38 : decode cX2_takeYears 38 = .ok (.lload_n 2, 1) := by decide +kernel
theorem dX2_takeYears_39 : decode cX2_takeYears 39 = .ok (.lconst 0, 1) := by decide +kernel
theorem dX2_takeYears_40 : decode cX2_takeYears 40 = .ok (.lcmp, 1) := by decide +kernel
theorem dX2_takeYears_41 : decode cX2_takeYears 41 = .ok (.ifCond .eq 67, 3) := by decide +kernel
theorem dX2_takeYears_44 : decode cX2_takeYears 44 = .ok (.iload 4, 2) := by decide +kernel
theorem dX2_takeYears_46 : decode cX2_takeYears 46 = .ok (.sipush 3000, 3) := by decide +kernel
theorem dX2_takeYears_49 : decode cX2_takeYears 49 = .ok (.if_icmp .gt 59, 3) := by decide +kernel
theorem dX2_takeYears_52 : decode cX2_takeYears 52 = .ok (.lload_n 2, 1) := by decide +kernel
theorem dX2_takeYears_53 : decode cX2_takeYears 53 = .ok (.lconst 1, 1) := by decide +kernel
theorem dX2_takeYears_54 : decode cX2_takeYears 54 = .ok (.land, 1) := by decide +kernel
theorem dX2_takeYears_55 : decode cX2_takeYears 55 = .ok (.lconst 1, 1) := by decide +kernel
theorem dX2_takeYears_56 : decode cX2_takeYears 56 = .ok (.lcmp, 1) := by decide +kernel
theorem dX2_takeYears_57 : decode cX2_takeYears 57 = .ok (.ifCond .ne 41, 3) := by decide +kernel
theorem dX2_takeYears_60 : decode cX2_takeYears 60 = .ok (.aload_n 0, 1) := by decide +kernel
theorem dX2_takeYears_61 : decode cX2_takeYears 61 = .ok (.dup, 1) := by decide +kernel
theorem dX2_takeYears_62 : decode cX2_takeYears 62 = .ok (.getfield 91, 3) := by decide +kernel
theorem dX2_takeYears_65 : decode cX2_takeYears 65 = .ok (.iconst 1, 1) := by decide +kernel
theorem dX2_takeYears_66 : decode cX2_takeYears 66 = .ok (.iadd, 1) := by decide +kernel
theorem dX2_takeYears_67 : decode cX2_takeYears 67 = .ok (.putfield 91, 3) := by decide +kernel
theorem dX2_takeYears_70 : decode cX2_takeYears 70 = .ok (.aload_n 0, 1) := by decide +kernel
theorem dX2_takeYears_71 : decode cX2_takeYears 71 = .ok (.aload_n 0, 1) := by decide +kernel
theorem dX2_takeYears_72 : decode cX2_takeYears 72 = .ok (.getfield 94, 3) := by decide +kernel
theorem dX2_takeYears_75 : decode cX2_takeYears 75 = .ok (.bipush (-9), 2) := by decide +kernel
theorem dX2_takeYears_77 : decode cX2_takeYears 77 = .ok (.if_icmp .ne 8, 3) := by decide +kernel
theorem dX2_takeYears_80 : decode cX2_takeYears 80 = .ok (.iload 4, 2) := by decide +kernel
theorem dX2_takeYears_82 : decode cX2_takeYears 82 = .ok (.goto 7, 3) := by decide +kernel
theorem dX2_takeYears_85 : decode cX2_takeYears 85 = .ok (.aload_n 0, 1) := by decide +kernel
theorem dX2_takeYears_86 : decode cX2_takeYears 86 = .ok (.getfield 94, 3) := by decide +kernel
theorem dX2_takeYears_89 : decode cX2_takeYears 89 = .ok (.putfield 94, 3) := by decide +kernel
theorem dX2_takeYears_92 : decode cX2_takeYears 92 = .ok (.aload_n 0, 1) := by decide +kernel
theorem dX2_takeYears_93 : decode cX2_takeYears 93 = .ok (.iload 4, 2) := by decide +kernel
theorem dX2_takeYears_95 : decode cX2_takeYears 95 = .ok (.putfield 97, 3) := by decide +kernel
theorem dX2_takeYears_98 : decode cX2_takeYears 98 = .ok (.lload_n 2, 1) := by decide +kernel
theorem dX2_takeYears_99 : decode cX2_takeYears 99 = .ok (.iconst 1, 1) := by decide +kernel
theorem dX2_takeYears_100 : decode cX2_takeYears 100 = .ok (.lushr, 1) := by decide +kernel
theorem dX2_takeYears_101 : decode cX2_takeYears 101 = .ok (.lstore_n 2, 1) := by decide +kernel
theorem dX2_takeYears_102 : decode cX2_takeYears 102 = .ok (.iinc 4 1, 3) := by decide +kernel
theorem dX2_takeYears_105 : decode cX2_takeYears 105 = .ok (.goto (-67), 3) := by decide +kernel
theorem dX2_takeYears_108 : decode cX2_takeYears 108 = .ok (.return_, 1) := by decide +kernel
end
section
theorem dX3_init_0 : decode cX3_init 0 = .ok (.aload_n 0, 1) := by decide +kernel
theorem dX3_init_1 : decode cX3_init 1 = .ok (.invokespecial 3, 3) := by decide +kernel
theorem dX3_init_4 : decode cX3_init 4 = .ok (.aload_n 0, 1) := by decide +kernel
theorem dX3_init_5 : decode cX3_init 5 = .ok (.bipush 10, 2) := by decide +kernel
theorem dX3_init_7 : decode cX3_init 7 = .ok (.newarray .int, 2) := by decide +kernel
theorem dX3_init_9 : decode cX3_init 9 = .ok (.putfield 9, 3) := by decide +kernel
theorem dX3_init_12 : decode cX3_init 12 = .ok (.aload_n 0, 1) := by decide +kernel
theorem dX3_init_13 : decode cX3_init 13 = .ok (.bipush 10, 2) := by decide +kernel
theorem dX3_init_15 : decode cX3_init 15 = .ok (.newarray .int, 2) := by decide +kernel
theorem dX3_init_17 : decode cX3_init 17 = .ok (.putfield 15, 3) := by decide +kernel
theorem dX3_init_20 : decode cX3_init 20 = .ok (.aload_n 0, 1) := by decide +kernel
theorem dX3_init_21 : decode cX3_init 21 = .ok (.bipush 10, 2) := by decide +kernel
theorem dX3_init_23 : decode cX3_init 23 = .ok (.newarray .int, 2) := by decide +kernel
theorem dX3_init_25 : decode cX3_init 25 = .ok (.putfield 18, 3) := by decide +kernel
theorem dX3_init_28 : decode cX3_init 28 = .ok (.aload_n 0, 1) := by decide +kernel
theorem dX3_init_29 : decode cX3_init 29 = .ok (.bipush 36, 2) := by decide +kernel
theorem dX3_init_31 : decode cX3_init 31 = .ok (.newarray .long, 2) := by decide +kernel
theorem dX3_init_33 : decode cX3_init 33 = .ok (.putfield 21, 3) := by decide +kernel
theorem dX3_init_36 : decode cX3_init 36 = .ok (.aload_n 0, 1) := by decide +kernel
theorem dX3_init_37 : decode cX3_init 37 = .ok (.sipush 9003, 3) := by decide +kernel
theorem dX3_init_40 : decode cX3_init 40 = .ok (.newarray .long, 2) := by decide +kernel
theorem dX3_init_42 : decode cX3_init 42 = .ok (.putfield 25, 3) := by decide +kernel
theorem dX3_init_45 : decode cX3_init 45 = .ok (.aload_n 0, 1) := by decide +kernel
theorem dX3_init_46 : decode cX3_init 46 = .ok (.iconst 1, 1) := by decide +kernel
theorem dX3_init_47 : decode cX3_init 47 = .ok (.putfield 28, 3) := by decide +kernel
theorem dX3_init_50 : decode cX3_init 50 = .ok (.aload_n 0, 1) := by decide +kernel
theorem dX3_init_51 : decode cX3_init 51 = .ok (.aload_n 1, 1) := by decide +kernel
theorem dX3_init_52 : decode cX3_init 52 = .ok (.putfield 32, 3) := by decide +kernel
theorem dX3_init_55 : decode cX3_init 55 = .ok (.aload_n 0, 1) := by decide +kernel
theorem dX3_init_56 : decode cX3_init 56 = .ok (.aload_n 2, 1) := by decide +kernel
theorem dX3_init_57 : decode cX3_init 57 = .ok (.putfield 36, 3) := by decide +kernel
theorem dX3_init_60 : decode cX3_init 60 = .ok (.return_, 1) := by decide +kernel
theorem dX3_forget_0 : decode cX3_forget 0 = .ok (.aload_n 0, 1) := by decide +kernel
theorem dX3_forget_1 : decode cX3_forget 1 = .ok (.iconst 1, 1) := by decide +kernel
theorem dX3_forget_2 : decode cX3_forget 2 = .ok (.putfield 28, 3) := by decide +kernel
theorem dX3_forget_5 : decode cX3_forget 5 = .ok (.return_, 1) := by decide +kernel
set_option maxRecDepth 20000 in
theorem ggX3_ofFeet_X3_stepOfFeet : GoodIn wsX3_ofFeet wsX3_stepOfFeet := goodIn_r _ [6, 7, 8, 9, 1, 10, 11, 12, 13, 14, 15, 16, 17, 18, 19, 20, 21, 22, 23, 24, 25, 26, 27, 28, 29, 30, 31, 32, 33] (by decide +kernel) (by decide +kernel)
set_option maxRecDepth 20000 in
theorem gX3_ofFeet_X3_stepOfFeet : GoodIn wsX3_ofFeet (wsV RX3 40 RX3 yX3_stepOfFeet wsX3_stepOfFeet) := goodIn_app (goodIn_of _ (by decide +kernel)) ggX3_ofFeet_X3_stepOfFeet
theorem dX3_ofFeet_0 : decode cX3_ofFeet 0 = .ok (.iconst 0, 1) := by decide +kernel
theorem dX3_ofFeet_1 : decode cX3_ofFeet 1 = .ok (.istore_n 2, 1) := by decide +kernel
theorem dX3_ofFeet_2 : decode cX3_ofFeet 2 = .ok (.iload_n 2, 1) := by decide +kernel
theorem dX3_ofFeet_3 : decode cX3_ofFeet 3 = .ok (.iconst 4, 1) := by decide +kernel
theorem dX3_ofFeet_4 : decode cX3_ofFeet 4 = .ok (.if_icmp .ge 16, 3) := by decide +kernel
theorem dX3_ofFeet_7 : decode cX3_ofFeet 7 = .ok (.aload_n 0, 1) := by decide +kernel
theorem dX3_ofFeet_8 : decode cX3_ofFeet 8 = .ok (.getfield 21, 3) := by decide +kernel
theorem dX3_ofFeet_11 : decode cX3_ofFeet 11 = .ok (.iload_n 2, 1) := by decide +kernel
theorem dX3_ofFeet_12 : decode cX3_ofFeet 12 = .ok (.lconst 1, 1) := by decide +kernel
theorem dX3_ofFeet_13 : decode cX3_ofFeet 13 = .ok (.lastore, 1) := by decide +kernel
theorem dX3_ofFeet_14 : decode cX3_ofFeet 14 = .ok (.iinc 2 1, 3) := by decide +kernel
theorem dX3_ofFeet_17 : decode cX3_ofFeet 17 = .ok (.goto (-15), 3) := by decide +kernel
theorem dX3_ofFeet_20 : decode cX3_ofFeet 20 = .ok (.iconst 1, 1) := by decide +kernel
theorem dX3_ofFeet_21 : decode cX3_ofFeet 21 = .ok (.istore_n 2, 1) := by decide +kernel
theorem dX3_ofFeet_22 : decode cX3_ofFeet 22 = .ok (.iload_n 2, 1) := by decide +kernel
theorem dX3_ofFeet_23 : decode cX3_ofFeet 23 = .ok (.iload_n 1, 1) := by decide +kernel
theorem dX3_ofFeet_24 : decode cX3_ofFeet 24 = .ok (.if_icmp .gt 38, 3) := by decide +kernel
theorem dX3_ofFeet_27 : decode cX3_ofFeet 27 = .ok (.iconst 0, 1) := by decide +kernel
theorem dX3_ofFeet_28 : decode cX3_ofFeet 28 = .ok (.istore_n 3, 1) := by decide +kernel
theorem dX3_ofFeet_29 : decode cX3_ofFeet 29 = .ok (.iload_n 3, 1) := by decide +kernel
theorem dX3_ofFeet_30 : decode cX3_ofFeet 30 = .ok (.iconst 4, 1) := by decide +kernel
theorem dX3_ofFeet_31 : decode cX3_ofFeet 31 = .ok (.if_icmp .ge 25, 3) := by decide +kernel
theorem dX3_ofFeet_34 : decode cX3_ofFeet 34 = .ok (.aload_n 0, 1) := by decide +kernel
theorem dX3_ofFeet_35 : decode cX3_ofFeet 35 = .ok (.getfield 21, 3) := by decide +kernel
theorem dX3_ofFeet_38 : decode cX3_ofFeet 38 = .ok (.iload_n 2, 1) := by decide +kernel
theorem dX3_ofFeet_39 : decode cX3_ofFeet 39 = .ok (.iconst 4, 1) := by decide +kernel
theorem dX3_ofFeet_40 : decode cX3_ofFeet 40 = .ok (.imul, 1) := by decide +kernel
theorem dX3_ofFeet_41 : decode cX3_ofFeet 41 = .ok (.iload_n 3, 1) := by decide +kernel
theorem dX3_ofFeet_42 : decode cX3_ofFeet 42 = .ok (.iadd, 1) := by decide +kernel
theorem dX3_ofFeet_43 : decode cX3_ofFeet 43 = .ok (.aload_n 0, 1) := by decide +kernel
theorem dX3_ofFeet_44 : decode cX3_ofFeet 44 = .ok (.iload_n 2, 1) := by decide +kernel
theorem dX3_ofFeet_45 : decode cX3_ofFeet 45 = .ok (.iload_n 3, 1) := by decide +kernel
theorem dX3_ofFeet_46 : decode cX3_ofFeet 46 = .ok (.invokevirtual 40, 3) := by decide +kernel
theorem dX3_ofFeet_49 : decode cX3_ofFeet 49 = .ok (.lastore, 1) := by decide +kernel
theorem dX3_ofFeet_50 : decode cX3_ofFeet 50 = .ok (.iinc 3 1, 3) := by decide +kernel
theorem dX3_ofFeet_53 : decode cX3_ofFeet 53 = .ok (.goto (-24), 3) := by decide +kernel
theorem dX3_ofFeet_56 : decode cX3_ofFeet 56 = .ok (.iinc 2 1, 3) := by decide +kernel
theorem dX3_ofFeet_59 : decode cX3_ofFeet 59 = .ok (.goto (-37), 3) := by decide +kernel
theorem dX3_ofFeet_62 : decode cX3_ofFeet 62 = .ok (.aload_n 0, 1) := by decide +kernel
theorem dX3_ofFeet_63 : decode cX3_ofFeet 63 = .ok (.getfield 21, 3) := by decide +kernel
theorem dX3_ofFeet_66 : decode cX3_ofFeet 66 = .ok (.iload_n 1, 1) := by decide +kernel
theorem dX3_ofFeet_67 : decode cX3_ofFeet 67 = .ok (.iconst 4, 1) := by decide +kernel
theorem dX3_ofFeet_68 : decode cX3_ofFeet 68 = .ok (.imul, 1) := by decide +kernel
theorem dX3_ofFeet_69 : decode cX3_ofFeet 69 = .ok (.iconst 3, 1) := by decide +kernel
theorem dX3_ofFeet_70 : decode cX3_ofFeet 70 = .ok (.iadd, 1) := by decide +kernel
theorem dX3_ofFeet_71 : decode cX3_ofFeet 71 = .ok (.laload, 1) := by decide +kernel
theorem dX3_ofFeet_72 : decode cX3_ofFeet 72 = .ok (.lreturn, 1) := by decide +kernel
set_option maxRecDepth 20000 in
theorem ggX3_stepOfFeet_X4_mayCome : GoodIn wsX3_stepOfFeet wsX4_mayCome := goodIn_r _ [10, 11, 12, 23, 24, 25, 26, 27, 28] (by decide +kernel) (by decide +kernel)
set_option maxRecDepth 20000 in
theorem gX3_stepOfFeet_X4_mayCome : GoodIn wsX3_stepOfFeet (wsV RX3 53 RX4 yX4_mayCome wsX4_mayCome) := goodIn_app (goodIn_of _ (by decide +kernel)) ggX3_stepOfFeet_X4_mayCome
theorem dX3_stepOfFeet_0 : decode cX3_stepOfFeet 0 = .ok (.lconst 0, 1) := by decide +kernel
theorem dX3_stepOfFeet_1 : decode cX3_stepOfFeet 1 = .ok (.lstore_n 3, 1) := by decide +kernel
theorem dX3_stepOfFeet_2 : decode cX3_stepOfFeet 2 = .ok (.iconst 0, 1) := by decide +kernel
theorem dX3_stepOfFeet_3 : decode cX3_stepOfFeet 3 = .ok (.istore 5, 2) := by decide +kernel
theorem dX3_stepOfFeet_5 : decode cX3_stepOfFeet 5 = .ok (.iload 5, 2) := by decide +kernel
theorem dX3_stepOfFeet_7 : decode cX3_stepOfFeet 7 = .ok (.aload_n 0, 1) := by decide +kernel
theorem dX3_stepOfFeet_8 : decode cX3_stepOfFeet 8 = .ok (.getfield 32, 3) := by decide +kernel
theorem dX3_stepOfFeet_11 : decode cX3_stepOfFeet 11 = .ok (.getfield 44, 3) := by decide +kernel
theorem dX3_stepOfFeet_14 : decode cX3_stepOfFeet 14 = .ok (.if_icmp .ge 69, 3) := by decide +kernel
theorem dX3_stepOfFeet_17 : decode cX3_stepOfFeet 17 = .ok (.aload_n 0, 1) := by decide +kernel
theorem dX3_stepOfFeet_18 : decode cX3_stepOfFeet 18 = .ok (.getfield 32, 3) := by decide +kernel
theorem dX3_stepOfFeet_21 : decode cX3_stepOfFeet 21 = .ok (.getfield 50, 3) := by decide +kernel
theorem dX3_stepOfFeet_24 : decode cX3_stepOfFeet 24 = .ok (.iload 5, 2) := by decide +kernel
theorem dX3_stepOfFeet_26 : decode cX3_stepOfFeet 26 = .ok (.iaload, 1) := by decide +kernel
theorem dX3_stepOfFeet_27 : decode cX3_stepOfFeet 27 = .ok (.iload_n 1, 1) := by decide +kernel
theorem dX3_stepOfFeet_28 : decode cX3_stepOfFeet 28 = .ok (.if_icmp .gt 49, 3) := by decide +kernel
theorem dX3_stepOfFeet_31 : decode cX3_stepOfFeet 31 = .ok (.aload_n 0, 1) := by decide +kernel
theorem dX3_stepOfFeet_32 : decode cX3_stepOfFeet 32 = .ok (.getfield 32, 3) := by decide +kernel
theorem dX3_stepOfFeet_35 : decode cX3_stepOfFeet 35 = .ok (.iload_n 2, 1) := by decide +kernel
theorem dX3_stepOfFeet_36 : decode cX3_stepOfFeet 36 = .ok (.iload 5, 2) := by decide +kernel
theorem dX3_stepOfFeet_38 : decode cX3_stepOfFeet 38 = .ok (.invokevirtual 53, 3) := by decide +kernel
theorem dX3_stepOfFeet_41 : decode cX3_stepOfFeet 41 = .ok (.ifCond .eq 36, 3) := by decide +kernel
theorem dX3_stepOfFeet_44 : decode cX3_stepOfFeet 44 = .ok (.lload_n 3, 1) := by decide +kernel
theorem dX3_stepOfFeet_45 : decode cX3_stepOfFeet 45 = .ok (.aload_n 0, 1) := by decide +kernel
theorem dX3_stepOfFeet_46 : decode cX3_stepOfFeet 46 = .ok (.getfield 21, 3) := by decide +kernel
theorem dX3_stepOfFeet_49 : decode cX3_stepOfFeet 49 = .ok (.iload_n 1, 1) := by decide +kernel
theorem dX3_stepOfFeet_50 : decode cX3_stepOfFeet 50 = .ok (.aload_n 0, 1) := by decide +kernel
theorem dX3_stepOfFeet_51 : decode cX3_stepOfFeet 51 = .ok (.getfield 32, 3) := by decide +kernel
theorem dX3_stepOfFeet_54 : decode cX3_stepOfFeet 54 = .ok (.getfield 50, 3) := by decide +kernel
theorem dX3_stepOfFeet_57 : decode cX3_stepOfFeet 57 = .ok (.iload 5, 2) := by decide +kernel
theorem dX3_stepOfFeet_59 : decode cX3_stepOfFeet 59 = .ok (.iaload, 1) := by decide +kernel
theorem dX3_stepOfFeet_60 : decode cX3_stepOfFeet 60 = .ok (.isub, 1) := by decide +kernel
theorem dX3_stepOfFeet_61 : decode cX3_stepOfFeet 61 = .ok (.iconst 4, 1) := by decide +kernel
theorem dX3_stepOfFeet_62 : decode cX3_stepOfFeet 62 = .ok (.imul, 1) := by decide +kernel
theorem dX3_stepOfFeet_63 : decode cX3_stepOfFeet 63 = .ok (.aload_n 0, 1) := by decide +kernel
theorem dX3_stepOfFeet_64 : decode cX3_stepOfFeet 64 = .ok (.getfield 32, 3) := by decide +kernel
theorem dX3_stepOfFeet_67 : decode cX3_stepOfFeet 67 = .ok (.getfield 57, 3) := by decide +kernel
theorem dX3_stepOfFeet_70 : decode cX3_stepOfFeet 70 = .ok (.iload 5, 2) := by decide +kernel
theorem dX3_stepOfFeet_72 : decode cX3_stepOfFeet 72 = .ok (.iaload, 1) := by decide +kernel
theorem dX3_stepOfFeet_73 : decode cX3_stepOfFeet 73 = .ok (.iadd, 1) := by decide +kernel
theorem dX3_stepOfFeet_74 : decode cX3_stepOfFeet 74 = .ok (.laload, 1) := by decide +kernel
theorem dX3_stepOfFeet_75 : decode cX3_stepOfFeet 75 = .ok (.ladd, 1) := by decide +kernel
theorem dX3_stepOfFeet_76 : decode cX3_stepOfFeet 76 = .ok (.lstore_n 3, 1) := by decide +kernel
theorem dX3_stepOfFeet_77 : decode cX3_stepOfFeet 77 = .ok (.iinc 5 1, 3) := by decide +kernel
theorem dX3_stepOfFeet_80 : decode cX3_stepOfFeet 80 = .ok (.goto (-75), 3) := by decide +kernel
theorem dX3_stepOfFeet_83 : decode cX3_stepOfFeet 83 = .ok (.lload_n 3, 1) := by decide +kernel
theorem dX3_stepOfFeet_84 : decode cX3_stepOfFeet 84 = .ok (.lreturn, 1) := by decide +kernel
set_option maxRecDepth 20000 in
theorem ggX3_ofSum_X3_beginRound : GoodIn wsX3_ofSum wsX3_beginRound := goodIn_r _ [5, 6, 7, 8, 9, 10, 11, 12, 13, 14, 15, 16, 17, 18, 19, 20, 21, 22, 23, 24, 25, 26, 27, 28, 29, 30, 31, 32, 33, 34, 35, 36, 37, 38, 39, 40, 66, 67, 68, 69, 70, 71, 72, 73, 74, 75, 76, 77, 78, 79, 80, 81, 82] (by decide +kernel) (by decide +kernel)
set_option maxRecDepth 20000 in
theorem gX3_ofSum_X3_beginRound : GoodIn wsX3_ofSum (wsV RX3 60 RX3 yX3_beginRound wsX3_beginRound) := goodIn_app (goodIn_of _ (by decide +kernel)) ggX3_ofSum_X3_beginRound
set_option maxRecDepth 20000 in
theorem ggX3_ofSum_X3_waysOn : GoodIn wsX3_ofSum wsX3_waysOn := goodIn_r _ [44, 12, 45, 46, 47, 4, 48, 49, 50, 51, 52, 9, 53, 54, 55, 56, 57, 58, 10, 59, 60, 61, 62, 16, 63, 64, 65, 41, 42, 43, 66, 67, 68, 69, 70, 71, 72, 73, 74, 75, 76, 77, 78, 79, 80, 81] (by decide +kernel) (by decide +kernel)
set_option maxRecDepth 20000 in
theorem gX3_ofSum_X3_waysOn : GoodIn wsX3_ofSum (wsV RX3 64 RX3 yX3_waysOn wsX3_waysOn) := goodIn_app (goodIn_of _ (by decide +kernel)) ggX3_ofSum_X3_waysOn
theorem dX3_ofSum_0 : decode cX3_ofSum 0 = .ok (.aload_n 0, 1) := by decide +kernel
theorem dX3_ofSum_1 : decode cX3_ofSum 1 = .ok (.iload_n 3, 1) := by decide +kernel
theorem dX3_ofSum_2 : decode cX3_ofSum 2 = .ok (.iload 4, 2) := by decide +kernel
theorem dX3_ofSum_4 : decode cX3_ofSum 4 = .ok (.invokevirtual 60, 3) := by decide +kernel
theorem dX3_ofSum_7 : decode cX3_ofSum 7 = .ok (.aload_n 0, 1) := by decide +kernel
theorem dX3_ofSum_8 : decode cX3_ofSum 8 = .ok (.iconst 3, 1) := by decide +kernel
theorem dX3_ofSum_9 : decode cX3_ofSum 9 = .ok (.iload_n 1, 1) := by decide +kernel
theorem dX3_ofSum_10 : decode cX3_ofSum 10 = .ok (.iload_n 2, 1) := by decide +kernel
theorem dX3_ofSum_11 : decode cX3_ofSum 11 = .ok (.invokevirtual 64, 3) := by decide +kernel
theorem dX3_ofSum_14 : decode cX3_ofSum 14 = .ok (.lreturn, 1) := by decide +kernel
set_option maxRecDepth 20000 in
theorem ggX3_beginRound_X4_putSums : GoodIn wsX3_beginRound wsX4_putSums := goodIn_r _ [12, 13, 14, 15, 16, 17, 18, 19, 20, 21, 22, 23, 24, 25, 26, 27, 28, 29, 30, 31, 46, 47, 48, 49, 50, 51, 52] (by decide +kernel) (by decide +kernel)
set_option maxRecDepth 20000 in
theorem gX3_beginRound_X4_putSums : GoodIn wsX3_beginRound (wsV RX3 74 RX4 yX4_putSums wsX4_putSums) := goodIn_app (goodIn_of _ (by decide +kernel)) ggX3_beginRound_X4_putSums
set_option maxRecDepth 20000 in
theorem ggX3_beginRound_J7_fill_d0a16 : GoodIn wsX3_beginRound wsJ7_fill_d0a16 := goodIn_r _ [35] (by decide +kernel) (by decide +kernel)
set_option maxRecDepth 20000 in
theorem gX3_beginRound_J7_fill_d0a16 : GoodIn wsX3_beginRound (va_wsS RX3 78 yJ7_fill_d0a16 wsJ7_fill_d0a16) := goodIn_app (goodIn_of _ (by decide +kernel)) ggX3_beginRound_J7_fill_d0a16
theorem dX3_beginRound_0 : decode cX3_beginRound 0 = .ok (.aload_n 0, 1) := by decide +kernel
theorem dX3_beginRound_1 : decode cX3_beginRound 1 = .ok (.getfield 28, 3) := by decide +kernel
theorem dX3_beginRound_4 : decode cX3_beginRound 4 = .ok (.ifCond .ne 20, 3) := by decide +kernel
theorem dX3_beginRound_7 : decode cX3_beginRound 7 = .ok (.iload_n 1, 1) := by decide +kernel
theorem dX3_beginRound_8 : decode cX3_beginRound 8 = .ok (.aload_n 0, 1) := by decide +kernel
theorem dX3_beginRound_9 : decode cX3_beginRound 9 = .ok (.getfield 68, 3) := by decide +kernel
theorem dX3_beginRound_12 : decode cX3_beginRound 12 = .ok (.if_icmp .ne 12, 3) := by decide +kernel
theorem dX3_beginRound_15 : decode cX3_beginRound 15 = .ok (.iload_n 2, 1) := by decide +kernel
theorem dX3_beginRound_16 : decode cX3_beginRound 16 = .ok (.aload_n 0, 1) := by decide +kernel
theorem dX3_beginRound_17 : decode cX3_beginRound 17 = .ok (.getfield 71, 3) := by decide +kernel
theorem dX3_beginRound_20 : decode cX3_beginRound 20 = .ok (.if_icmp .ne 4, 3) := by decide +kernel
theorem dX3_beginRound_23 : decode cX3_beginRound 23 = .ok (.return_, 1) := by decide +kernel
theorem dX3_beginRound_24 : decode cX3_beginRound 24 = .ok (.aload_n 0, 1) := by decide +kernel
theorem dX3_beginRound_25 : decode cX3_beginRound 25 = .ok (.getfield 32, 3) := by decide +kernel
theorem dX3_beginRound_28 : decode cX3_beginRound 28 = .ok (.aload_n 0, 1) := by decide +kernel
theorem dX3_beginRound_29 : decode cX3_beginRound 29 = .ok (.getfield 9, 3) := by decide +kernel
theorem dX3_beginRound_32 : decode cX3_beginRound 32 = .ok (.aload_n 0, 1) := by decide +kernel
theorem dX3_beginRound_33 : decode cX3_beginRound 33 = .ok (.getfield 36, 3) := by decide +kernel
theorem dX3_beginRound_36 : decode cX3_beginRound 36 = .ok (.iload_n 1, 1) := by decide +kernel
theorem dX3_beginRound_37 : decode cX3_beginRound 37 = .ok (.iload_n 2, 1) := by decide +kernel
theorem dX3_beginRound_38 : decode cX3_beginRound 38 = .ok (.invokevirtual 74, 3) := by decide +kernel
theorem dX3_beginRound_41 : decode cX3_beginRound 41 = .ok (.aload_n 0, 1) := by decide +kernel
theorem dX3_beginRound_42 : decode cX3_beginRound 42 = .ok (.iload_n 1, 1) := by decide +kernel
theorem dX3_beginRound_43 : decode cX3_beginRound 43 = .ok (.putfield 68, 3) := by decide +kernel
theorem dX3_beginRound_46 : decode cX3_beginRound 46 = .ok (.aload_n 0, 1) := by decide +kernel
theorem dX3_beginRound_47 : decode cX3_beginRound 47 = .ok (.iload_n 2, 1) := by decide +kernel
theorem dX3_beginRound_48 : decode cX3_beginRound 48 = .ok (.putfield 71, 3) := by decide +kernel
theorem dX3_beginRound_51 : decode cX3_beginRound 51 = .ok (.aload_n 0, 1) := by decide +kernel
theorem dX3_beginRound_52 : decode cX3_beginRound 52 = .ok (.iconst 0, 1) := by decide +kernel
theorem dX3_beginRound_53 : decode cX3_beginRound 53 = .ok (.putfield 28, 3) := by decide +kernel
theorem dX3_beginRound_56 : decode cX3_beginRound 56 = .ok (.aload_n 0, 1) := by decide +kernel
theorem dX3_beginRound_57 : decode cX3_beginRound 57 = .ok (.getfield 25, 3) := by decide +kernel
theorem dX3_beginRound_60 : decode cX3_beginRound 60 = .ok (.lconst 0, 1) := by decide +kernel
theorem dX3_beginRound_61 : decode cX3_beginRound 61 = .ok (.invokestatic 78, 3) := by decide +kernel
theorem dX3_beginRound_64 : decode cX3_beginRound 64 = .ok (.return_, 1) := by decide +kernel
set_option maxRecDepth 20000 in
theorem ggX3_waysOn_X3_placeKept : GoodIn wsX3_waysOn wsX3_placeKept := goodIn_r _ [6] (by decide +kernel) (by decide +kernel)
set_option maxRecDepth 20000 in
theorem gX3_waysOn_X3_placeKept : GoodIn wsX3_waysOn (va_wsS RX3 84 yX3_placeKept wsX3_placeKept) := goodIn_app (goodIn_of _ (by decide +kernel)) ggX3_waysOn_X3_placeKept
set_option maxRecDepth 20000 in
theorem ggX3_waysOn_X3_countWaysOn : GoodIn wsX3_waysOn wsX3_countWaysOn := goodIn_r _ [10, 11, 12, 13, 14, 15, 5, 0, 1, 2, 3, 4, 6, 7, 8, 9, 16, 17, 18, 19, 20, 21, 22, 23, 24, 25, 26, 27, 28, 29, 30, 31, 32, 33, 34, 35, 36, 37, 38, 39, 40, 41, 42, 43, 44, 45] (by decide +kernel) (by decide +kernel)
set_option maxRecDepth 20000 in
theorem gX3_waysOn_X3_countWaysOn : GoodIn wsX3_waysOn (wsV RX3 88 RX3 yX3_countWaysOn wsX3_countWaysOn) := goodIn_app (goodIn_of _ (by decide +kernel)) ggX3_waysOn_X3_countWaysOn
theorem dX3_waysOn_0 : decode cX3_waysOn 0 = .ok (.iload_n 2, 1) := by decide +kernel
theorem dX3_waysOn_1 : decode cX3_waysOn 1 = .ok (.iconst 1, 1) := by decide +kernel
theorem dX3_waysOn_2 : decode cX3_waysOn 2 = .ok (.if_icmp .lt 9, 3) := by decide +kernel
theorem dX3_waysOn_5 : decode cX3_waysOn 5 = .ok (.iload_n 2, 1) := by decide +kernel
theorem dX3_waysOn_6 : decode cX3_waysOn 6 = .ok (.bipush 8, 2) := by decide +kernel
theorem dX3_waysOn_8 : decode cX3_waysOn 8 = .ok (.if_icmp .le 17, 3) := by decide +kernel
theorem dX3_waysOn_11 : decode cX3_waysOn 11 = .ok (.iload_n 2, 1) := by decide +kernel
theorem dX3_waysOn_12 : decode cX3_waysOn 12 = .ok (.ifCond .ne 11, 3) := by decide +kernel
theorem dX3_waysOn_15 : decode cX3_waysOn 15 = .ok (.iload_n 3, 1) := by decide +kernel
theorem dX3_waysOn_16 : decode cX3_waysOn 16 = .ok (.ifCond .ne 7, 3) := by decide +kernel
theorem dX3_waysOn_19 : decode cX3_waysOn 19 = .ok (.lconst 1, 1) := by decide +kernel
theorem dX3_waysOn_20 : decode cX3_waysOn 20 = .ok (.goto 4, 3) := by decide +kernel
theorem dX3_waysOn_23 : decode cX3_waysOn 23 = .ok (.lconst 0, 1) := by decide +kernel
theorem dX3_waysOn_24 : decode cX3_waysOn 24 = .ok (.lreturn, 1) := by decide +kernel
theorem dX3_waysOn_25 : decode cX3_waysOn 25 = .ok (.iload_n 1, 1) := by decide +kernel
theorem dX3_waysOn_26 : decode cX3_waysOn 26 = .ok (.iload_n 2, 1) := by decide +kernel
theorem dX3_waysOn_27 : decode cX3_waysOn 27 = .ok (.iload_n 3, 1) := by decide +kernel
theorem dX3_waysOn_28 : decode cX3_waysOn 28 = .ok (.invokestatic 84, 3) := by decide +kernel
theorem dX3_waysOn_31 : decode cX3_waysOn 31 = .ok (.istore 4, 2) := by decide +kernel
theorem dX3_waysOn_33 : decode cX3_waysOn 33 = .ok (.iload 4, 2) := by decide +kernel
theorem dX3_waysOn_35 : decode cX3_waysOn 35 = .ok (.ifCond .lt 13, 3) := by decide +kernel
theorem dX3_waysOn_38 : decode cX3_waysOn 38 = .ok (.iload 4, 2) := by decide +kernel
theorem dX3_waysOn_40 : decode cX3_waysOn 40 = .ok (.aload_n 0, 1) := by decide +kernel
theorem dX3_waysOn_41 : decode cX3_waysOn 41 = .ok (.getfield 25, 3) := by decide +kernel
theorem dX3_waysOn_44 : decode cX3_waysOn 44 = .ok (.arraylength, 1) := by decide +kernel
theorem dX3_waysOn_45 : decode cX3_waysOn 45 = .ok (.if_icmp .lt 11, 3) := by decide +kernel
theorem dX3_waysOn_48 : decode cX3_waysOn 48 = .ok (.aload_n 0, 1) := by decide +kernel
theorem dX3_waysOn_49 : decode cX3_waysOn 49 = .ok (.iload_n 1, 1) := by decide +kernel
theorem dX3_waysOn_50 : decode cX3_waysOn 50 = .ok (.iload_n 2, 1) := by decide +kernel
theorem dX3_waysOn_51 : decode cX3_waysOn 51 = .ok (.iload_n 3, 1) := by decide +kernel
theorem dX3_waysOn_52 : decode cX3_waysOn 52 = .ok (.invokevirtual 88, 3) := by decide +kernel
theorem dX3_waysOn_55 : decode cX3_waysOn 55 = .ok (.lreturn, 1) := by decide +kernel
theorem dX3_waysOn_56 : decode cX3_waysOn 56 = .ok (.iload_n 2, 1) := by decide +kernel
theorem dX3_waysOn_57 : decode cX3_waysOn 57 = .ok (.iconst 1, 1) := by decide +kernel
theorem dX3_waysOn_58 : decode cX3_waysOn 58 = .ok (.isub, 1) := by decide +kernel
theorem dX3_waysOn_59 : decode cX3_waysOn 59 = .ok (.bipush 16, 2) := by decide +kernel
theorem dX3_waysOn_61 : decode cX3_waysOn 61 = .ok (.imul, 1) := by decide +kernel
theorem dX3_waysOn_62 : decode cX3_waysOn 62 = .ok (.istore 5, 2) := by decide +kernel
theorem dX3_waysOn_64 : decode cX3_waysOn 64 = .ok (.aload_n 0, 1) := by decide +kernel
theorem dX3_waysOn_65 : decode cX3_waysOn 65 = .ok (.getfield 25, 3) := by decide +kernel
theorem dX3_waysOn_68 : decode cX3_waysOn 68 = .ok (.iload 4, 2) := by decide +kernel
theorem dX3_waysOn_70 : decode cX3_waysOn 70 = .ok (.laload, 1) := by decide +kernel
theorem dX3_waysOn_71 : decode cX3_waysOn 71 = .ok (.iload 5, 2) := by decide +kernel
theorem dX3_waysOn_73 : decode cX3_waysOn 73 = .ok (.lushr, 1) := by decide +kernel
theorem dX3_waysOn_74 : decode cX3_waysOn 74 = .ok (.ldc2_w 91, 3) := by decide +kernel
theorem dX3_waysOn_77 : decode cX3_waysOn 77 = .ok (.land, 1) := by decide +kernel
theorem dX3_waysOn_78 : decode cX3_waysOn 78 = .ok (.lstore 6, 2) := by decide +kernel
theorem dX3_waysOn_80 : decode cX3_waysOn 80 = .ok (.lload 6, 2) := by decide +kernel
theorem dX3_waysOn_82 : decode cX3_waysOn 82 = .ok (.lconst 0, 1) := by decide +kernel
theorem dX3_waysOn_83 : decode cX3_waysOn 83 = .ok (.lcmp, 1) := by decide +kernel
theorem dX3_waysOn_84 : decode cX3_waysOn 84 = .ok (.ifCond .le 8, 3) := by decide +kernel
theorem dX3_waysOn_87 : decode cX3_waysOn 87 = .ok (.lload 6, 2) := by decide +kernel
theorem dX3_waysOn_89 : decode cX3_waysOn 89 = .ok (.lconst 1, 1) := by decide +kernel
theorem dX3_waysOn_90 : decode cX3_waysOn 90 = .ok (.lsub, 1) := by decide +kernel
theorem dX3_waysOn_91 : decode cX3_waysOn 91 = .ok (.lreturn, 1) := by decide +kernel
theorem dX3_waysOn_92 : decode cX3_waysOn 92 = .ok (.aload_n 0, 1) := by decide +kernel
theorem dX3_waysOn_93 : decode cX3_waysOn 93 = .ok (.iload_n 1, 1) := by decide +kernel
theorem dX3_waysOn_94 : decode cX3_waysOn 94 = .ok (.iload_n 2, 1) := by decide +kernel
theorem dX3_waysOn_95 : decode cX3_waysOn 95 = .ok (.iload_n 3, 1) := by decide +kernel
theorem dX3_waysOn_96 : decode cX3_waysOn 96 = .ok (.invokevirtual 88, 3) := by decide +kernel
theorem dX3_waysOn_99 : decode cX3_waysOn 99 = .ok (.lstore 8, 2) := by decide +kernel
theorem dX3_waysOn_101 : decode cX3_waysOn 101 = .ok (.aload_n 0, 1) := by decide +kernel
theorem dX3_waysOn_102 : decode cX3_waysOn 102 = .ok (.getfield 25, 3) := by decide +kernel
theorem dX3_waysOn_105 : decode cX3_waysOn 105 = .ok (.iload 4, 2) := by decide +kernel
theorem dX3_waysOn_107 : decode cX3_waysOn 107 = .ok (.dup2, 1) := by decide +kernel
theorem dX3_waysOn_108 : decode cX3_waysOn 108 = .ok (.laload, 1) := by decide +kernel
theorem dX3_waysOn_109 : decode cX3_waysOn 109 = .ok (.lload 8, 2) := by decide +kernel
theorem dX3_waysOn_111 : decode cX3_waysOn 111 = .ok (.lconst 1, 1) := by decide +kernel
theorem dX3_waysOn_112 : decode cX3_waysOn 112 = .ok (.ladd, 1) := by decide +kernel
theorem dX3_waysOn_113 : decode cX3_waysOn 113 = .ok (.iload 5, 2) := by decide +kernel
theorem dX3_waysOn_115 : decode cX3_waysOn 115 = .ok (.lshl, 1) := by decide +kernel
theorem dX3_waysOn_116 : decode cX3_waysOn 116 = .ok (.lor, 1) := by decide +kernel
theorem dX3_waysOn_117 : decode cX3_waysOn 117 = .ok (.lastore, 1) := by decide +kernel
theorem dX3_waysOn_118 : decode cX3_waysOn 118 = .ok (.lload 8, 2) := by decide +kernel
theorem dX3_waysOn_120 : decode cX3_waysOn 120 = .ok (.lreturn, 1) := by decide +kernel
set_option maxRecDepth 20000 in
theorem ggX3_countWaysOn_X3_waysWith : GoodIn wsX3_countWaysOn wsX3_waysWith := goodIn_r _ [16, 1, 17, 18, 19, 20, 21, 22, 23, 24, 25, 26, 27, 28, 29, 6, 0, 2, 3, 4, 5, 7, 8, 9, 10, 11, 12, 13, 14, 15, 30, 31, 32, 33, 34, 35, 36, 37, 38, 39, 40, 41, 42, 43, 44, 45] (by decide +kernel) (by decide +kernel)
set_option maxRecDepth 20000 in
theorem gX3_countWaysOn_X3_waysWith : GoodIn wsX3_countWaysOn (wsV RX3 93 RX3 yX3_waysWith wsX3_waysWith) := goodIn_app (goodIn_of _ (by decide +kernel)) ggX3_countWaysOn_X3_waysWith
theorem dX3_countWaysOn_0 : decode cX3_countWaysOn 0 = .ok (.lconst 0, 1) := by decide +kernel
theorem dX3_countWaysOn_1 : decode cX3_countWaysOn 1 = .ok (.lstore 4, 2) := by decide +kernel
theorem dX3_countWaysOn_3 : decode cX3_countWaysOn 3 = .ok (.iconst 0, 1) := by decide +kernel
theorem dX3_countWaysOn_4 : decode cX3_countWaysOn 4 = .ok (.istore 6, 2) := by decide +kernel
theorem dX3_countWaysOn_6 : decode cX3_countWaysOn 6 = .ok (.iload 6, 2) := by decide +kernel
theorem dX3_countWaysOn_8 : decode cX3_countWaysOn 8 = .ok (.aload_n 0, 1) := by decide +kernel
theorem dX3_countWaysOn_9 : decode cX3_countWaysOn 9 = .ok (.getfield 32, 3) := by decide +kernel
theorem dX3_countWaysOn_12 : decode cX3_countWaysOn 12 = .ok (.getfield 44, 3) := by decide +kernel
theorem dX3_countWaysOn_15 : decode cX3_countWaysOn 15 = .ok (.if_icmp .ge 23, 3) := by decide +kernel
theorem dX3_countWaysOn_18 : decode cX3_countWaysOn 18 = .ok (.lload 4, 2) := by decide +kernel
theorem dX3_countWaysOn_20 : decode cX3_countWaysOn 20 = .ok (.aload_n 0, 1) := by decide +kernel
theorem dX3_countWaysOn_21 : decode cX3_countWaysOn 21 = .ok (.iload 6, 2) := by decide +kernel
theorem dX3_countWaysOn_23 : decode cX3_countWaysOn 23 = .ok (.iload_n 1, 1) := by decide +kernel
theorem dX3_countWaysOn_24 : decode cX3_countWaysOn 24 = .ok (.iload_n 2, 1) := by decide +kernel
theorem dX3_countWaysOn_25 : decode cX3_countWaysOn 25 = .ok (.iload_n 3, 1) := by decide +kernel
theorem dX3_countWaysOn_26 : decode cX3_countWaysOn 26 = .ok (.invokevirtual 93, 3) := by decide +kernel
theorem dX3_countWaysOn_29 : decode cX3_countWaysOn 29 = .ok (.ladd, 1) := by decide +kernel
theorem dX3_countWaysOn_30 : decode cX3_countWaysOn 30 = .ok (.lstore 4, 2) := by decide +kernel
theorem dX3_countWaysOn_32 : decode cX3_countWaysOn 32 = .ok (.iinc 6 1, 3) := by decide +kernel
theorem dX3_countWaysOn_35 : decode cX3_countWaysOn 35 = .ok (.goto (-29), 3) := by decide +kernel
theorem dX3_countWaysOn_38 : decode cX3_countWaysOn 38 = .ok (.lload 4, 2) := by decide +kernel
theorem dX3_countWaysOn_40 : decode cX3_countWaysOn 40 = .ok (.lreturn, 1) := by decide +kernel
set_option maxRecDepth 20000 in
theorem ggX3_waysWith_X4_mayCome : GoodIn wsX3_waysWith wsX4_mayCome := goodIn_r _ [9, 10, 11, 40, 41, 42, 43, 44, 45] (by decide +kernel) (by decide +kernel)
set_option maxRecDepth 20000 in
theorem gX3_waysWith_X4_mayCome : GoodIn wsX3_waysWith (wsV RX3 53 RX4 yX4_mayCome wsX4_mayCome) := goodIn_app (goodIn_of _ (by decide +kernel)) ggX3_waysWith_X4_mayCome
set_option maxRecDepth 20000 in
theorem ggX3_waysWith_X3_waysOn : GoodIn wsX3_waysWith wsX3_waysOn := goodIn_r _ [21, 22, 23, 24, 25, 15, 26, 27, 28, 29, 16, 1, 17, 18, 19, 20, 0, 2, 3, 4, 5, 6, 7, 8, 9, 10, 11, 12, 13, 14, 30, 31, 32, 33, 34, 35, 36, 37, 38, 39, 40, 41, 42, 43, 44, 45] (by decide +kernel) (by decide +kernel)
set_option maxRecDepth 20000 in
theorem gX3_waysWith_X3_waysOn : GoodIn wsX3_waysWith (wsV RX3 64 RX3 yX3_waysOn wsX3_waysOn) := goodIn_app (goodIn_of _ (by decide +kernel)) ggX3_waysWith_X3_waysOn
theorem dX3_waysWith_0 : decode cX3_waysWith 0 = .ok (.iload_n 3, 1) := by decide +kernel
theorem dX3_waysWith_1 : decode cX3_waysWith 1 = .ok (.aload_n 0, 1) := by decide +kernel
theorem dX3_waysWith_2 : decode cX3_waysWith 2 = .ok (.getfield 32, 3) := by decide +kernel
theorem dX3_waysWith_5 : decode cX3_waysWith 5 = .ok (.getfield 50, 3) := by decide +kernel
theorem dX3_waysWith_8 : decode cX3_waysWith 8 = .ok (.iload_n 1, 1) := by decide +kernel
theorem dX3_waysWith_9 : decode cX3_waysWith 9 = .ok (.iaload, 1) := by decide +kernel
theorem dX3_waysWith_10 : decode cX3_waysWith 10 = .ok (.isub, 1) := by decide +kernel
theorem dX3_waysWith_11 : decode cX3_waysWith 11 = .ok (.istore 5, 2) := by decide +kernel
theorem dX3_waysWith_13 : decode cX3_waysWith 13 = .ok (.iload 4, 2) := by decide +kernel
theorem dX3_waysWith_15 : decode cX3_waysWith 15 = .ok (.aload_n 0, 1) := by decide +kernel
theorem dX3_waysWith_16 : decode cX3_waysWith 16 = .ok (.getfield 9, 3) := by decide +kernel
theorem dX3_waysWith_19 : decode cX3_waysWith 19 = .ok (.iload_n 1, 1) := by decide +kernel
theorem dX3_waysWith_20 : decode cX3_waysWith 20 = .ok (.iaload, 1) := by decide +kernel
theorem dX3_waysWith_21 : decode cX3_waysWith 21 = .ok (.isub, 1) := by decide +kernel
theorem dX3_waysWith_22 : decode cX3_waysWith 22 = .ok (.istore 6, 2) := by decide +kernel
theorem dX3_waysWith_24 : decode cX3_waysWith 24 = .ok (.iload 5, 2) := by decide +kernel
theorem dX3_waysWith_26 : decode cX3_waysWith 26 = .ok (.ifCond .lt 20, 3) := by decide +kernel
theorem dX3_waysWith_29 : decode cX3_waysWith 29 = .ok (.iload 6, 2) := by decide +kernel
theorem dX3_waysWith_31 : decode cX3_waysWith 31 = .ok (.ifCond .lt 15, 3) := by decide +kernel
theorem dX3_waysWith_34 : decode cX3_waysWith 34 = .ok (.aload_n 0, 1) := by decide +kernel
theorem dX3_waysWith_35 : decode cX3_waysWith 35 = .ok (.getfield 32, 3) := by decide +kernel
theorem dX3_waysWith_38 : decode cX3_waysWith 38 = .ok (.iload_n 2, 1) := by decide +kernel
theorem dX3_waysWith_39 : decode cX3_waysWith 39 = .ok (.iload_n 1, 1) := by decide +kernel
theorem dX3_waysWith_40 : decode cX3_waysWith 40 = .ok (.invokevirtual 53, 3) := by decide +kernel
theorem dX3_waysWith_43 : decode cX3_waysWith 43 = .ok (.ifCond .ne 5, 3) := by decide +kernel
theorem dX3_waysWith_46 : decode cX3_waysWith 46 = .ok (.lconst 0, 1) := by decide +kernel
theorem dX3_waysWith_47 : decode cX3_waysWith 47 = .ok (.lreturn, 1) := by decide +kernel
theorem dX3_waysWith_48 : decode cX3_waysWith 48 = .ok (.aload_n 0, 1) := by decide +kernel
theorem dX3_waysWith_49 : decode cX3_waysWith 49 = .ok (.aload_n 0, 1) := by decide +kernel
theorem dX3_waysWith_50 : decode cX3_waysWith 50 = .ok (.getfield 32, 3) := by decide +kernel
theorem dX3_waysWith_53 : decode cX3_waysWith 53 = .ok (.getfield 57, 3) := by decide +kernel
theorem dX3_waysWith_56 : decode cX3_waysWith 56 = .ok (.iload_n 1, 1) := by decide +kernel
theorem dX3_waysWith_57 : decode cX3_waysWith 57 = .ok (.iaload, 1) := by decide +kernel
theorem dX3_waysWith_58 : decode cX3_waysWith 58 = .ok (.iload 5, 2) := by decide +kernel
theorem dX3_waysWith_60 : decode cX3_waysWith 60 = .ok (.iload 6, 2) := by decide +kernel
theorem dX3_waysWith_62 : decode cX3_waysWith 62 = .ok (.invokevirtual 64, 3) := by decide +kernel
theorem dX3_waysWith_65 : decode cX3_waysWith 65 = .ok (.lreturn, 1) := by decide +kernel
theorem dX3_placeKept_0 : decode cX3_placeKept 0 = .ok (.iload_n 0, 1) := by decide +kernel
theorem dX3_placeKept_1 : decode cX3_placeKept 1 = .ok (.iconst 3, 1) := by decide +kernel
theorem dX3_placeKept_2 : decode cX3_placeKept 2 = .ok (.if_icmp .ge 8, 3) := by decide +kernel
theorem dX3_placeKept_5 : decode cX3_placeKept 5 = .ok (.iload_n 1, 1) := by decide +kernel
theorem dX3_placeKept_6 : decode cX3_placeKept 6 = .ok (.iconst 4, 1) := by decide +kernel
theorem dX3_placeKept_7 : decode cX3_placeKept 7 = .ok (.if_icmp .le 5, 3) := by decide +kernel
theorem dX3_placeKept_10 : decode cX3_placeKept 10 = .ok (.iconst (-1), 1) := by decide +kernel
theorem dX3_placeKept_11 : decode cX3_placeKept 11 = .ok (.ireturn, 1) := by decide +kernel
theorem dX3_placeKept_12 : decode cX3_placeKept 12 = .ok (.iload_n 0, 1) := by decide +kernel
theorem dX3_placeKept_13 : decode cX3_placeKept 13 = .ok (.sipush 3001, 3) := by decide +kernel
theorem dX3_placeKept_16 : decode cX3_placeKept 16 = .ok (.imul, 1) := by decide +kernel
theorem dX3_placeKept_17 : decode cX3_placeKept 17 = .ok (.iload_n 2, 1) := by decide +kernel
theorem dX3_placeKept_18 : decode cX3_placeKept 18 = .ok (.iadd, 1) := by decide +kernel
theorem dX3_placeKept_19 : decode cX3_placeKept 19 = .ok (.ireturn, 1) := by decide +kernel
set_option maxRecDepth 20000 in
theorem ggX3_vocableAt_X3_waysWith : GoodIn wsX3_vocableAt wsX3_waysWith := goodIn_r _ [10, 1, 4, 5, 3, 11, 12, 13, 14, 15, 16, 17, 18, 19, 20, 9, 21, 2, 6, 7, 8, 22, 23, 24, 25, 26, 27, 28, 29, 30, 31, 32, 33, 34, 35, 36, 37, 38, 39, 40, 41, 42, 43, 44, 45, 46] (by decide +kernel) (by decide +kernel)
set_option maxRecDepth 20000 in
theorem gX3_vocableAt_X3_waysWith : GoodIn wsX3_vocableAt (wsV RX3 93 RX3 yX3_waysWith wsX3_waysWith) := goodIn_app (goodIn_of _ (by decide +kernel)) ggX3_vocableAt_X3_waysWith
theorem dX3_vocableAt_0 : decode cX3_vocableAt 0 = .ok (.iconst 3, 1) := by decide +kernel
theorem dX3_vocableAt_1 : decode cX3_vocableAt 1 = .ok (.istore 6, 2) := by decide +kernel
theorem dX3_vocableAt_3 : decode cX3_vocableAt 3 = .ok (.iload_n 1, 1) := by decide +kernel
theorem dX3_vocableAt_4 : decode cX3_vocableAt 4 = .ok (.istore 7, 2) := by decide +kernel
theorem dX3_vocableAt_6 : decode cX3_vocableAt 6 = .ok (.iload_n 2, 1) := by decide +kernel
theorem dX3_vocableAt_7 : decode cX3_vocableAt 7 = .ok (.istore 8, 2) := by decide +kernel
theorem dX3_vocableAt_9 : decode cX3_vocableAt 9 = .ok (.lload_n 3, 1) := by decide +kernel
theorem dX3_vocableAt_10 : decode cX3_vocableAt 10 = .ok (.lstore 9, 2) := by decide +kernel
theorem dX3_vocableAt_12 : decode cX3_vocableAt 12 = .ok (.iconst 0, 1) := by decide +kernel
theorem dX3_vocableAt_13 : decode cX3_vocableAt 13 = .ok (.istore 11, 2) := by decide +kernel
theorem dX3_vocableAt_15 : decode cX3_vocableAt 15 = .ok (.iload 11, 2) := by decide +kernel
theorem dX3_vocableAt_17 : decode cX3_vocableAt 17 = .ok (.bipush 8, 2) := by decide +kernel
theorem dX3_vocableAt_19 : decode cX3_vocableAt 19 = .ok (.if_icmp .ge 129, 3) := by decide +kernel
theorem dX3_vocableAt_22 : decode cX3_vocableAt 22 = .ok (.iload 7, 2) := by decide +kernel
theorem dX3_vocableAt_24 : decode cX3_vocableAt 24 = .ok (.ifCond .le 124, 3) := by decide +kernel
theorem dX3_vocableAt_27 : decode cX3_vocableAt 27 = .ok (.iconst 0, 1) := by decide +kernel
theorem dX3_vocableAt_28 : decode cX3_vocableAt 28 = .ok (.istore 12, 2) := by decide +kernel
theorem dX3_vocableAt_30 : decode cX3_vocableAt 30 = .ok (.aload_n 0, 1) := by decide +kernel
theorem dX3_vocableAt_31 : decode cX3_vocableAt 31 = .ok (.iload 12, 2) := by decide +kernel
theorem dX3_vocableAt_33 : decode cX3_vocableAt 33 = .ok (.iload 6, 2) := by decide +kernel
theorem dX3_vocableAt_35 : decode cX3_vocableAt 35 = .ok (.iload 7, 2) := by decide +kernel
theorem dX3_vocableAt_37 : decode cX3_vocableAt 37 = .ok (.iload 8, 2) := by decide +kernel
theorem dX3_vocableAt_39 : decode cX3_vocableAt 39 = .ok (.invokevirtual 93, 3) := by decide +kernel
theorem dX3_vocableAt_42 : decode cX3_vocableAt 42 = .ok (.lstore 13, 2) := by decide +kernel
theorem dX3_vocableAt_44 : decode cX3_vocableAt 44 = .ok (.iload 12, 2) := by decide +kernel
theorem dX3_vocableAt_46 : decode cX3_vocableAt 46 = .ok (.aload_n 0, 1) := by decide +kernel
theorem dX3_vocableAt_47 : decode cX3_vocableAt 47 = .ok (.getfield 32, 3) := by decide +kernel
theorem dX3_vocableAt_50 : decode cX3_vocableAt 50 = .ok (.getfield 44, 3) := by decide +kernel
theorem dX3_vocableAt_53 : decode cX3_vocableAt 53 = .ok (.iconst 1, 1) := by decide +kernel
theorem dX3_vocableAt_54 : decode cX3_vocableAt 54 = .ok (.isub, 1) := by decide +kernel
theorem dX3_vocableAt_55 : decode cX3_vocableAt 55 = .ok (.if_icmp .ge 38, 3) := by decide +kernel
theorem dX3_vocableAt_58 : decode cX3_vocableAt 58 = .ok (.lload 9, 2) := by decide +kernel
theorem dX3_vocableAt_60 : decode cX3_vocableAt 60 = .ok (.lload 13, 2) := by decide +kernel
theorem dX3_vocableAt_62 : decode cX3_vocableAt 62 = .ok (.lcmp, 1) := by decide +kernel
theorem dX3_vocableAt_63 : decode cX3_vocableAt 63 = .ok (.ifCond .lt 30, 3) := by decide +kernel
theorem dX3_vocableAt_66 : decode cX3_vocableAt 66 = .ok (.lload 9, 2) := by decide +kernel
theorem dX3_vocableAt_68 : decode cX3_vocableAt 68 = .ok (.lload 13, 2) := by decide +kernel
theorem dX3_vocableAt_70 : decode cX3_vocableAt 70 = .ok (.lsub, 1) := by decide +kernel
theorem dX3_vocableAt_71 : decode cX3_vocableAt 71 = .ok (.lstore 9, 2) := by decide +kernel
theorem dX3_vocableAt_73 : decode cX3_vocableAt 73 = .ok (.iinc 12 1, 3) := by decide +kernel
theorem dX3_vocableAt_76 : decode cX3_vocableAt 76 = .ok (.aload_n 0, 1) := by decide +kernel
theorem dX3_vocableAt_77 : decode cX3_vocableAt 77 = .ok (.iload 12, 2) := by decide +kernel
theorem dX3_vocableAt_79 : decode cX3_vocableAt 79 = .ok (.iload 6, 2) := by decide +kernel
theorem dX3_vocableAt_81 : decode cX3_vocableAt 81 = .ok (.iload 7, 2) := by decide +kernel
theorem dX3_vocableAt_83 : decode cX3_vocableAt 83 = .ok (.iload 8, 2) := by decide +kernel
theorem dX3_vocableAt_85 : decode cX3_vocableAt 85 = .ok (.invokevirtual 93, 3) := by decide +kernel
theorem dX3_vocableAt_88 : decode cX3_vocableAt 88 = .ok (.lstore 13, 2) := by decide +kernel
theorem dX3_vocableAt_90 : decode cX3_vocableAt 90 = .ok (.goto (-46), 3) := by decide +kernel
theorem dX3_vocableAt_93 : decode cX3_vocableAt 93 = .ok (.iload 11, 2) := by decide +kernel
theorem dX3_vocableAt_95 : decode cX3_vocableAt 95 = .ok (.iload 5, 2) := by decide +kernel
theorem dX3_vocableAt_97 : decode cX3_vocableAt 97 = .ok (.if_icmp .ne 6, 3) := by decide +kernel
theorem dX3_vocableAt_100 : decode cX3_vocableAt 100 = .ok (.iload 12, 2) := by decide +kernel
theorem dX3_vocableAt_102 : decode cX3_vocableAt 102 = .ok (.ireturn, 1) := by decide +kernel
theorem dX3_vocableAt_103 : decode cX3_vocableAt 103 = .ok (.aload_n 0, 1) := by decide +kernel
theorem dX3_vocableAt_104 : decode cX3_vocableAt 104 = .ok (.getfield 32, 3) := by decide +kernel
theorem dX3_vocableAt_107 : decode cX3_vocableAt 107 = .ok (.getfield 57, 3) := by decide +kernel
theorem dX3_vocableAt_110 : decode cX3_vocableAt 110 = .ok (.iload 12, 2) := by decide +kernel
theorem dX3_vocableAt_112 : decode cX3_vocableAt 112 = .ok (.iaload, 1) := by decide +kernel
theorem dX3_vocableAt_113 : decode cX3_vocableAt 113 = .ok (.istore 6, 2) := by decide +kernel
theorem dX3_vocableAt_115 : decode cX3_vocableAt 115 = .ok (.iload 7, 2) := by decide +kernel
theorem dX3_vocableAt_117 : decode cX3_vocableAt 117 = .ok (.aload_n 0, 1) := by decide +kernel
theorem dX3_vocableAt_118 : decode cX3_vocableAt 118 = .ok (.getfield 32, 3) := by decide +kernel
theorem dX3_vocableAt_121 : decode cX3_vocableAt 121 = .ok (.getfield 50, 3) := by decide +kernel
theorem dX3_vocableAt_124 : decode cX3_vocableAt 124 = .ok (.iload 12, 2) := by decide +kernel
theorem dX3_vocableAt_126 : decode cX3_vocableAt 126 = .ok (.iaload, 1) := by decide +kernel
theorem dX3_vocableAt_127 : decode cX3_vocableAt 127 = .ok (.isub, 1) := by decide +kernel
theorem dX3_vocableAt_128 : decode cX3_vocableAt 128 = .ok (.istore 7, 2) := by decide +kernel
theorem dX3_vocableAt_130 : decode cX3_vocableAt 130 = .ok (.iload 8, 2) := by decide +kernel
theorem dX3_vocableAt_132 : decode cX3_vocableAt 132 = .ok (.aload_n 0, 1) := by decide +kernel
theorem dX3_vocableAt_133 : decode cX3_vocableAt 133 = .ok (.getfield 9, 3) := by decide +kernel
theorem dX3_vocableAt_136 : decode cX3_vocableAt 136 = .ok (.iload 12, 2) := by decide +kernel
theorem dX3_vocableAt_138 : decode cX3_vocableAt 138 = .ok (.iaload, 1) := by decide +kernel
theorem dX3_vocableAt_139 : decode cX3_vocableAt 139 = .ok (.isub, 1) := by decide +kernel
theorem dX3_vocableAt_140 : decode cX3_vocableAt 140 = .ok (.istore 8, 2) := by decide +kernel
theorem dX3_vocableAt_142 : decode cX3_vocableAt 142 = .ok (.iinc 11 1, 3) := by decide +kernel
theorem dX3_vocableAt_145 : decode cX3_vocableAt 145 = .ok (.goto (-130), 3) := by decide +kernel
theorem dX3_vocableAt_148 : decode cX3_vocableAt 148 = .ok (.bipush (-9), 2) := by decide +kernel
theorem dX3_vocableAt_150 : decode cX3_vocableAt 150 = .ok (.ireturn, 1) := by decide +kernel
set_option maxRecDepth 20000 in
theorem ggX3_ofTwoSums_X4_putSums : GoodIn wsX3_ofTwoSums wsX4_putSums := goodIn_r _ [9, 10, 11, 12, 13, 14, 15, 16, 17, 18, 19, 20, 21, 22, 23, 24, 25, 26, 27, 28, 53, 54, 55, 56, 57, 58, 59] (by decide +kernel) (by decide +kernel)
set_option maxRecDepth 20000 in
theorem gX3_ofTwoSums_X4_putSums : GoodIn wsX3_ofTwoSums (wsV RX3 74 RX4 yX4_putSums wsX4_putSums) := goodIn_app (goodIn_of _ (by decide +kernel)) ggX3_ofTwoSums_X4_putSums
set_option maxRecDepth 20000 in
theorem ggX3_ofTwoSums_X3_doubleWaysOn : GoodIn wsX3_ofTwoSums wsX3_doubleWaysOn := goodIn_r _ [33, 1, 34, 35, 36, 2, 4, 37, 38, 39, 8, 40, 41, 42, 29, 30, 31, 32, 43, 44, 45, 46, 47, 48, 49, 50, 51, 52, 53, 54, 55, 56, 57, 58] (by decide +kernel) (by decide +kernel)
set_option maxRecDepth 20000 in
theorem gX3_ofTwoSums_X3_doubleWaysOn : GoodIn wsX3_ofTwoSums (wsV RX3 97 RX3 yX3_doubleWaysOn wsX3_doubleWaysOn) := goodIn_app (goodIn_of _ (by decide +kernel)) ggX3_ofTwoSums_X3_doubleWaysOn
theorem dX3_ofTwoSums_0 : decode cX3_ofTwoSums 0 = .ok (.aload_n 0, 1) := by decide +kernel
theorem dX3_ofTwoSums_1 : decode cX3_ofTwoSums 1 = .ok (.getfield 32, 3) := by decide +kernel
theorem dX3_ofTwoSums_4 : decode cX3_ofTwoSums 4 = .ok (.aload_n 0, 1) := by decide +kernel
theorem dX3_ofTwoSums_5 : decode cX3_ofTwoSums 5 = .ok (.getfield 15, 3) := by decide +kernel
theorem dX3_ofTwoSums_8 : decode cX3_ofTwoSums 8 = .ok (.aload_n 0, 1) := by decide +kernel
theorem dX3_ofTwoSums_9 : decode cX3_ofTwoSums 9 = .ok (.getfield 36, 3) := by decide +kernel
theorem dX3_ofTwoSums_12 : decode cX3_ofTwoSums 12 = .ok (.iload 4, 2) := by decide +kernel
theorem dX3_ofTwoSums_14 : decode cX3_ofTwoSums 14 = .ok (.iload 5, 2) := by decide +kernel
theorem dX3_ofTwoSums_16 : decode cX3_ofTwoSums 16 = .ok (.invokevirtual 74, 3) := by decide +kernel
theorem dX3_ofTwoSums_19 : decode cX3_ofTwoSums 19 = .ok (.aload_n 0, 1) := by decide +kernel
theorem dX3_ofTwoSums_20 : decode cX3_ofTwoSums 20 = .ok (.getfield 32, 3) := by decide +kernel
theorem dX3_ofTwoSums_23 : decode cX3_ofTwoSums 23 = .ok (.aload_n 0, 1) := by decide +kernel
theorem dX3_ofTwoSums_24 : decode cX3_ofTwoSums 24 = .ok (.getfield 18, 3) := by decide +kernel
theorem dX3_ofTwoSums_27 : decode cX3_ofTwoSums 27 = .ok (.aload_n 0, 1) := by decide +kernel
theorem dX3_ofTwoSums_28 : decode cX3_ofTwoSums 28 = .ok (.getfield 36, 3) := by decide +kernel
theorem dX3_ofTwoSums_31 : decode cX3_ofTwoSums 31 = .ok (.iload 4, 2) := by decide +kernel
theorem dX3_ofTwoSums_33 : decode cX3_ofTwoSums 33 = .ok (.iload 6, 2) := by decide +kernel
theorem dX3_ofTwoSums_35 : decode cX3_ofTwoSums 35 = .ok (.invokevirtual 74, 3) := by decide +kernel
theorem dX3_ofTwoSums_38 : decode cX3_ofTwoSums 38 = .ok (.aload_n 0, 1) := by decide +kernel
theorem dX3_ofTwoSums_39 : decode cX3_ofTwoSums 39 = .ok (.iconst 3, 1) := by decide +kernel
theorem dX3_ofTwoSums_40 : decode cX3_ofTwoSums 40 = .ok (.iload_n 1, 1) := by decide +kernel
theorem dX3_ofTwoSums_41 : decode cX3_ofTwoSums 41 = .ok (.iload_n 2, 1) := by decide +kernel
theorem dX3_ofTwoSums_42 : decode cX3_ofTwoSums 42 = .ok (.iload_n 3, 1) := by decide +kernel
theorem dX3_ofTwoSums_43 : decode cX3_ofTwoSums 43 = .ok (.invokevirtual 97, 3) := by decide +kernel
theorem dX3_ofTwoSums_46 : decode cX3_ofTwoSums 46 = .ok (.lreturn, 1) := by decide +kernel
set_option maxRecDepth 20000 in
theorem ggX3_doubleWaysOn_X4_mayCome : GoodIn wsX3_doubleWaysOn wsX4_mayCome := goodIn_r _ [11, 12, 13, 28, 29, 30, 31, 32, 33] (by decide +kernel) (by decide +kernel)
set_option maxRecDepth 20000 in
theorem gX3_doubleWaysOn_X4_mayCome : GoodIn wsX3_doubleWaysOn (wsV RX3 53 RX4 yX4_mayCome wsX4_mayCome) := goodIn_app (goodIn_of _ (by decide +kernel)) ggX3_doubleWaysOn_X4_mayCome
set_option maxRecDepth 20000 in
theorem ggX3_doubleWaysOn_X3_doubleWaysOn : GoodIn wsX3_doubleWaysOn wsX3_doubleWaysOn := goodIn_r _ [0, 1, 2, 3, 4, 5, 6, 7, 8, 9, 10, 11, 12, 13, 14, 15, 16, 17, 18, 19, 20, 21, 22, 23, 24, 25, 26, 27, 28, 29, 30, 31, 32, 33] (by decide +kernel) (by decide +kernel)
set_option maxRecDepth 20000 in
theorem gX3_doubleWaysOn_X3_doubleWaysOn : GoodIn wsX3_doubleWaysOn (wsV RX3 97 RX3 yX3_doubleWaysOn wsX3_doubleWaysOn) := goodIn_app (goodIn_of _ (by decide +kernel)) ggX3_doubleWaysOn_X3_doubleWaysOn
theorem dX3_doubleWaysOn_0 : decode cX3_doubleWaysOn 0 = .ok (.iload_n 2, 1) := by decide +kernel
theorem dX3_doubleWaysOn_1 : decode cX3_doubleWaysOn 1 = .ok (.iconst 1, 1) := by decide +kernel
theorem dX3_doubleWaysOn_2 : decode cX3_doubleWaysOn 2 = .ok (.if_icmp .lt 17, 3) := by decide +kernel
theorem dX3_doubleWaysOn_5 : decode cX3_doubleWaysOn 5 = .ok (.iload_n 2, 1) := by decide +kernel
theorem dX3_doubleWaysOn_6 : decode cX3_doubleWaysOn 6 = .ok (.iconst 5, 1) := by decide +kernel
theorem dX3_doubleWaysOn_7 : decode cX3_doubleWaysOn 7 = .ok (.if_icmp .gt 12, 3) := by decide +kernel
theorem dX3_doubleWaysOn_10 : decode cX3_doubleWaysOn 10 = .ok (.iload_n 3, 1) := by decide +kernel
theorem dX3_doubleWaysOn_11 : decode cX3_doubleWaysOn 11 = .ok (.ifCond .lt 8, 3) := by decide +kernel
theorem dX3_doubleWaysOn_14 : decode cX3_doubleWaysOn 14 = .ok (.iload 4, 2) := by decide +kernel
theorem dX3_doubleWaysOn_16 : decode cX3_doubleWaysOn 16 = .ok (.ifCond .ge 22, 3) := by decide +kernel
theorem dX3_doubleWaysOn_19 : decode cX3_doubleWaysOn 19 = .ok (.iload_n 2, 1) := by decide +kernel
theorem dX3_doubleWaysOn_20 : decode cX3_doubleWaysOn 20 = .ok (.ifCond .ne 16, 3) := by decide +kernel
theorem dX3_doubleWaysOn_23 : decode cX3_doubleWaysOn 23 = .ok (.iload_n 3, 1) := by decide +kernel
theorem dX3_doubleWaysOn_24 : decode cX3_doubleWaysOn 24 = .ok (.ifCond .ne 12, 3) := by decide +kernel
theorem dX3_doubleWaysOn_27 : decode cX3_doubleWaysOn 27 = .ok (.iload 4, 2) := by decide +kernel
theorem dX3_doubleWaysOn_29 : decode cX3_doubleWaysOn 29 = .ok (.ifCond .ne 7, 3) := by decide +kernel
theorem dX3_doubleWaysOn_32 : decode cX3_doubleWaysOn 32 = .ok (.lconst 1, 1) := by decide +kernel
theorem dX3_doubleWaysOn_33 : decode cX3_doubleWaysOn 33 = .ok (.goto 4, 3) := by decide +kernel
theorem dX3_doubleWaysOn_36 : decode cX3_doubleWaysOn 36 = .ok (.lconst 0, 1) := by decide +kernel
theorem dX3_doubleWaysOn_37 : decode cX3_doubleWaysOn 37 = .ok (.lreturn, 1) := by decide +kernel
theorem dX3_doubleWaysOn_38 : decode cX3_doubleWaysOn 38 = .ok (.lconst 0, 1) := by decide +kernel
theorem dX3_doubleWaysOn_39 : decode cX3_doubleWaysOn 39 = .ok (.lstore 5, 2) := by decide +kernel
theorem dX3_doubleWaysOn_41 : decode cX3_doubleWaysOn 41 = .ok (.iconst 0, 1) := by decide +kernel
theorem dX3_doubleWaysOn_42 : decode cX3_doubleWaysOn 42 = .ok (.istore 7, 2) := by decide +kernel
theorem dX3_doubleWaysOn_44 : decode cX3_doubleWaysOn 44 = .ok (.iload 7, 2) := by decide +kernel
theorem dX3_doubleWaysOn_46 : decode cX3_doubleWaysOn 46 = .ok (.aload_n 0, 1) := by decide +kernel
theorem dX3_doubleWaysOn_47 : decode cX3_doubleWaysOn 47 = .ok (.getfield 32, 3) := by decide +kernel
theorem dX3_doubleWaysOn_50 : decode cX3_doubleWaysOn 50 = .ok (.getfield 44, 3) := by decide +kernel
theorem dX3_doubleWaysOn_53 : decode cX3_doubleWaysOn 53 = .ok (.if_icmp .ge 72, 3) := by decide +kernel
theorem dX3_doubleWaysOn_56 : decode cX3_doubleWaysOn 56 = .ok (.aload_n 0, 1) := by decide +kernel
theorem dX3_doubleWaysOn_57 : decode cX3_doubleWaysOn 57 = .ok (.getfield 32, 3) := by decide +kernel
theorem dX3_doubleWaysOn_60 : decode cX3_doubleWaysOn 60 = .ok (.iload_n 1, 1) := by decide +kernel
theorem dX3_doubleWaysOn_61 : decode cX3_doubleWaysOn 61 = .ok (.iload 7, 2) := by decide +kernel
theorem dX3_doubleWaysOn_63 : decode cX3_doubleWaysOn 63 = .ok (.invokevirtual 53, 3) := by decide +kernel
theorem dX3_doubleWaysOn_66 : decode cX3_doubleWaysOn 66 = .ok (.ifCond .eq 53, 3) := by decide +kernel
theorem dX3_doubleWaysOn_69 : decode cX3_doubleWaysOn 69 = .ok (.lload 5, 2) := by decide +kernel
theorem dX3_doubleWaysOn_71 : decode cX3_doubleWaysOn 71 = .ok (.aload_n 0, 1) := by decide +kernel
theorem dX3_doubleWaysOn_72 : decode cX3_doubleWaysOn 72 = .ok (.aload_n 0, 1) := by decide +kernel
theorem dX3_doubleWaysOn_73 : decode cX3_doubleWaysOn 73 = .ok (.getfield 32, 3) := by decide +kernel
theorem dX3_doubleWaysOn_76 : decode cX3_doubleWaysOn 76 = .ok (.getfield 57, 3) := by decide +kernel
theorem dX3_doubleWaysOn_79 : decode cX3_doubleWaysOn 79 = .ok (.iload 7, 2) := by decide +kernel
theorem dX3_doubleWaysOn_81 : decode cX3_doubleWaysOn 81 = .ok (.iaload, 1) := by decide +kernel
theorem dX3_doubleWaysOn_82 : decode cX3_doubleWaysOn 82 = .ok (.iload_n 2, 1) := by decide +kernel
theorem dX3_doubleWaysOn_83 : decode cX3_doubleWaysOn 83 = .ok (.aload_n 0, 1) := by decide +kernel
theorem dX3_doubleWaysOn_84 : decode cX3_doubleWaysOn 84 = .ok (.getfield 32, 3) := by decide +kernel
theorem dX3_doubleWaysOn_87 : decode cX3_doubleWaysOn 87 = .ok (.getfield 50, 3) := by decide +kernel
theorem dX3_doubleWaysOn_90 : decode cX3_doubleWaysOn 90 = .ok (.iload 7, 2) := by decide +kernel
theorem dX3_doubleWaysOn_92 : decode cX3_doubleWaysOn 92 = .ok (.iaload, 1) := by decide +kernel
theorem dX3_doubleWaysOn_93 : decode cX3_doubleWaysOn 93 = .ok (.isub, 1) := by decide +kernel
theorem dX3_doubleWaysOn_94 : decode cX3_doubleWaysOn 94 = .ok (.iload_n 3, 1) := by decide +kernel
theorem dX3_doubleWaysOn_95 : decode cX3_doubleWaysOn 95 = .ok (.aload_n 0, 1) := by decide +kernel
theorem dX3_doubleWaysOn_96 : decode cX3_doubleWaysOn 96 = .ok (.getfield 15, 3) := by decide +kernel
theorem dX3_doubleWaysOn_99 : decode cX3_doubleWaysOn 99 = .ok (.iload 7, 2) := by decide +kernel
theorem dX3_doubleWaysOn_101 : decode cX3_doubleWaysOn 101 = .ok (.iaload, 1) := by decide +kernel
theorem dX3_doubleWaysOn_102 : decode cX3_doubleWaysOn 102 = .ok (.isub, 1) := by decide +kernel
theorem dX3_doubleWaysOn_103 : decode cX3_doubleWaysOn 103 = .ok (.iload 4, 2) := by decide +kernel
theorem dX3_doubleWaysOn_105 : decode cX3_doubleWaysOn 105 = .ok (.aload_n 0, 1) := by decide +kernel
theorem dX3_doubleWaysOn_106 : decode cX3_doubleWaysOn 106 = .ok (.getfield 18, 3) := by decide +kernel
theorem dX3_doubleWaysOn_109 : decode cX3_doubleWaysOn 109 = .ok (.iload 7, 2) := by decide +kernel
theorem dX3_doubleWaysOn_111 : decode cX3_doubleWaysOn 111 = .ok (.iaload, 1) := by decide +kernel
theorem dX3_doubleWaysOn_112 : decode cX3_doubleWaysOn 112 = .ok (.isub, 1) := by decide +kernel
theorem dX3_doubleWaysOn_113 : decode cX3_doubleWaysOn 113 = .ok (.invokevirtual 97, 3) := by decide +kernel
theorem dX3_doubleWaysOn_116 : decode cX3_doubleWaysOn 116 = .ok (.ladd, 1) := by decide +kernel
theorem dX3_doubleWaysOn_117 : decode cX3_doubleWaysOn 117 = .ok (.lstore 5, 2) := by decide +kernel
theorem dX3_doubleWaysOn_119 : decode cX3_doubleWaysOn 119 = .ok (.iinc 7 1, 3) := by decide +kernel
theorem dX3_doubleWaysOn_122 : decode cX3_doubleWaysOn 122 = .ok (.goto (-78), 3) := by decide +kernel
theorem dX3_doubleWaysOn_125 : decode cX3_doubleWaysOn 125 = .ok (.lload 5, 2) := by decide +kernel
theorem dX3_doubleWaysOn_127 : decode cX3_doubleWaysOn 127 = .ok (.lreturn, 1) := by decide +kernel
set_option maxRecDepth 20000 in
theorem ggX4_init_J7_fill_53178 : GoodIn wsX4_init wsJ7_fill_53178 := goodIn_r _ [13] (by decide +kernel) (by decide +kernel)
set_option maxRecDepth 20000 in
theorem gX4_init_J7_fill_53178 : GoodIn wsX4_init (va_wsS RX4 27 yJ7_fill_53178 wsJ7_fill_53178) := goodIn_app (goodIn_of _ (by decide +kernel)) ggX4_init_J7_fill_53178
theorem dX4_init_0 : decode cX4_init 0 = .ok (.aload_n 0, 1) := by decide +kernel
theorem dX4_init_1 : decode cX4_init 1 = .ok (.invokespecial 3, 3) := by decide +kernel
theorem dX4_init_4 : decode cX4_init 4 = .ok (.aload_n 0, 1) := by decide +kernel
theorem dX4_init_5 : decode cX4_init 5 = .ok (.bipush 80, 2) := by decide +kernel
theorem dX4_init_7 : decode cX4_init 7 = .ok (.newarray .int, 2) := by decide +kernel
theorem dX4_init_9 : decode cX4_init 9 = .ok (.putfield 9, 3) := by decide +kernel
theorem dX4_init_12 : decode cX4_init 12 = .ok (.aload_n 0, 1) := by decide +kernel
theorem dX4_init_13 : decode cX4_init 13 = .ok (.bipush 10, 2) := by decide +kernel
theorem dX4_init_15 : decode cX4_init 15 = .ok (.newarray .int, 2) := by decide +kernel
theorem dX4_init_17 : decode cX4_init 17 = .ok (.putfield 15, 3) := by decide +kernel
theorem dX4_init_20 : decode cX4_init 20 = .ok (.aload_n 0, 1) := by decide +kernel
theorem dX4_init_21 : decode cX4_init 21 = .ok (.bipush 10, 2) := by decide +kernel
theorem dX4_init_23 : decode cX4_init 23 = .ok (.newarray .int, 2) := by decide +kernel
theorem dX4_init_25 : decode cX4_init 25 = .ok (.putfield 18, 3) := by decide +kernel
theorem dX4_init_28 : decode cX4_init 28 = .ok (.aload_n 0, 1) := by decide +kernel
theorem dX4_init_29 : decode cX4_init 29 = .ok (.bipush 10, 2) := by decide +kernel
theorem dX4_init_31 : decode cX4_init 31 = .ok (.newarray .int, 2) := by decide +kernel
theorem dX4_init_33 : decode cX4_init 33 = .ok (.putfield 21, 3) := by decide +kernel
theorem dX4_init_36 : decode cX4_init 36 = .ok (.aload_n 0, 1) := by decide +kernel
theorem dX4_init_37 : decode cX4_init 37 = .ok (.iconst 4, 1) := by decide +kernel
theorem dX4_init_38 : decode cX4_init 38 = .ok (.newarray .int, 2) := by decide +kernel
theorem dX4_init_40 : decode cX4_init 40 = .ok (.putfield 24, 3) := by decide +kernel
theorem dX4_init_43 : decode cX4_init 43 = .ok (.aload_n 0, 1) := by decide +kernel
theorem dX4_init_44 : decode cX4_init 44 = .ok (.getfield 24, 3) := by decide +kernel
theorem dX4_init_47 : decode cX4_init 47 = .ok (.bipush 7, 2) := by decide +kernel
theorem dX4_init_49 : decode cX4_init 49 = .ok (.invokestatic 27, 3) := by decide +kernel
theorem dX4_init_52 : decode cX4_init 52 = .ok (.return_, 1) := by decide +kernel
theorem dX4_take_0 : decode cX4_take 0 = .ok (.aload_n 1, 1) := by decide +kernel
theorem dX4_take_1 : decode cX4_take 1 = .ok (.getfield 33, 3) := by decide +kernel
theorem dX4_take_4 : decode cX4_take 4 = .ok (.iconst 0, 1) := by decide +kernel
theorem dX4_take_5 : decode cX4_take 5 = .ok (.aload_n 0, 1) := by decide +kernel
theorem dX4_take_6 : decode cX4_take 6 = .ok (.getfield 9, 3) := by decide +kernel
theorem dX4_take_9 : decode cX4_take 9 = .ok (.aload_n 0, 1) := by decide +kernel
theorem dX4_take_10 : decode cX4_take 10 = .ok (.getfield 38, 3) := by decide +kernel
theorem dX4_take_13 : decode cX4_take 13 = .ok (.bipush 8, 2) := by decide +kernel
theorem dX4_take_15 : decode cX4_take 15 = .ok (.imul, 1) := by decide +kernel
theorem dX4_take_16 : decode cX4_take 16 = .ok (.aload_n 1, 1) := by decide +kernel
theorem dX4_take_17 : decode cX4_take 17 = .ok (.getfield 42, 3) := by decide +kernel
theorem dX4_take_20 : decode cX4_take 20 = .ok (.invokestatic 45, 3) := by decide +kernel
theorem dX4_take_23 : decode cX4_take 23 = .ok (.aload_n 0, 1) := by decide +kernel
theorem dX4_take_24 : decode cX4_take 24 = .ok (.getfield 15, 3) := by decide +kernel
theorem dX4_take_27 : decode cX4_take 27 = .ok (.aload_n 0, 1) := by decide +kernel
theorem dX4_take_28 : decode cX4_take 28 = .ok (.getfield 38, 3) := by decide +kernel
theorem dX4_take_31 : decode cX4_take 31 = .ok (.aload_n 1, 1) := by decide +kernel
theorem dX4_take_32 : decode cX4_take 32 = .ok (.getfield 42, 3) := by decide +kernel
theorem dX4_take_35 : decode cX4_take 35 = .ok (.iastore, 1) := by decide +kernel
theorem dX4_take_36 : decode cX4_take 36 = .ok (.aload_n 0, 1) := by decide +kernel
theorem dX4_take_37 : decode cX4_take 37 = .ok (.getfield 18, 3) := by decide +kernel
theorem dX4_take_40 : decode cX4_take 40 = .ok (.aload_n 0, 1) := by decide +kernel
theorem dX4_take_41 : decode cX4_take 41 = .ok (.getfield 38, 3) := by decide +kernel
theorem dX4_take_44 : decode cX4_take 44 = .ok (.iload_n 2, 1) := by decide +kernel
theorem dX4_take_45 : decode cX4_take 45 = .ok (.iastore, 1) := by decide +kernel
theorem dX4_take_46 : decode cX4_take 46 = .ok (.aload_n 0, 1) := by decide +kernel
theorem dX4_take_47 : decode cX4_take 47 = .ok (.getfield 21, 3) := by decide +kernel
theorem dX4_take_50 : decode cX4_take 50 = .ok (.aload_n 0, 1) := by decide +kernel
theorem dX4_take_51 : decode cX4_take 51 = .ok (.getfield 38, 3) := by decide +kernel
theorem dX4_take_54 : decode cX4_take 54 = .ok (.iload_n 3, 1) := by decide +kernel
theorem dX4_take_55 : decode cX4_take 55 = .ok (.iastore, 1) := by decide +kernel
theorem dX4_take_56 : decode cX4_take 56 = .ok (.aload_n 0, 1) := by decide +kernel
theorem dX4_take_57 : decode cX4_take 57 = .ok (.dup, 1) := by decide +kernel
theorem dX4_take_58 : decode cX4_take 58 = .ok (.getfield 38, 3) := by decide +kernel
theorem dX4_take_61 : decode cX4_take 61 = .ok (.iconst 1, 1) := by decide +kernel
theorem dX4_take_62 : decode cX4_take 62 = .ok (.iadd, 1) := by decide +kernel
theorem dX4_take_63 : decode cX4_take 63 = .ok (.putfield 38, 3) := by decide +kernel
theorem dX4_take_66 : decode cX4_take 66 = .ok (.return_, 1) := by decide +kernel
theorem dX4_mayCome_0 : decode cX4_mayCome 0 = .ok (.aload_n 0, 1) := by decide +kernel
theorem dX4_mayCome_1 : decode cX4_mayCome 1 = .ok (.getfield 24, 3) := by decide +kernel
theorem dX4_mayCome_4 : decode cX4_mayCome 4 = .ok (.iload_n 1, 1) := by decide +kernel
theorem dX4_mayCome_5 : decode cX4_mayCome 5 = .ok (.iaload, 1) := by decide +kernel
theorem dX4_mayCome_6 : decode cX4_mayCome 6 = .ok (.aload_n 0, 1) := by decide +kernel
theorem dX4_mayCome_7 : decode cX4_mayCome 7 = .ok (.getfield 21, 3) := by decide +kernel
theorem dX4_mayCome_10 : decode cX4_mayCome 10 = .ok (.iload_n 2, 1) := by decide +kernel
theorem dX4_mayCome_11 : decode cX4_mayCome 11 = .ok (.iaload, 1) := by decide +kernel
theorem dX4_mayCome_12 : decode cX4_mayCome 12 = .ok (.ishr, 1) := by decide +kernel
theorem dX4_mayCome_13 : decode cX4_mayCome 13 = .ok (.iconst 1, 1) := by decide +kernel
theorem dX4_mayCome_14 : decode cX4_mayCome 14 = .ok (.iand, 1) := by decide +kernel
theorem dX4_mayCome_15 : decode cX4_mayCome 15 = .ok (.iconst 1, 1) := by decide +kernel
theorem dX4_mayCome_16 : decode cX4_mayCome 16 = .ok (.if_icmp .ne 7, 3) := by decide +kernel
theorem dX4_mayCome_19 : decode cX4_mayCome 19 = .ok (.iconst 1, 1) := by decide +kernel
theorem dX4_mayCome_20 : decode cX4_mayCome 20 = .ok (.goto 4, 3) := by decide +kernel
theorem dX4_mayCome_23 : decode cX4_mayCome 23 = .ok (.iconst 0, 1) := by decide +kernel
theorem dX4_mayCome_24 : decode cX4_mayCome 24 = .ok (.ireturn, 1) := by decide +kernel
theorem dX4_fitsPart_0 : decode cX4_fitsPart 0 = .ok (.aload_n 2, 1) := by decide +kernel
theorem dX4_fitsPart_1 : decode cX4_fitsPart 1 = .ok (.getfield 51, 3) := by decide +kernel
theorem dX4_fitsPart_4 : decode cX4_fitsPart 4 = .ok (.iload_n 3, 1) := by decide +kernel
theorem dX4_fitsPart_5 : decode cX4_fitsPart 5 = .ok (.iaload, 1) := by decide +kernel
theorem dX4_fitsPart_6 : decode cX4_fitsPart 6 = .ok (.istore 4, 2) := by decide +kernel
theorem dX4_fitsPart_8 : decode cX4_fitsPart 8 = .ok (.aload_n 2, 1) := by decide +kernel
theorem dX4_fitsPart_9 : decode cX4_fitsPart 9 = .ok (.getfield 54, 3) := by decide +kernel
theorem dX4_fitsPart_12 : decode cX4_fitsPart 12 = .ok (.iload_n 3, 1) := by decide +kernel
theorem dX4_fitsPart_13 : decode cX4_fitsPart 13 = .ok (.iaload, 1) := by decide +kernel
theorem dX4_fitsPart_14 : decode cX4_fitsPart 14 = .ok (.iload 4, 2) := by decide +kernel
theorem dX4_fitsPart_16 : decode cX4_fitsPart 16 = .ok (.isub, 1) := by decide +kernel
theorem dX4_fitsPart_17 : decode cX4_fitsPart 17 = .ok (.istore 5, 2) := by decide +kernel
theorem dX4_fitsPart_19 : decode cX4_fitsPart 19 = .ok (.iload 5, 2) := by decide +kernel
theorem dX4_fitsPart_21 : decode cX4_fitsPart 21 = .ok (.aload_n 0, 1) := by decide +kernel
theorem dX4_fitsPart_22 : decode cX4_fitsPart 22 = .ok (.getfield 15, 3) := by decide +kernel
theorem dX4_fitsPart_25 : decode cX4_fitsPart 25 = .ok (.iload_n 1, 1) := by decide +kernel
theorem dX4_fitsPart_26 : decode cX4_fitsPart 26 = .ok (.iaload, 1) := by decide +kernel
theorem dX4_fitsPart_27 : decode cX4_fitsPart 27 = .ok (.if_icmp .eq 5, 3) := by decide +kernel
theorem dX4_fitsPart_30 : decode cX4_fitsPart 30 = .ok (.iconst 0, 1) := by decide +kernel
theorem dX4_fitsPart_31 : decode cX4_fitsPart 31 = .ok (.ireturn, 1) := by decide +kernel
theorem dX4_fitsPart_32 : decode cX4_fitsPart 32 = .ok (.iconst 0, 1) := by decide +kernel
theorem dX4_fitsPart_33 : decode cX4_fitsPart 33 = .ok (.istore 6, 2) := by decide +kernel
theorem dX4_fitsPart_35 : decode cX4_fitsPart 35 = .ok (.iload 6, 2) := by decide +kernel
theorem dX4_fitsPart_37 : decode cX4_fitsPart 37 = .ok (.iload 5, 2) := by decide +kernel
theorem dX4_fitsPart_39 : decode cX4_fitsPart 39 = .ok (.if_icmp .ge 47, 3) := by decide +kernel
theorem dX4_fitsPart_42 : decode cX4_fitsPart 42 = .ok (.aload_n 2, 1) := by decide +kernel
theorem dX4_fitsPart_43 : decode cX4_fitsPart 43 = .ok (.getfield 33, 3) := by decide +kernel
theorem dX4_fitsPart_46 : decode cX4_fitsPart 46 = .ok (.iload 4, 2) := by decide +kernel
theorem dX4_fitsPart_48 : decode cX4_fitsPart 48 = .ok (.iload 6, 2) := by decide +kernel
theorem dX4_fitsPart_50 : decode cX4_fitsPart 50 = .ok (.iadd, 1) := by decide +kernel
theorem dX4_fitsPart_51 : decode cX4_fitsPart 51 = .ok (.iaload, 1) := by decide +kernel
theorem dX4_fitsPart_52 : decode cX4_fitsPart 52 = .ok (.istore 7, 2) := by decide +kernel
theorem dX4_fitsPart_54 : decode cX4_fitsPart 54 = .ok (.iload 7, 2) := by decide +kernel
theorem dX4_fitsPart_56 : decode cX4_fitsPart 56 = .ok (.bipush 63, 2) := by decide +kernel
theorem dX4_fitsPart_58 : decode cX4_fitsPart 58 = .ok (.if_icmp .eq 22, 3) := by decide +kernel
theorem dX4_fitsPart_61 : decode cX4_fitsPart 61 = .ok (.iload 7, 2) := by decide +kernel
theorem dX4_fitsPart_63 : decode cX4_fitsPart 63 = .ok (.aload_n 0, 1) := by decide +kernel
theorem dX4_fitsPart_64 : decode cX4_fitsPart 64 = .ok (.getfield 9, 3) := by decide +kernel
theorem dX4_fitsPart_67 : decode cX4_fitsPart 67 = .ok (.iload_n 1, 1) := by decide +kernel
theorem dX4_fitsPart_68 : decode cX4_fitsPart 68 = .ok (.bipush 8, 2) := by decide +kernel
theorem dX4_fitsPart_70 : decode cX4_fitsPart 70 = .ok (.imul, 1) := by decide +kernel
theorem dX4_fitsPart_71 : decode cX4_fitsPart 71 = .ok (.iload 6, 2) := by decide +kernel
theorem dX4_fitsPart_73 : decode cX4_fitsPart 73 = .ok (.iadd, 1) := by decide +kernel
theorem dX4_fitsPart_74 : decode cX4_fitsPart 74 = .ok (.iaload, 1) := by decide +kernel
theorem dX4_fitsPart_75 : decode cX4_fitsPart 75 = .ok (.if_icmp .eq 5, 3) := by decide +kernel
theorem dX4_fitsPart_78 : decode cX4_fitsPart 78 = .ok (.iconst 0, 1) := by decide +kernel
theorem dX4_fitsPart_79 : decode cX4_fitsPart 79 = .ok (.ireturn, 1) := by decide +kernel
theorem dX4_fitsPart_80 : decode cX4_fitsPart 80 = .ok (.iinc 6 1, 3) := by decide +kernel
theorem dX4_fitsPart_83 : decode cX4_fitsPart 83 = .ok (.goto (-48), 3) := by decide +kernel
theorem dX4_fitsPart_86 : decode cX4_fitsPart 86 = .ok (.iconst 1, 1) := by decide +kernel
theorem dX4_fitsPart_87 : decode cX4_fitsPart 87 = .ok (.ireturn, 1) := by decide +kernel
set_option maxRecDepth 20000 in
theorem ggX4_putSums_X0_sumOf : GoodIn wsX4_putSums wsX0_sumOf := goodIn_r _ [8, 9, 10, 11, 7, 12, 13, 14, 15, 16, 17, 18, 19, 26] (by decide +kernel) (by decide +kernel)
set_option maxRecDepth 20000 in
theorem gX4_putSums_X0_sumOf : GoodIn wsX4_putSums (wsV RX4 57 RX0 yX0_sumOf wsX0_sumOf) := goodIn_app (goodIn_of _ (by decide +kernel)) ggX4_putSums_X0_sumOf
theorem dX4_putSums_0 : decode cX4_putSums 0 = .ok (.iconst 0, 1) := by decide +kernel
theorem dX4_putSums_1 : decode cX4_putSums 1 = .ok (.istore 5, 2) := by decide +kernel
theorem dX4_putSums_3 : decode cX4_putSums 3 = .ok (.iload 5, 2) := by decide +kernel
theorem dX4_putSums_5 : decode cX4_putSums 5 = .ok (.aload_n 0, 1) := by decide +kernel
theorem dX4_putSums_6 : decode cX4_putSums 6 = .ok (.getfield 38, 3) := by decide +kernel
theorem dX4_putSums_9 : decode cX4_putSums 9 = .ok (.if_icmp .ge 43, 3) := by decide +kernel
theorem dX4_putSums_12 : decode cX4_putSums 12 = .ok (.iload 5, 2) := by decide +kernel
theorem dX4_putSums_14 : decode cX4_putSums 14 = .ok (.bipush 8, 2) := by decide +kernel
theorem dX4_putSums_16 : decode cX4_putSums 16 = .ok (.imul, 1) := by decide +kernel
theorem dX4_putSums_17 : decode cX4_putSums 17 = .ok (.istore 6, 2) := by decide +kernel
theorem dX4_putSums_19 : decode cX4_putSums 19 = .ok (.aload_n 1, 1) := by decide +kernel
theorem dX4_putSums_20 : decode cX4_putSums 20 = .ok (.iload 5, 2) := by decide +kernel
theorem dX4_putSums_22 : decode cX4_putSums 22 = .ok (.aload_n 2, 1) := by decide +kernel
theorem dX4_putSums_23 : decode cX4_putSums 23 = .ok (.iload_n 3, 1) := by decide +kernel
theorem dX4_putSums_24 : decode cX4_putSums 24 = .ok (.iload 4, 2) := by decide +kernel
theorem dX4_putSums_26 : decode cX4_putSums 26 = .ok (.aload_n 0, 1) := by decide +kernel
theorem dX4_putSums_27 : decode cX4_putSums 27 = .ok (.getfield 9, 3) := by decide +kernel
theorem dX4_putSums_30 : decode cX4_putSums 30 = .ok (.iload 6, 2) := by decide +kernel
theorem dX4_putSums_32 : decode cX4_putSums 32 = .ok (.iload 6, 2) := by decide +kernel
theorem dX4_putSums_34 : decode cX4_putSums 34 = .ok (.aload_n 0, 1) := by decide +kernel
theorem dX4_putSums_35 : decode cX4_putSums 35 = .ok (.getfield 15, 3) := by decide +kernel
theorem dX4_putSums_38 : decode cX4_putSums 38 = .ok (.iload 5, 2) := by decide +kernel
theorem dX4_putSums_40 : decode cX4_putSums 40 = .ok (.iaload, 1) := by decide +kernel
theorem dX4_putSums_41 : decode cX4_putSums 41 = .ok (.iadd, 1) := by decide +kernel
theorem dX4_putSums_42 : decode cX4_putSums 42 = .ok (.invokevirtual 57, 3) := by decide +kernel
theorem dX4_putSums_45 : decode cX4_putSums 45 = .ok (.iastore, 1) := by decide +kernel
theorem dX4_putSums_46 : decode cX4_putSums 46 = .ok (.iinc 5 1, 3) := by decide +kernel
theorem dX4_putSums_49 : decode cX4_putSums 49 = .ok (.goto (-46), 3) := by decide +kernel
theorem dX4_putSums_52 : decode cX4_putSums 52 = .ok (.return_, 1) := by decide +kernel
end
section
set_option maxRecDepth 20000 in
theorem ggX5_init_X0_init : GoodIn wsX5_init wsX0_init := goodIn_r _ [27, 28, 2, 3, 29, 30, 31, 32, 33, 34, 79] (by decide +kernel) (by decide +kernel)
set_option maxRecDepth 20000 in
theorem gX5_init_X0_init : GoodIn wsX5_init (wsX0_init) := ggX5_init_X0_init
set_option maxRecDepth 20000 in
theorem ggX5_init_X1_init : GoodIn wsX5_init wsX1_init := goodIn_r _ [36, 37, 2, 3, 29, 38, 39, 40, 86, 87, 88, 89, 90] (by decide +kernel) (by decide +kernel)
set_option maxRecDepth 20000 in
theorem gX5_init_X1_init_n18 : GoodIn wsX5_init (wsX1_init) := ggX5_init_X1_init
set_option maxRecDepth 20000 in
theorem ggX5_init_X4_init : GoodIn wsX5_init wsX4_init := goodIn_r _ [43, 44, 2, 3, 29, 45, 46, 47, 48, 49, 50, 51, 52, 53, 91, 92, 93, 94, 95, 96] (by decide +kernel) (by decide +kernel)
set_option maxRecDepth 20000 in
theorem gX5_init_X4_init : GoodIn wsX5_init (wsX4_init) := ggX5_init_X4_init
set_option maxRecDepth 20000 in
theorem ggX5_init_X3_init : GoodIn wsX5_init wsX3_init := goodIn_r _ [56, 57, 2, 3, 29, 58, 59, 60, 61, 62, 63, 64, 65, 66, 97, 98, 99, 100, 101, 102, 103, 104, 105, 106] (by decide +kernel) (by decide +kernel)
set_option maxRecDepth 20000 in
theorem gX5_init_X3_init : GoodIn wsX5_init (wsX3_init) := ggX5_init_X3_init
set_option maxRecDepth 20000 in
theorem ggX5_init_X2_init : GoodIn wsX5_init wsX2_init := goodIn_r _ [69, 70, 2, 3, 29, 71, 61, 72, 73, 74, 75, 76, 77, 78, 107, 108, 109, 110, 111, 112, 113, 114, 115, 116, 117] (by decide +kernel) (by decide +kernel)
set_option maxRecDepth 20000 in
theorem gX5_init_X2_init : GoodIn wsX5_init (wsX2_init) := ggX5_init_X2_init
theorem dX5_init_0 : decode cX5_init 0 = .ok (.aload_n 0, 1) := by decide +kernel
theorem dX5_init_1 : decode cX5_init 1 = .ok (.invokespecial 1, 3) := by decide +kernel
theorem dX5_init_4 : decode cX5_init 4 = .ok (.aload_n 0, 1) := by decide +kernel
theorem dX5_init_5 : decode cX5_init 5 = .ok (.new 7, 3) := by decide +kernel
theorem dX5_init_8 : decode cX5_init 8 = .ok (.dup, 1) := by decide +kernel
theorem dX5_init_9 : decode cX5_init 9 = .ok (.invokespecial 9, 3) := by decide +kernel
theorem dX5_init_12 : decode cX5_init 12 = .ok (.putfield 10, 3) := by decide +kernel
theorem dX5_init_15 : decode cX5_init 15 = .ok (.aload_n 0, 1) := by decide +kernel
theorem dX5_init_16 : decode cX5_init 16 = .ok (.new 16, 3) := by decide +kernel
theorem dX5_init_19 : decode cX5_init 19 = .ok (.dup, 1) := by decide +kernel
theorem dX5_init_20 : decode cX5_init 20 = .ok (.invokespecial 18, 3) := by decide +kernel
theorem dX5_init_23 : decode cX5_init 23 = .ok (.putfield 19, 3) := by decide +kernel
theorem dX5_init_26 : decode cX5_init 26 = .ok (.aload_n 0, 1) := by decide +kernel
theorem dX5_init_27 : decode cX5_init 27 = .ok (.new 23, 3) := by decide +kernel
theorem dX5_init_30 : decode cX5_init 30 = .ok (.dup, 1) := by decide +kernel
theorem dX5_init_31 : decode cX5_init 31 = .ok (.invokespecial 25, 3) := by decide +kernel
theorem dX5_init_34 : decode cX5_init 34 = .ok (.putfield 26, 3) := by decide +kernel
theorem dX5_init_37 : decode cX5_init 37 = .ok (.aload_n 0, 1) := by decide +kernel
theorem dX5_init_38 : decode cX5_init 38 = .ok (.new 30, 3) := by decide +kernel
theorem dX5_init_41 : decode cX5_init 41 = .ok (.dup, 1) := by decide +kernel
theorem dX5_init_42 : decode cX5_init 42 = .ok (.aload_n 0, 1) := by decide +kernel
theorem dX5_init_43 : decode cX5_init 43 = .ok (.getfield 26, 3) := by decide +kernel
theorem dX5_init_46 : decode cX5_init 46 = .ok (.aload_n 0, 1) := by decide +kernel
theorem dX5_init_47 : decode cX5_init 47 = .ok (.getfield 10, 3) := by decide +kernel
theorem dX5_init_50 : decode cX5_init 50 = .ok (.invokespecial 32, 3) := by decide +kernel
theorem dX5_init_53 : decode cX5_init 53 = .ok (.putfield 35, 3) := by decide +kernel
theorem dX5_init_56 : decode cX5_init 56 = .ok (.aload_n 0, 1) := by decide +kernel
theorem dX5_init_57 : decode cX5_init 57 = .ok (.new 39, 3) := by decide +kernel
theorem dX5_init_60 : decode cX5_init 60 = .ok (.dup, 1) := by decide +kernel
theorem dX5_init_61 : decode cX5_init 61 = .ok (.aload_n 0, 1) := by decide +kernel
theorem dX5_init_62 : decode cX5_init 62 = .ok (.getfield 19, 3) := by decide +kernel
theorem dX5_init_65 : decode cX5_init 65 = .ok (.aload_n 0, 1) := by decide +kernel
theorem dX5_init_66 : decode cX5_init 66 = .ok (.getfield 26, 3) := by decide +kernel
theorem dX5_init_69 : decode cX5_init 69 = .ok (.aload_n 0, 1) := by decide +kernel
theorem dX5_init_70 : decode cX5_init 70 = .ok (.getfield 10, 3) := by decide +kernel
theorem dX5_init_73 : decode cX5_init 73 = .ok (.invokespecial 41, 3) := by decide +kernel
theorem dX5_init_76 : decode cX5_init 76 = .ok (.putfield 44, 3) := by decide +kernel
theorem dX5_init_79 : decode cX5_init 79 = .ok (.aload_n 0, 1) := by decide +kernel
theorem dX5_init_80 : decode cX5_init 80 = .ok (.lconst 0, 1) := by decide +kernel
theorem dX5_init_81 : decode cX5_init 81 = .ok (.putfield 48, 3) := by decide +kernel
theorem dX5_init_84 : decode cX5_init 84 = .ok (.return_, 1) := by decide +kernel
set_option maxRecDepth 20000 in
theorem ggX5_value_X5_isWithin : GoodIn wsX5_value wsX5_isWithin := goodIn_r _ [6] (by decide +kernel) (by decide +kernel)
set_option maxRecDepth 20000 in
theorem gX5_value_X5_isWithin : GoodIn wsX5_value (va_wsS RX5 52 yX5_isWithin wsX5_isWithin) := goodIn_app (goodIn_of _ (by decide +kernel)) ggX5_value_X5_isWithin
set_option maxRecDepth 20000 in
theorem ggX5_value_X5_isValue : GoodIn wsX5_value wsX5_isValue := goodIn_r _ [9, 10] (by decide +kernel) (by decide +kernel)
set_option maxRecDepth 20000 in
theorem gX5_value_X5_isValue : GoodIn wsX5_value (va_wsS RX5 56 yX5_isValue wsX5_isValue) := goodIn_app (goodIn_of _ (by decide +kernel)) ggX5_value_X5_isValue
set_option maxRecDepth 20000 in
theorem ggX5_value_X3_forget : GoodIn wsX5_value wsX3_forget := goodIn_r _ [15, 16, 29, 30, 31, 32, 33, 34, 35, 36, 37, 38] (by decide +kernel) (by decide +kernel)
set_option maxRecDepth 20000 in
theorem gX5_value_X3_forget : GoodIn wsX5_value (wsV RX5 60 RX3 yX3_forget wsX3_forget) := goodIn_app (goodIn_of _ (by decide +kernel)) ggX5_value_X3_forget
set_option maxRecDepth 20000 in
theorem ggX5_value_X0_replace : GoodIn wsX5_value wsX0_replace := goodIn_r _ [21, 22, 39] (by decide +kernel) (by decide +kernel)
set_option maxRecDepth 20000 in
theorem gX5_value_X0_replace : GoodIn wsX5_value (wsV RX5 63 RX0 yX0_replace wsX0_replace) := goodIn_app (goodIn_of _ (by decide +kernel)) ggX5_value_X0_replace
theorem dX5_value_0 : decode cX5_value 0 = .ok (.iload_n 1, 1) := by decide +kernel
theorem dX5_value_1 : decode cX5_value 1 = .ok (.iconst 4, 1) := by decide +kernel
theorem dX5_value_2 : decode cX5_value 2 = .ok (.invokestatic 52, 3) := by decide +kernel
theorem dX5_value_5 : decode cX5_value 5 = .ok (.ifCond .eq 22, 3) := by decide +kernel
theorem dX5_value_8 : decode cX5_value 8 = .ok (.iload_n 2, 1) := by decide +kernel
theorem dX5_value_9 : decode cX5_value 9 = .ok (.bipush 97, 2) := by decide +kernel
theorem dX5_value_11 : decode cX5_value 11 = .ok (.if_icmp .lt 16, 3) := by decide +kernel
theorem dX5_value_14 : decode cX5_value 14 = .ok (.iload_n 2, 1) := by decide +kernel
theorem dX5_value_15 : decode cX5_value 15 = .ok (.bipush 122, 2) := by decide +kernel
theorem dX5_value_17 : decode cX5_value 17 = .ok (.if_icmp .gt 10, 3) := by decide +kernel
theorem dX5_value_20 : decode cX5_value 20 = .ok (.iload_n 3, 1) := by decide +kernel
theorem dX5_value_21 : decode cX5_value 21 = .ok (.invokestatic 56, 3) := by decide +kernel
theorem dX5_value_24 : decode cX5_value 24 = .ok (.ifCond .ne 5, 3) := by decide +kernel
theorem dX5_value_27 : decode cX5_value 27 = .ok (.iconst (-1), 1) := by decide +kernel
theorem dX5_value_28 : decode cX5_value 28 = .ok (.ireturn, 1) := by decide +kernel
theorem dX5_value_29 : decode cX5_value 29 = .ok (.aload_n 0, 1) := by decide +kernel
theorem dX5_value_30 : decode cX5_value 30 = .ok (.getfield 35, 3) := by decide +kernel
theorem dX5_value_33 : decode cX5_value 33 = .ok (.invokevirtual 60, 3) := by decide +kernel
theorem dX5_value_36 : decode cX5_value 36 = .ok (.aload_n 0, 1) := by decide +kernel
theorem dX5_value_37 : decode cX5_value 37 = .ok (.getfield 10, 3) := by decide +kernel
theorem dX5_value_40 : decode cX5_value 40 = .ok (.iload_n 1, 1) := by decide +kernel
theorem dX5_value_41 : decode cX5_value 41 = .ok (.iload_n 2, 1) := by decide +kernel
theorem dX5_value_42 : decode cX5_value 42 = .ok (.iload_n 3, 1) := by decide +kernel
theorem dX5_value_43 : decode cX5_value 43 = .ok (.invokevirtual 63, 3) := by decide +kernel
theorem dX5_value_46 : decode cX5_value 46 = .ok (.ireturn, 1) := by decide +kernel
set_option maxRecDepth 20000 in
theorem ggX5_worth_X5_isCustomary : GoodIn wsX5_worth wsX5_isCustomary := goodIn_r _ [7, 8, 9, 6, 10] (by decide +kernel) (by decide +kernel)
set_option maxRecDepth 20000 in
theorem gX5_worth_X5_isCustomary : GoodIn wsX5_worth (va_wsS RX5 67 yX5_isCustomary wsX5_isCustomary) := goodIn_app (goodIn_of _ (by decide +kernel)) ggX5_worth_X5_isCustomary
set_option maxRecDepth 20000 in
theorem ggX5_worth_X5_isWithin : GoodIn wsX5_worth wsX5_isWithin := goodIn_r _ [10] (by decide +kernel) (by decide +kernel)
set_option maxRecDepth 20000 in
theorem gX5_worth_X5_isWithin : GoodIn wsX5_worth (va_wsS RX5 52 yX5_isWithin wsX5_isWithin) := goodIn_app (goodIn_of _ (by decide +kernel)) ggX5_worth_X5_isWithin
set_option maxRecDepth 20000 in
theorem ggX5_worth_X0_worthOf : GoodIn wsX5_worth wsX0_worthOf := goodIn_r _ [15, 16, 17, 6, 18, 19, 20, 21, 28] (by decide +kernel) (by decide +kernel)
set_option maxRecDepth 20000 in
theorem gX5_worth_X0_worthOf : GoodIn wsX5_worth (wsV RX5 74 RX0 yX0_worthOf wsX0_worthOf) := goodIn_app (goodIn_of _ (by decide +kernel)) ggX5_worth_X0_worthOf
theorem dX5_worth_0 : decode cX5_worth 0 = .ok (.iload_n 1, 1) := by decide +kernel
theorem dX5_worth_1 : decode cX5_worth 1 = .ok (.iload_n 2, 1) := by decide +kernel
theorem dX5_worth_2 : decode cX5_worth 2 = .ok (.invokestatic 67, 3) := by decide +kernel
theorem dX5_worth_5 : decode cX5_worth 5 = .ok (.ifCond .eq 24, 3) := by decide +kernel
theorem dX5_worth_8 : decode cX5_worth 8 = .ok (.iload_n 3, 1) := by decide +kernel
theorem dX5_worth_9 : decode cX5_worth 9 = .ok (.sipush 256, 3) := by decide +kernel
theorem dX5_worth_12 : decode cX5_worth 12 = .ok (.invokestatic 52, 3) := by decide +kernel
theorem dX5_worth_15 : decode cX5_worth 15 = .ok (.ifCond .eq 14, 3) := by decide +kernel
theorem dX5_worth_18 : decode cX5_worth 18 = .ok (.iload 4, 2) := by decide +kernel
theorem dX5_worth_20 : decode cX5_worth 20 = .ok (.sipush 256, 3) := by decide +kernel
theorem dX5_worth_23 : decode cX5_worth 23 = .ok (.invokestatic 52, 3) := by decide +kernel
theorem dX5_worth_26 : decode cX5_worth 26 = .ok (.ifCond .ne 5, 3) := by decide +kernel
theorem dX5_worth_29 : decode cX5_worth 29 = .ok (.iconst (-1), 1) := by decide +kernel
theorem dX5_worth_30 : decode cX5_worth 30 = .ok (.ireturn, 1) := by decide +kernel
theorem dX5_worth_31 : decode cX5_worth 31 = .ok (.aload_n 0, 1) := by decide +kernel
theorem dX5_worth_32 : decode cX5_worth 32 = .ok (.dup, 1) := by decide +kernel
theorem dX5_worth_33 : decode cX5_worth 33 = .ok (.getfield 48, 3) := by decide +kernel
theorem dX5_worth_36 : decode cX5_worth 36 = .ok (.getstatic 70, 3) := by decide +kernel
theorem dX5_worth_39 : decode cX5_worth 39 = .ok (.iload_n 1, 1) := by decide +kernel
theorem dX5_worth_40 : decode cX5_worth 40 = .ok (.iaload, 1) := by decide +kernel
theorem dX5_worth_41 : decode cX5_worth 41 = .ok (.i2l, 1) := by decide +kernel
theorem dX5_worth_42 : decode cX5_worth 42 = .ok (.ladd, 1) := by decide +kernel
theorem dX5_worth_43 : decode cX5_worth 43 = .ok (.putfield 48, 3) := by decide +kernel
theorem dX5_worth_46 : decode cX5_worth 46 = .ok (.aload_n 0, 1) := by decide +kernel
theorem dX5_worth_47 : decode cX5_worth 47 = .ok (.getfield 10, 3) := by decide +kernel
theorem dX5_worth_50 : decode cX5_worth 50 = .ok (.iload_n 1, 1) := by decide +kernel
theorem dX5_worth_51 : decode cX5_worth 51 = .ok (.iload_n 2, 1) := by decide +kernel
theorem dX5_worth_52 : decode cX5_worth 52 = .ok (.iload_n 3, 1) := by decide +kernel
theorem dX5_worth_53 : decode cX5_worth 53 = .ok (.iload 4, 2) := by decide +kernel
theorem dX5_worth_55 : decode cX5_worth 55 = .ok (.invokevirtual 74, 3) := by decide +kernel
theorem dX5_worth_58 : decode cX5_worth 58 = .ok (.ireturn, 1) := by decide +kernel
set_option maxRecDepth 20000 in
theorem ggX5_type_X5_mayAllStand : GoodIn wsX5_type wsX5_mayAllStand := goodIn_r _ [6, 7, 8, 5, 9, 10, 11, 12, 13, 14, 15] (by decide +kernel) (by decide +kernel)
set_option maxRecDepth 20000 in
theorem gX5_type_X5_mayAllStand : GoodIn wsX5_type (va_wsS RX5 78 yX5_mayAllStand wsX5_mayAllStand) := goodIn_app (goodIn_of _ (by decide +kernel)) ggX5_type_X5_mayAllStand
set_option maxRecDepth 20000 in
theorem ggX5_type_X1_append : GoodIn wsX5_type wsX1_append := goodIn_r _ [20, 21, 22, 8, 5, 9, 23, 24, 25, 19, 26, 27, 28, 29, 36, 37, 38, 39, 40] (by decide +kernel) (by decide +kernel)
set_option maxRecDepth 20000 in
theorem gX5_type_X1_append : GoodIn wsX5_type (wsV RX5 86 RX1 yX1_append wsX1_append) := goodIn_app (goodIn_of _ (by decide +kernel)) ggX5_type_X1_append
theorem dX5_type_0 : decode cX5_type 0 = .ok (.iload_n 3, 1) := by decide +kernel
theorem dX5_type_1 : decode cX5_type 1 = .ok (.iconst 1, 1) := by decide +kernel
theorem dX5_type_2 : decode cX5_type 2 = .ok (.if_icmp .lt 17, 3) := by decide +kernel
theorem dX5_type_5 : decode cX5_type 5 = .ok (.iload_n 3, 1) := by decide +kernel
theorem dX5_type_6 : decode cX5_type 6 = .ok (.bipush 8, 2) := by decide +kernel
theorem dX5_type_8 : decode cX5_type 8 = .ok (.if_icmp .gt 11, 3) := by decide +kernel
theorem dX5_type_11 : decode cX5_type 11 = .ok (.lload_n 1, 1) := by decide +kernel
theorem dX5_type_12 : decode cX5_type 12 = .ok (.iload_n 3, 1) := by decide +kernel
theorem dX5_type_13 : decode cX5_type 13 = .ok (.invokestatic 78, 3) := by decide +kernel
theorem dX5_type_16 : decode cX5_type 16 = .ok (.ifCond .ne 5, 3) := by decide +kernel
theorem dX5_type_19 : decode cX5_type 19 = .ok (.iconst (-1), 1) := by decide +kernel
theorem dX5_type_20 : decode cX5_type 20 = .ok (.ireturn, 1) := by decide +kernel
theorem dX5_type_21 : decode cX5_type 21 = .ok (.aload_n 0, 1) := by decide +kernel
theorem dX5_type_22 : decode cX5_type 22 = .ok (.getfield 19, 3) := by decide +kernel
theorem dX5_type_25 : decode cX5_type 25 = .ok (.getfield 82, 3) := by decide +kernel
theorem dX5_type_28 : decode cX5_type 28 = .ok (.iload_n 3, 1) := by decide +kernel
theorem dX5_type_29 : decode cX5_type 29 = .ok (.iadd, 1) := by decide +kernel
theorem dX5_type_30 : decode cX5_type 30 = .ok (.bipush 40, 2) := by decide +kernel
theorem dX5_type_32 : decode cX5_type 32 = .ok (.if_icmp .le 6, 3) := by decide +kernel
theorem dX5_type_35 : decode cX5_type 35 = .ok (.bipush (-3), 2) := by decide +kernel
theorem dX5_type_37 : decode cX5_type 37 = .ok (.ireturn, 1) := by decide +kernel
theorem dX5_type_38 : decode cX5_type 38 = .ok (.aload_n 0, 1) := by decide +kernel
theorem dX5_type_39 : decode cX5_type 39 = .ok (.getfield 19, 3) := by decide +kernel
theorem dX5_type_42 : decode cX5_type 42 = .ok (.lload_n 1, 1) := by decide +kernel
theorem dX5_type_43 : decode cX5_type 43 = .ok (.iload_n 3, 1) := by decide +kernel
theorem dX5_type_44 : decode cX5_type 44 = .ok (.invokevirtual 86, 3) := by decide +kernel
theorem dX5_type_47 : decode cX5_type 47 = .ok (.aload_n 0, 1) := by decide +kernel
theorem dX5_type_48 : decode cX5_type 48 = .ok (.getfield 19, 3) := by decide +kernel
theorem dX5_type_51 : decode cX5_type 51 = .ok (.getfield 82, 3) := by decide +kernel
theorem dX5_type_54 : decode cX5_type 54 = .ok (.ireturn, 1) := by decide +kernel
set_option maxRecDepth 20000 in
theorem ggX5_clear_X1_wipe : GoodIn wsX5_clear wsX1_wipe := goodIn_r _ [7, 8, 9, 16, 17, 18, 19, 20] (by decide +kernel) (by decide +kernel)
set_option maxRecDepth 20000 in
theorem gX5_clear_X1_wipe : GoodIn wsX5_clear (wsV RX5 90 RX1 yX1_wipe wsX1_wipe) := goodIn_app (goodIn_of _ (by decide +kernel)) ggX5_clear_X1_wipe
theorem dX5_clear_0 : decode cX5_clear 0 = .ok (.aload_n 0, 1) := by decide +kernel
theorem dX5_clear_1 : decode cX5_clear 1 = .ok (.getfield 19, 3) := by decide +kernel
theorem dX5_clear_4 : decode cX5_clear 4 = .ok (.getfield 82, 3) := by decide +kernel
theorem dX5_clear_7 : decode cX5_clear 7 = .ok (.istore_n 1, 1) := by decide +kernel
theorem dX5_clear_8 : decode cX5_clear 8 = .ok (.aload_n 0, 1) := by decide +kernel
theorem dX5_clear_9 : decode cX5_clear 9 = .ok (.getfield 19, 3) := by decide +kernel
theorem dX5_clear_12 : decode cX5_clear 12 = .ok (.invokevirtual 90, 3) := by decide +kernel
theorem dX5_clear_15 : decode cX5_clear 15 = .ok (.iload_n 1, 1) := by decide +kernel
theorem dX5_clear_16 : decode cX5_clear 16 = .ok (.ireturn, 1) := by decide +kernel
set_option maxRecDepth 20000 in
theorem ggX5_sum_X5_isCustomary : GoodIn wsX5_sum wsX5_isCustomary := goodIn_r _ [4, 5, 6, 3, 7] (by decide +kernel) (by decide +kernel)
set_option maxRecDepth 20000 in
theorem gX5_sum_X5_isCustomary : GoodIn wsX5_sum (va_wsS RX5 67 yX5_isCustomary wsX5_isCustomary) := goodIn_app (goodIn_of _ (by decide +kernel)) ggX5_sum_X5_isCustomary
set_option maxRecDepth 20000 in
theorem ggX5_sum_X5_sumOfDraft : GoodIn wsX5_sum wsX5_sumOfDraft := goodIn_r _ [11, 12, 13, 14, 15, 16, 17, 18, 19, 20, 21, 22, 23, 24, 25, 26, 3, 27, 28, 29, 30, 31, 32, 33, 34, 35, 36, 37, 38, 39, 40, 41, 42] (by decide +kernel) (by decide +kernel)
set_option maxRecDepth 20000 in
theorem gX5_sum_X5_sumOfDraft : GoodIn wsX5_sum (wsV RX5 93 RX5 yX5_sumOfDraft wsX5_sumOfDraft) := goodIn_app (goodIn_of _ (by decide +kernel)) ggX5_sum_X5_sumOfDraft
theorem dX5_sum_0 : decode cX5_sum 0 = .ok (.iload_n 1, 1) := by decide +kernel
theorem dX5_sum_1 : decode cX5_sum 1 = .ok (.iload_n 2, 1) := by decide +kernel
theorem dX5_sum_2 : decode cX5_sum 2 = .ok (.invokestatic 67, 3) := by decide +kernel
theorem dX5_sum_5 : decode cX5_sum 5 = .ok (.ifCond .ne 5, 3) := by decide +kernel
theorem dX5_sum_8 : decode cX5_sum 8 = .ok (.iconst (-1), 1) := by decide +kernel
theorem dX5_sum_9 : decode cX5_sum 9 = .ok (.ireturn, 1) := by decide +kernel
theorem dX5_sum_10 : decode cX5_sum 10 = .ok (.aload_n 0, 1) := by decide +kernel
theorem dX5_sum_11 : decode cX5_sum 11 = .ok (.iload_n 1, 1) := by decide +kernel
theorem dX5_sum_12 : decode cX5_sum 12 = .ok (.iload_n 2, 1) := by decide +kernel
theorem dX5_sum_13 : decode cX5_sum 13 = .ok (.invokevirtual 93, 3) := by decide +kernel
theorem dX5_sum_16 : decode cX5_sum 16 = .ok (.ireturn, 1) := by decide +kernel
set_option maxRecDepth 20000 in
theorem ggX5_vocable_X5_isWithin : GoodIn wsX5_vocable wsX5_isWithin := goodIn_r _ [8] (by decide +kernel) (by decide +kernel)
set_option maxRecDepth 20000 in
theorem gX5_vocable_X5_isWithin : GoodIn wsX5_vocable (va_wsS RX5 52 yX5_isWithin wsX5_isWithin) := goodIn_app (goodIn_of _ (by decide +kernel)) ggX5_vocable_X5_isWithin
set_option maxRecDepth 20000 in
theorem ggX5_vocable_X1_isWord : GoodIn wsX5_vocable wsX1_isWord := goodIn_r _ [13, 14, 15, 16, 7, 17, 18, 19, 20, 60, 61, 62, 63, 64] (by decide +kernel) (by decide +kernel)
set_option maxRecDepth 20000 in
theorem gX5_vocable_X1_isWord : GoodIn wsX5_vocable (wsV RX5 97 RX1 yX1_isWord wsX1_isWord) := goodIn_app (goodIn_of _ (by decide +kernel)) ggX5_vocable_X1_isWord
set_option maxRecDepth 20000 in
theorem ggX5_vocable_X4_take : GoodIn wsX5_vocable wsX4_take := goodIn_r _ [25, 26, 27, 28, 29, 30, 31, 32, 33, 34, 35, 36, 60, 61, 62, 63, 64, 54, 55, 56, 57, 58, 59] (by decide +kernel) (by decide +kernel)
set_option maxRecDepth 20000 in
theorem gX5_vocable_X4_take : GoodIn wsX5_vocable (wsV RX5 104 RX4 yX4_take wsX4_take) := goodIn_app (goodIn_of _ (by decide +kernel)) ggX5_vocable_X4_take
set_option maxRecDepth 20000 in
theorem ggX5_vocable_X1_wipe : GoodIn wsX5_vocable wsX1_wipe := goodIn_r _ [40, 14, 41, 60, 61, 62, 63, 64] (by decide +kernel) (by decide +kernel)
set_option maxRecDepth 20000 in
theorem gX5_vocable_X1_wipe : GoodIn wsX5_vocable (wsV RX5 90 RX1 yX1_wipe wsX1_wipe) := goodIn_app (goodIn_of _ (by decide +kernel)) ggX5_vocable_X1_wipe
set_option maxRecDepth 20000 in
theorem ggX5_vocable_X3_forget : GoodIn wsX5_vocable wsX3_forget := goodIn_r _ [46, 47, 65, 66, 67, 68, 69, 70, 71, 72, 73, 74] (by decide +kernel) (by decide +kernel)
set_option maxRecDepth 20000 in
theorem gX5_vocable_X3_forget : GoodIn wsX5_vocable (wsV RX5 60 RX3 yX3_forget wsX3_forget) := goodIn_app (goodIn_of _ (by decide +kernel)) ggX5_vocable_X3_forget
theorem dX5_vocable_0 : decode cX5_vocable 0 = .ok (.iload_n 1, 1) := by decide +kernel
theorem dX5_vocable_1 : decode cX5_vocable 1 = .ok (.iconst 1, 1) := by decide +kernel
theorem dX5_vocable_2 : decode cX5_vocable 2 = .ok (.if_icmp .lt 16, 3) := by decide +kernel
theorem dX5_vocable_5 : decode cX5_vocable 5 = .ok (.iload_n 1, 1) := by decide +kernel
theorem dX5_vocable_6 : decode cX5_vocable 6 = .ok (.iconst 3, 1) := by decide +kernel
theorem dX5_vocable_7 : decode cX5_vocable 7 = .ok (.if_icmp .gt 11, 3) := by decide +kernel
theorem dX5_vocable_10 : decode cX5_vocable 10 = .ok (.iload_n 2, 1) := by decide +kernel
theorem dX5_vocable_11 : decode cX5_vocable 11 = .ok (.iconst 3, 1) := by decide +kernel
theorem dX5_vocable_12 : decode cX5_vocable 12 = .ok (.invokestatic 52, 3) := by decide +kernel
theorem dX5_vocable_15 : decode cX5_vocable 15 = .ok (.ifCond .ne 5, 3) := by decide +kernel
theorem dX5_vocable_18 : decode cX5_vocable 18 = .ok (.iconst (-1), 1) := by decide +kernel
theorem dX5_vocable_19 : decode cX5_vocable 19 = .ok (.ireturn, 1) := by decide +kernel
theorem dX5_vocable_20 : decode cX5_vocable 20 = .ok (.aload_n 0, 1) := by decide +kernel
theorem dX5_vocable_21 : decode cX5_vocable 21 = .ok (.getfield 19, 3) := by decide +kernel
theorem dX5_vocable_24 : decode cX5_vocable 24 = .ok (.invokevirtual 97, 3) := by decide +kernel
theorem dX5_vocable_27 : decode cX5_vocable 27 = .ok (.ifCond .ne 6, 3) := by decide +kernel
theorem dX5_vocable_30 : decode cX5_vocable 30 = .ok (.bipush (-2), 2) := by decide +kernel
theorem dX5_vocable_32 : decode cX5_vocable 32 = .ok (.ireturn, 1) := by decide +kernel
theorem dX5_vocable_33 : decode cX5_vocable 33 = .ok (.aload_n 0, 1) := by decide +kernel
theorem dX5_vocable_34 : decode cX5_vocable 34 = .ok (.getfield 26, 3) := by decide +kernel
theorem dX5_vocable_37 : decode cX5_vocable 37 = .ok (.getfield 101, 3) := by decide +kernel
theorem dX5_vocable_40 : decode cX5_vocable 40 = .ok (.bipush 10, 2) := by decide +kernel
theorem dX5_vocable_42 : decode cX5_vocable 42 = .ok (.if_icmp .lt 6, 3) := by decide +kernel
theorem dX5_vocable_45 : decode cX5_vocable 45 = .ok (.bipush (-3), 2) := by decide +kernel
theorem dX5_vocable_47 : decode cX5_vocable 47 = .ok (.ireturn, 1) := by decide +kernel
theorem dX5_vocable_48 : decode cX5_vocable 48 = .ok (.aload_n 0, 1) := by decide +kernel
theorem dX5_vocable_49 : decode cX5_vocable 49 = .ok (.getfield 26, 3) := by decide +kernel
theorem dX5_vocable_52 : decode cX5_vocable 52 = .ok (.getfield 101, 3) := by decide +kernel
theorem dX5_vocable_55 : decode cX5_vocable 55 = .ok (.istore_n 3, 1) := by decide +kernel
theorem dX5_vocable_56 : decode cX5_vocable 56 = .ok (.aload_n 0, 1) := by decide +kernel
theorem dX5_vocable_57 : decode cX5_vocable 57 = .ok (.getfield 26, 3) := by decide +kernel
theorem dX5_vocable_60 : decode cX5_vocable 60 = .ok (.aload_n 0, 1) := by decide +kernel
theorem dX5_vocable_61 : decode cX5_vocable 61 = .ok (.getfield 19, 3) := by decide +kernel
theorem dX5_vocable_64 : decode cX5_vocable 64 = .ok (.iload_n 1, 1) := by decide +kernel
theorem dX5_vocable_65 : decode cX5_vocable 65 = .ok (.iload_n 2, 1) := by decide +kernel
theorem dX5_vocable_66 : decode cX5_vocable 66 = .ok (.invokevirtual 104, 3) := by decide +kernel
theorem dX5_vocable_69 : decode cX5_vocable 69 = .ok (.aload_n 0, 1) := by decide +kernel
theorem dX5_vocable_70 : decode cX5_vocable 70 = .ok (.getfield 19, 3) := by decide +kernel
theorem dX5_vocable_73 : decode cX5_vocable 73 = .ok (.invokevirtual 90, 3) := by decide +kernel
theorem dX5_vocable_76 : decode cX5_vocable 76 = .ok (.aload_n 0, 1) := by decide +kernel
theorem dX5_vocable_77 : decode cX5_vocable 77 = .ok (.getfield 35, 3) := by decide +kernel
theorem dX5_vocable_80 : decode cX5_vocable 80 = .ok (.invokevirtual 60, 3) := by decide +kernel
theorem dX5_vocable_83 : decode cX5_vocable 83 = .ok (.iload_n 3, 1) := by decide +kernel
theorem dX5_vocable_84 : decode cX5_vocable 84 = .ok (.ireturn, 1) := by decide +kernel
set_option maxRecDepth 20000 in
theorem ggX5_about_X5_isWithin : GoodIn wsX5_about wsX5_isWithin := goodIn_r _ [10] (by decide +kernel) (by decide +kernel)
set_option maxRecDepth 20000 in
theorem gX5_about_X5_isWithin : GoodIn wsX5_about (va_wsS RX5 52 yX5_isWithin wsX5_isWithin) := goodIn_app (goodIn_of _ (by decide +kernel)) ggX5_about_X5_isWithin
theorem dX5_about_0 : decode cX5_about 0 = .ok (.iload_n 1, 1) := by decide +kernel
theorem dX5_about_1 : decode cX5_about 1 = .ok (.aload_n 0, 1) := by decide +kernel
theorem dX5_about_2 : decode cX5_about 2 = .ok (.getfield 26, 3) := by decide +kernel
theorem dX5_about_5 : decode cX5_about 5 = .ok (.getfield 101, 3) := by decide +kernel
theorem dX5_about_8 : decode cX5_about 8 = .ok (.invokestatic 52, 3) := by decide +kernel
theorem dX5_about_11 : decode cX5_about 11 = .ok (.ifCond .ne 5, 3) := by decide +kernel
theorem dX5_about_14 : decode cX5_about 14 = .ok (.iconst (-1), 1) := by decide +kernel
theorem dX5_about_15 : decode cX5_about 15 = .ok (.ireturn, 1) := by decide +kernel
theorem dX5_about_16 : decode cX5_about 16 = .ok (.iload_n 2, 1) := by decide +kernel
theorem dX5_about_17 : decode cX5_about 17 = .ok (.tableswitch 74 0 3 #[31, 41, 51, 61], 31) := by decide +kernel
theorem dX5_about_48 : decode cX5_about 48 = .ok (.aload_n 0, 1) := by decide +kernel
theorem dX5_about_49 : decode cX5_about 49 = .ok (.getfield 26, 3) := by decide +kernel
theorem dX5_about_52 : decode cX5_about 52 = .ok (.getfield 108, 3) := by decide +kernel
theorem dX5_about_55 : decode cX5_about 55 = .ok (.iload_n 1, 1) := by decide +kernel
theorem dX5_about_56 : decode cX5_about 56 = .ok (.iaload, 1) := by decide +kernel
theorem dX5_about_57 : decode cX5_about 57 = .ok (.ireturn, 1) := by decide +kernel
theorem dX5_about_58 : decode cX5_about 58 = .ok (.aload_n 0, 1) := by decide +kernel
theorem dX5_about_59 : decode cX5_about 59 = .ok (.getfield 26, 3) := by decide +kernel
theorem dX5_about_62 : decode cX5_about 62 = .ok (.getfield 111, 3) := by decide +kernel
theorem dX5_about_65 : decode cX5_about 65 = .ok (.iload_n 1, 1) := by decide +kernel
theorem dX5_about_66 : decode cX5_about 66 = .ok (.iaload, 1) := by decide +kernel
theorem dX5_about_67 : decode cX5_about 67 = .ok (.ireturn, 1) := by decide +kernel
theorem dX5_about_68 : decode cX5_about 68 = .ok (.aload_n 0, 1) := by decide +kernel
theorem dX5_about_69 : decode cX5_about 69 = .ok (.getfield 26, 3) := by decide +kernel
theorem dX5_about_72 : decode cX5_about 72 = .ok (.getfield 114, 3) := by decide +kernel
theorem dX5_about_75 : decode cX5_about 75 = .ok (.iload_n 1, 1) := by decide +kernel
theorem dX5_about_76 : decode cX5_about 76 = .ok (.iaload, 1) := by decide +kernel
theorem dX5_about_77 : decode cX5_about 77 = .ok (.ireturn, 1) := by decide +kernel
theorem dX5_about_78 : decode cX5_about 78 = .ok (.aload_n 0, 1) := by decide +kernel
theorem dX5_about_79 : decode cX5_about 79 = .ok (.getfield 26, 3) := by decide +kernel
theorem dX5_about_82 : decode cX5_about 82 = .ok (.getfield 117, 3) := by decide +kernel
theorem dX5_about_85 : decode cX5_about 85 = .ok (.iload_n 1, 1) := by decide +kernel
theorem dX5_about_86 : decode cX5_about 86 = .ok (.bipush 8, 2) := by decide +kernel
theorem dX5_about_88 : decode cX5_about 88 = .ok (.imul, 1) := by decide +kernel
theorem dX5_about_89 : decode cX5_about 89 = .ok (.iaload, 1) := by decide +kernel
theorem dX5_about_90 : decode cX5_about 90 = .ok (.ireturn, 1) := by decide +kernel
theorem dX5_about_91 : decode cX5_about 91 = .ok (.iconst (-1), 1) := by decide +kernel
theorem dX5_about_92 : decode cX5_about 92 = .ok (.ireturn, 1) := by decide +kernel
set_option maxRecDepth 20000 in
theorem ggX5_order_X5_isWithin : GoodIn wsX5_order wsX5_isWithin := goodIn_r _ [7] (by decide +kernel) (by decide +kernel)
set_option maxRecDepth 20000 in
theorem gX5_order_X5_isWithin : GoodIn wsX5_order (va_wsS RX5 52 yX5_isWithin wsX5_isWithin) := goodIn_app (goodIn_of _ (by decide +kernel)) ggX5_order_X5_isWithin
set_option maxRecDepth 20000 in
theorem ggX5_order_X3_forget : GoodIn wsX5_order wsX3_forget := goodIn_r _ [12, 13, 26, 27, 28, 29, 30, 31, 32, 33, 34, 35] (by decide +kernel) (by decide +kernel)
set_option maxRecDepth 20000 in
theorem gX5_order_X3_forget : GoodIn wsX5_order (wsV RX5 60 RX3 yX3_forget wsX3_forget) := goodIn_app (goodIn_of _ (by decide +kernel)) ggX5_order_X3_forget
theorem dX5_order_0 : decode cX5_order 0 = .ok (.iload_n 1, 1) := by decide +kernel
theorem dX5_order_1 : decode cX5_order 1 = .ok (.iconst 4, 1) := by decide +kernel
theorem dX5_order_2 : decode cX5_order 2 = .ok (.invokestatic 52, 3) := by decide +kernel
theorem dX5_order_5 : decode cX5_order 5 = .ok (.ifCond .eq 12, 3) := by decide +kernel
theorem dX5_order_8 : decode cX5_order 8 = .ok (.iload_n 2, 1) := by decide +kernel
theorem dX5_order_9 : decode cX5_order 9 = .ok (.bipush 8, 2) := by decide +kernel
theorem dX5_order_11 : decode cX5_order 11 = .ok (.invokestatic 52, 3) := by decide +kernel
theorem dX5_order_14 : decode cX5_order 14 = .ok (.ifCond .ne 5, 3) := by decide +kernel
theorem dX5_order_17 : decode cX5_order 17 = .ok (.iconst (-1), 1) := by decide +kernel
theorem dX5_order_18 : decode cX5_order 18 = .ok (.ireturn, 1) := by decide +kernel
theorem dX5_order_19 : decode cX5_order 19 = .ok (.aload_n 0, 1) := by decide +kernel
theorem dX5_order_20 : decode cX5_order 20 = .ok (.getfield 26, 3) := by decide +kernel
theorem dX5_order_23 : decode cX5_order 23 = .ok (.getfield 120, 3) := by decide +kernel
theorem dX5_order_26 : decode cX5_order 26 = .ok (.iload_n 1, 1) := by decide +kernel
theorem dX5_order_27 : decode cX5_order 27 = .ok (.iaload, 1) := by decide +kernel
theorem dX5_order_28 : decode cX5_order 28 = .ok (.istore_n 3, 1) := by decide +kernel
theorem dX5_order_29 : decode cX5_order 29 = .ok (.aload_n 0, 1) := by decide +kernel
theorem dX5_order_30 : decode cX5_order 30 = .ok (.getfield 26, 3) := by decide +kernel
theorem dX5_order_33 : decode cX5_order 33 = .ok (.getfield 120, 3) := by decide +kernel
theorem dX5_order_36 : decode cX5_order 36 = .ok (.iload_n 1, 1) := by decide +kernel
theorem dX5_order_37 : decode cX5_order 37 = .ok (.iload_n 2, 1) := by decide +kernel
theorem dX5_order_38 : decode cX5_order 38 = .ok (.iastore, 1) := by decide +kernel
theorem dX5_order_39 : decode cX5_order 39 = .ok (.aload_n 0, 1) := by decide +kernel
theorem dX5_order_40 : decode cX5_order 40 = .ok (.getfield 35, 3) := by decide +kernel
theorem dX5_order_43 : decode cX5_order 43 = .ok (.invokevirtual 60, 3) := by decide +kernel
theorem dX5_order_46 : decode cX5_order 46 = .ok (.iload_n 3, 1) := by decide +kernel
theorem dX5_order_47 : decode cX5_order 47 = .ok (.ireturn, 1) := by decide +kernel
set_option maxRecDepth 20000 in
theorem ggX5_many_X3_ofFeet : GoodIn wsX5_many wsX3_ofFeet := goodIn_r _ [7, 8, 9, 10, 11, 6, 12, 13, 14, 15, 16, 17, 18, 19, 20, 21, 22, 23, 30, 31, 32, 33, 34, 35, 36, 37, 38, 39, 40, 41, 42, 43, 44, 45] (by decide +kernel) (by decide +kernel)
set_option maxRecDepth 20000 in
theorem gX5_many_X3_ofFeet : GoodIn wsX5_many (wsV RX5 125 RX3 yX3_ofFeet wsX3_ofFeet) := goodIn_app (goodIn_of _ (by decide +kernel)) ggX5_many_X3_ofFeet
theorem dX5_many_0 : decode cX5_many 0 = .ok (.iload_n 1, 1) := by decide +kernel
theorem dX5_many_1 : decode cX5_many 1 = .ok (.iconst 1, 1) := by decide +kernel
theorem dX5_many_2 : decode cX5_many 2 = .ok (.if_icmp .lt 9, 3) := by decide +kernel
theorem dX5_many_5 : decode cX5_many 5 = .ok (.iload_n 1, 1) := by decide +kernel
theorem dX5_many_6 : decode cX5_many 6 = .ok (.bipush 8, 2) := by decide +kernel
theorem dX5_many_8 : decode cX5_many 8 = .ok (.if_icmp .le 7, 3) := by decide +kernel
theorem dX5_many_11 : decode cX5_many 11 = .ok (.ldc2_w 123, 3) := by decide +kernel
theorem dX5_many_14 : decode cX5_many 14 = .ok (.lreturn, 1) := by decide +kernel
theorem dX5_many_15 : decode cX5_many 15 = .ok (.aload_n 0, 1) := by decide +kernel
theorem dX5_many_16 : decode cX5_many 16 = .ok (.getfield 35, 3) := by decide +kernel
theorem dX5_many_19 : decode cX5_many 19 = .ok (.iload_n 1, 1) := by decide +kernel
theorem dX5_many_20 : decode cX5_many 20 = .ok (.invokevirtual 125, 3) := by decide +kernel
theorem dX5_many_23 : decode cX5_many 23 = .ok (.lreturn, 1) := by decide +kernel
set_option maxRecDepth 20000 in
theorem ggX5_lines_X5_isLineAsked : GoodIn wsX5_lines wsX5_isLineAsked := goodIn_r _ [6, 7, 8, 5, 9, 10, 11, 12] (by decide +kernel) (by decide +kernel)
set_option maxRecDepth 20000 in
theorem gX5_lines_X5_isLineAsked : GoodIn wsX5_lines (va_wsS RX5 129 yX5_isLineAsked wsX5_isLineAsked) := goodIn_app (goodIn_of _ (by decide +kernel)) ggX5_lines_X5_isLineAsked
set_option maxRecDepth 20000 in
theorem ggX5_lines_X3_ofSum : GoodIn wsX5_lines wsX3_ofSum := goodIn_r _ [17, 18, 19, 20, 16, 21, 22, 23, 24, 25, 26, 27, 28, 29, 30, 31, 32, 33, 34, 35, 36, 37, 38, 39, 40, 41, 42, 43, 44, 45, 46, 47, 5, 48, 49, 50, 51, 52, 53, 54, 55, 56, 57, 58, 59, 60, 61, 62, 63, 64, 65, 66, 67, 68, 69, 70, 71, 72, 73, 74, 75, 76, 77, 78, 79, 80, 87, 88, 89, 90, 91, 92, 93, 94, 95, 96, 97, 98, 99, 100, 101, 102, 103] (by decide +kernel) (by decide +kernel)
set_option maxRecDepth 20000 in
theorem gX5_lines_X3_ofSum : GoodIn wsX5_lines (wsV RX5 133 RX3 yX3_ofSum wsX3_ofSum) := goodIn_app (goodIn_of _ (by decide +kernel)) ggX5_lines_X3_ofSum
theorem dX5_lines_0 : decode cX5_lines 0 = .ok (.iload_n 1, 1) := by decide +kernel
theorem dX5_lines_1 : decode cX5_lines 1 = .ok (.iload_n 2, 1) := by decide +kernel
theorem dX5_lines_2 : decode cX5_lines 2 = .ok (.iload_n 3, 1) := by decide +kernel
theorem dX5_lines_3 : decode cX5_lines 3 = .ok (.iload 4, 2) := by decide +kernel
theorem dX5_lines_5 : decode cX5_lines 5 = .ok (.invokestatic 129, 3) := by decide +kernel
theorem dX5_lines_8 : decode cX5_lines 8 = .ok (.ifCond .ne 7, 3) := by decide +kernel
theorem dX5_lines_11 : decode cX5_lines 11 = .ok (.ldc2_w 123, 3) := by decide +kernel
theorem dX5_lines_14 : decode cX5_lines 14 = .ok (.lreturn, 1) := by decide +kernel
theorem dX5_lines_15 : decode cX5_lines 15 = .ok (.aload_n 0, 1) := by decide +kernel
theorem dX5_lines_16 : decode cX5_lines 16 = .ok (.getfield 35, 3) := by decide +kernel
theorem dX5_lines_19 : decode cX5_lines 19 = .ok (.iload_n 1, 1) := by decide +kernel
theorem dX5_lines_20 : decode cX5_lines 20 = .ok (.iload_n 2, 1) := by decide +kernel
theorem dX5_lines_21 : decode cX5_lines 21 = .ok (.iload_n 3, 1) := by decide +kernel
theorem dX5_lines_22 : decode cX5_lines 22 = .ok (.iload 4, 2) := by decide +kernel
theorem dX5_lines_24 : decode cX5_lines 24 = .ok (.invokevirtual 133, 3) := by decide +kernel
theorem dX5_lines_27 : decode cX5_lines 27 = .ok (.lreturn, 1) := by decide +kernel
set_option maxRecDepth 20000 in
theorem ggX5_line_X5_isLineAsked : GoodIn wsX5_line wsX5_isLineAsked := goodIn_r _ [5, 6, 7, 4, 8, 9, 10, 11] (by decide +kernel) (by decide +kernel)
set_option maxRecDepth 20000 in
theorem gX5_line_X5_isLineAsked : GoodIn wsX5_line (va_wsS RX5 129 yX5_isLineAsked wsX5_isLineAsked) := goodIn_app (goodIn_of _ (by decide +kernel)) ggX5_line_X5_isLineAsked
set_option maxRecDepth 20000 in
theorem ggX5_line_X3_ofSum : GoodIn wsX5_line wsX3_ofSum := goodIn_r _ [16, 17, 18, 19, 15, 20, 21, 22, 23, 24, 25, 26, 27, 28, 29, 30, 31, 32, 33, 34, 35, 36, 37, 38, 39, 40, 41, 42, 43, 44, 45, 46, 4, 47, 48, 49, 50, 51, 52, 53, 54, 55, 56, 57, 58, 59, 60, 61, 62, 63, 64, 65, 66, 67, 68, 69, 70, 71, 72, 73, 74, 75, 76, 77, 78, 79, 90, 91, 92, 93, 94, 95, 96, 97, 98, 99, 100, 101, 102, 103, 104, 105, 106] (by decide +kernel) (by decide +kernel)
set_option maxRecDepth 20000 in
theorem gX5_line_X3_ofSum : GoodIn wsX5_line (wsV RX5 133 RX3 yX3_ofSum wsX3_ofSum) := goodIn_app (goodIn_of _ (by decide +kernel)) ggX5_line_X3_ofSum
set_option maxRecDepth 20000 in
theorem ggX5_line_X3_vocableAt : GoodIn wsX5_line wsX3_vocableAt := goodIn_r _ [83, 24, 67, 73, 72, 25, 68, 69, 70, 15, 71, 74, 75, 76, 31, 77, 78, 79, 55, 56, 57, 66, 58, 27, 59, 60, 61, 62, 63, 64, 65, 90, 91, 92, 93, 94, 95, 96, 97, 98, 99, 100, 101, 102, 103, 104, 105] (by decide +kernel) (by decide +kernel)
set_option maxRecDepth 20000 in
theorem gX5_line_X3_vocableAt : GoodIn wsX5_line (wsV RX5 137 RX3 yX3_vocableAt wsX3_vocableAt) := goodIn_app (goodIn_of _ (by decide +kernel)) ggX5_line_X3_vocableAt
theorem dX5_line_0 : decode cX5_line 0 = .ok (.iload_n 1, 1) := by decide +kernel
theorem dX5_line_1 : decode cX5_line 1 = .ok (.iload_n 2, 1) := by decide +kernel
theorem dX5_line_2 : decode cX5_line 2 = .ok (.iload_n 3, 1) := by decide +kernel
theorem dX5_line_3 : decode cX5_line 3 = .ok (.iload 4, 2) := by decide +kernel
theorem dX5_line_5 : decode cX5_line 5 = .ok (.invokestatic 129, 3) := by decide +kernel
theorem dX5_line_8 : decode cX5_line 8 = .ok (.ifCond .eq 15, 3) := by decide +kernel
theorem dX5_line_11 : decode cX5_line 11 = .ok (.lload 5, 2) := by decide +kernel
theorem dX5_line_13 : decode cX5_line 13 = .ok (.lconst 0, 1) := by decide +kernel
theorem dX5_line_14 : decode cX5_line 14 = .ok (.lcmp, 1) := by decide +kernel
theorem dX5_line_15 : decode cX5_line 15 = .ok (.ifCond .lt 8, 3) := by decide +kernel
theorem dX5_line_18 : decode cX5_line 18 = .ok (.iload 7, 2) := by decide +kernel
theorem dX5_line_20 : decode cX5_line 20 = .ok (.ifCond .ge 6, 3) := by decide +kernel
theorem dX5_line_23 : decode cX5_line 23 = .ok (.bipush (-2), 2) := by decide +kernel
theorem dX5_line_25 : decode cX5_line 25 = .ok (.ireturn, 1) := by decide +kernel
theorem dX5_line_26 : decode cX5_line 26 = .ok (.lload 5, 2) := by decide +kernel
theorem dX5_line_28 : decode cX5_line 28 = .ok (.aload_n 0, 1) := by decide +kernel
theorem dX5_line_29 : decode cX5_line 29 = .ok (.getfield 35, 3) := by decide +kernel
theorem dX5_line_32 : decode cX5_line 32 = .ok (.iload_n 1, 1) := by decide +kernel
theorem dX5_line_33 : decode cX5_line 33 = .ok (.iload_n 2, 1) := by decide +kernel
theorem dX5_line_34 : decode cX5_line 34 = .ok (.iload_n 3, 1) := by decide +kernel
theorem dX5_line_35 : decode cX5_line 35 = .ok (.iload 4, 2) := by decide +kernel
theorem dX5_line_37 : decode cX5_line 37 = .ok (.invokevirtual 133, 3) := by decide +kernel
theorem dX5_line_40 : decode cX5_line 40 = .ok (.lcmp, 1) := by decide +kernel
theorem dX5_line_41 : decode cX5_line 41 = .ok (.ifCond .lt 6, 3) := by decide +kernel
theorem dX5_line_44 : decode cX5_line 44 = .ok (.bipush (-2), 2) := by decide +kernel
theorem dX5_line_46 : decode cX5_line 46 = .ok (.ireturn, 1) := by decide +kernel
theorem dX5_line_47 : decode cX5_line 47 = .ok (.aload_n 0, 1) := by decide +kernel
theorem dX5_line_48 : decode cX5_line 48 = .ok (.getfield 35, 3) := by decide +kernel
theorem dX5_line_51 : decode cX5_line 51 = .ok (.iload_n 1, 1) := by decide +kernel
theorem dX5_line_52 : decode cX5_line 52 = .ok (.iload_n 2, 1) := by decide +kernel
theorem dX5_line_53 : decode cX5_line 53 = .ok (.lload 5, 2) := by decide +kernel
theorem dX5_line_55 : decode cX5_line 55 = .ok (.iload 7, 2) := by decide +kernel
theorem dX5_line_57 : decode cX5_line 57 = .ok (.invokevirtual 137, 3) := by decide +kernel
theorem dX5_line_60 : decode cX5_line 60 = .ok (.ireturn, 1) := by decide +kernel
set_option maxRecDepth 20000 in
theorem ggX5_doubles_X5_isLineAsked : GoodIn wsX5_doubles wsX5_isLineAsked := goodIn_r _ [6, 7, 8, 5, 9, 10, 11, 12] (by decide +kernel) (by decide +kernel)
set_option maxRecDepth 20000 in
theorem gX5_doubles_X5_isLineAsked : GoodIn wsX5_doubles (va_wsS RX5 129 yX5_isLineAsked wsX5_isLineAsked) := goodIn_app (goodIn_of _ (by decide +kernel)) ggX5_doubles_X5_isLineAsked
set_option maxRecDepth 20000 in
theorem ggX5_doubles_X3_ofTwoSums : GoodIn wsX5_doubles wsX3_ofTwoSums := goodIn_r _ [17, 18, 19, 20, 21, 22, 23, 24, 25, 26, 27, 28, 29, 30, 31, 32, 33, 34, 35, 36, 37, 38, 39, 40, 5, 41, 42, 43, 44, 45, 46, 47, 16, 48, 49, 50, 51, 52, 53, 54, 55, 56, 57, 64, 65, 66, 67, 68, 69, 70, 71, 72, 73, 74, 75, 76, 77, 78, 79, 80] (by decide +kernel) (by decide +kernel)
set_option maxRecDepth 20000 in
theorem gX5_doubles_X3_ofTwoSums : GoodIn wsX5_doubles (wsV RX5 141 RX3 yX3_ofTwoSums wsX3_ofTwoSums) := goodIn_app (goodIn_of _ (by decide +kernel)) ggX5_doubles_X3_ofTwoSums
theorem dX5_doubles_0 : decode cX5_doubles 0 = .ok (.iload_n 1, 1) := by decide +kernel
theorem dX5_doubles_1 : decode cX5_doubles 1 = .ok (.iconst 5, 1) := by decide +kernel
theorem dX5_doubles_2 : decode cX5_doubles 2 = .ok (.if_icmp .gt 27, 3) := by decide +kernel
theorem dX5_doubles_5 : decode cX5_doubles 5 = .ok (.iload_n 1, 1) := by decide +kernel
theorem dX5_doubles_6 : decode cX5_doubles 6 = .ok (.iload_n 2, 1) := by decide +kernel
theorem dX5_doubles_7 : decode cX5_doubles 7 = .ok (.iload 4, 2) := by decide +kernel
theorem dX5_doubles_9 : decode cX5_doubles 9 = .ok (.iload 5, 2) := by decide +kernel
theorem dX5_doubles_11 : decode cX5_doubles 11 = .ok (.invokestatic 129, 3) := by decide +kernel
theorem dX5_doubles_14 : decode cX5_doubles 14 = .ok (.ifCond .eq 15, 3) := by decide +kernel
theorem dX5_doubles_17 : decode cX5_doubles 17 = .ok (.iload_n 1, 1) := by decide +kernel
theorem dX5_doubles_18 : decode cX5_doubles 18 = .ok (.iload_n 3, 1) := by decide +kernel
theorem dX5_doubles_19 : decode cX5_doubles 19 = .ok (.iload 4, 2) := by decide +kernel
theorem dX5_doubles_21 : decode cX5_doubles 21 = .ok (.iload 6, 2) := by decide +kernel
theorem dX5_doubles_23 : decode cX5_doubles 23 = .ok (.invokestatic 129, 3) := by decide +kernel
theorem dX5_doubles_26 : decode cX5_doubles 26 = .ok (.ifCond .ne 7, 3) := by decide +kernel
theorem dX5_doubles_29 : decode cX5_doubles 29 = .ok (.ldc2_w 123, 3) := by decide +kernel
theorem dX5_doubles_32 : decode cX5_doubles 32 = .ok (.lreturn, 1) := by decide +kernel
theorem dX5_doubles_33 : decode cX5_doubles 33 = .ok (.aload_n 0, 1) := by decide +kernel
theorem dX5_doubles_34 : decode cX5_doubles 34 = .ok (.getfield 35, 3) := by decide +kernel
theorem dX5_doubles_37 : decode cX5_doubles 37 = .ok (.iload_n 1, 1) := by decide +kernel
theorem dX5_doubles_38 : decode cX5_doubles 38 = .ok (.iload_n 2, 1) := by decide +kernel
theorem dX5_doubles_39 : decode cX5_doubles 39 = .ok (.iload_n 3, 1) := by decide +kernel
theorem dX5_doubles_40 : decode cX5_doubles 40 = .ok (.iload 4, 2) := by decide +kernel
theorem dX5_doubles_42 : decode cX5_doubles 42 = .ok (.iload 5, 2) := by decide +kernel
theorem dX5_doubles_44 : decode cX5_doubles 44 = .ok (.iload 6, 2) := by decide +kernel
theorem dX5_doubles_46 : decode cX5_doubles 46 = .ok (.invokevirtual 141, 3) := by decide +kernel
theorem dX5_doubles_49 : decode cX5_doubles 49 = .ok (.lreturn, 1) := by decide +kernel
set_option maxRecDepth 20000 in
theorem ggX5_fit_X5_isWithin : GoodIn wsX5_fit wsX5_isWithin := goodIn_r _ [7] (by decide +kernel) (by decide +kernel)
set_option maxRecDepth 20000 in
theorem gX5_fit_X5_isWithin : GoodIn wsX5_fit (va_wsS RX5 52 yX5_isWithin wsX5_isWithin) := goodIn_app (goodIn_of _ (by decide +kernel)) ggX5_fit_X5_isWithin
set_option maxRecDepth 20000 in
theorem ggX5_fit_X2_fittingPart : GoodIn wsX5_fit wsX2_fittingPart := goodIn_r _ [12, 13, 14, 15, 16, 17, 18, 19, 20, 21, 22, 23, 24, 25, 37, 38, 39, 40, 41, 42, 43, 44, 45, 46, 47, 48, 49, 50, 51, 52, 53, 32, 33, 34, 35, 36] (by decide +kernel) (by decide +kernel)
set_option maxRecDepth 20000 in
theorem gX5_fit_X2_fittingPart : GoodIn wsX5_fit (wsV RX5 148 RX2 yX2_fittingPart wsX2_fittingPart) := goodIn_app (goodIn_of _ (by decide +kernel)) ggX5_fit_X2_fittingPart
theorem dX5_fit_0 : decode cX5_fit 0 = .ok (.iload_n 1, 1) := by decide +kernel
theorem dX5_fit_1 : decode cX5_fit 1 = .ok (.aload_n 0, 1) := by decide +kernel
theorem dX5_fit_2 : decode cX5_fit 2 = .ok (.getfield 19, 3) := by decide +kernel
theorem dX5_fit_5 : decode cX5_fit 5 = .ok (.getfield 145, 3) := by decide +kernel
theorem dX5_fit_8 : decode cX5_fit 8 = .ok (.invokestatic 52, 3) := by decide +kernel
theorem dX5_fit_11 : decode cX5_fit 11 = .ok (.ifCond .ne 5, 3) := by decide +kernel
theorem dX5_fit_14 : decode cX5_fit 14 = .ok (.iconst (-1), 1) := by decide +kernel
theorem dX5_fit_15 : decode cX5_fit 15 = .ok (.ireturn, 1) := by decide +kernel
theorem dX5_fit_16 : decode cX5_fit 16 = .ok (.aload_n 0, 1) := by decide +kernel
theorem dX5_fit_17 : decode cX5_fit 17 = .ok (.getfield 44, 3) := by decide +kernel
theorem dX5_fit_20 : decode cX5_fit 20 = .ok (.iload_n 1, 1) := by decide +kernel
theorem dX5_fit_21 : decode cX5_fit 21 = .ok (.invokevirtual 148, 3) := by decide +kernel
theorem dX5_fit_24 : decode cX5_fit 24 = .ok (.ireturn, 1) := by decide +kernel
set_option maxRecDepth 20000 in
theorem ggX5_readings_X2_howManyReadings : GoodIn wsX5_readings wsX2_howManyReadings := goodIn_r _ [8, 9, 10, 11, 12, 13, 14, 15, 16, 17, 18, 19, 20, 21, 22, 23, 7, 24, 25, 26, 27, 28, 29, 30, 31, 32, 33, 34, 35, 36, 37, 38, 39, 40, 41, 42, 43, 44, 45, 46, 47, 48, 60, 61, 62, 63, 64, 65, 66, 67, 68, 69, 70, 55, 56, 57, 58, 59, 71, 72, 73, 74, 75, 76] (by decide +kernel) (by decide +kernel)
set_option maxRecDepth 20000 in
theorem gX5_readings_X2_howManyReadings : GoodIn wsX5_readings (wsV RX5 152 RX2 yX2_howManyReadings wsX2_howManyReadings) := goodIn_app (goodIn_of _ (by decide +kernel)) ggX5_readings_X2_howManyReadings
theorem dX5_readings_0 : decode cX5_readings 0 = .ok (.aload_n 0, 1) := by decide +kernel
theorem dX5_readings_1 : decode cX5_readings 1 = .ok (.getfield 19, 3) := by decide +kernel
theorem dX5_readings_4 : decode cX5_readings 4 = .ok (.getfield 145, 3) := by decide +kernel
theorem dX5_readings_7 : decode cX5_readings 7 = .ok (.ifCond .ne 6, 3) := by decide +kernel
theorem dX5_readings_10 : decode cX5_readings 10 = .ok (.bipush (-2), 2) := by decide +kernel
theorem dX5_readings_12 : decode cX5_readings 12 = .ok (.ireturn, 1) := by decide +kernel
theorem dX5_readings_13 : decode cX5_readings 13 = .ok (.aload_n 0, 1) := by decide +kernel
theorem dX5_readings_14 : decode cX5_readings 14 = .ok (.getfield 44, 3) := by decide +kernel
theorem dX5_readings_17 : decode cX5_readings 17 = .ok (.invokevirtual 152, 3) := by decide +kernel
theorem dX5_readings_20 : decode cX5_readings 20 = .ok (.ireturn, 1) := by decide +kernel
set_option maxRecDepth 20000 in
theorem ggX5_years_X5_isCustomary : GoodIn wsX5_years wsX5_isCustomary := goodIn_r _ [10, 11, 12, 9, 13] (by decide +kernel) (by decide +kernel)
set_option maxRecDepth 20000 in
theorem gX5_years_X5_isCustomary : GoodIn wsX5_years (va_wsS RX5 67 yX5_isCustomary wsX5_isCustomary) := goodIn_app (goodIn_of _ (by decide +kernel)) ggX5_years_X5_isCustomary
set_option maxRecDepth 20000 in
theorem ggX5_years_X5_isWithin : GoodIn wsX5_years wsX5_isWithin := goodIn_r _ [13] (by decide +kernel) (by decide +kernel)
set_option maxRecDepth 20000 in
theorem gX5_years_X5_isWithin : GoodIn wsX5_years (va_wsS RX5 52 yX5_isWithin wsX5_isWithin) := goodIn_app (goodIn_of _ (by decide +kernel)) ggX5_years_X5_isWithin
set_option maxRecDepth 20000 in
theorem ggX5_years_X2_findYears : GoodIn wsX5_years wsX2_findYears := goodIn_r _ [18, 19, 20, 21, 22, 23, 24, 25, 26, 27, 28, 29, 30, 31, 32, 33, 34, 35, 36, 37, 38, 39, 40, 41, 42, 43, 44, 45, 46, 9, 47, 48, 49, 50, 51, 52, 53, 54, 55, 56, 57, 17, 58, 59, 60, 61, 62, 63, 64, 65, 66, 67, 68, 69, 70, 71, 72, 73, 74, 75, 76, 77, 78, 79, 80, 81, 82, 83, 84, 85, 86, 87, 88, 89, 90, 102, 103, 104, 105, 106, 107, 108, 109, 110, 111, 112, 97, 98, 99, 100, 101, 113, 114, 115, 116, 117, 118, 119] (by decide +kernel) (by decide +kernel)
set_option maxRecDepth 20000 in
theorem gX5_years_X2_findYears : GoodIn wsX5_years (wsV RX5 156 RX2 yX2_findYears wsX2_findYears) := goodIn_app (goodIn_of _ (by decide +kernel)) ggX5_years_X2_findYears
theorem dX5_years_0 : decode cX5_years 0 = .ok (.iload_n 1, 1) := by decide +kernel
theorem dX5_years_1 : decode cX5_years 1 = .ok (.iload_n 2, 1) := by decide +kernel
theorem dX5_years_2 : decode cX5_years 2 = .ok (.invokestatic 67, 3) := by decide +kernel
theorem dX5_years_5 : decode cX5_years 5 = .ok (.ifCond .eq 11, 3) := by decide +kernel
theorem dX5_years_8 : decode cX5_years 8 = .ok (.iload_n 3, 1) := by decide +kernel
theorem dX5_years_9 : decode cX5_years 9 = .ok (.iconst 4, 1) := by decide +kernel
theorem dX5_years_10 : decode cX5_years 10 = .ok (.invokestatic 52, 3) := by decide +kernel
theorem dX5_years_13 : decode cX5_years 13 = .ok (.ifCond .ne 5, 3) := by decide +kernel
theorem dX5_years_16 : decode cX5_years 16 = .ok (.iconst (-1), 1) := by decide +kernel
theorem dX5_years_17 : decode cX5_years 17 = .ok (.ireturn, 1) := by decide +kernel
theorem dX5_years_18 : decode cX5_years 18 = .ok (.aload_n 0, 1) := by decide +kernel
theorem dX5_years_19 : decode cX5_years 19 = .ok (.getfield 19, 3) := by decide +kernel
theorem dX5_years_22 : decode cX5_years 22 = .ok (.getfield 145, 3) := by decide +kernel
theorem dX5_years_25 : decode cX5_years 25 = .ok (.ifCond .ne 6, 3) := by decide +kernel
theorem dX5_years_28 : decode cX5_years 28 = .ok (.bipush (-2), 2) := by decide +kernel
theorem dX5_years_30 : decode cX5_years 30 = .ok (.ireturn, 1) := by decide +kernel
theorem dX5_years_31 : decode cX5_years 31 = .ok (.aload_n 0, 1) := by decide +kernel
theorem dX5_years_32 : decode cX5_years 32 = .ok (.getfield 44, 3) := by decide +kernel
theorem dX5_years_35 : decode cX5_years 35 = .ok (.iload_n 1, 1) := by decide +kernel
theorem dX5_years_36 : decode cX5_years 36 = .ok (.iload_n 2, 1) := by decide +kernel
theorem dX5_years_37 : decode cX5_years 37 = .ok (.invokevirtual 156, 3) := by decide +kernel
theorem dX5_years_40 : decode cX5_years 40 = .ok (.iload_n 3, 1) := by decide +kernel
theorem dX5_years_41 : decode cX5_years 41 = .ok (.tableswitch 51 0 2 #[27, 35, 43], 27) := by decide +kernel
theorem dX5_years_68 : decode cX5_years 68 = .ok (.aload_n 0, 1) := by decide +kernel
theorem dX5_years_69 : decode cX5_years 69 = .ok (.getfield 44, 3) := by decide +kernel
theorem dX5_years_72 : decode cX5_years 72 = .ok (.getfield 160, 3) := by decide +kernel
theorem dX5_years_75 : decode cX5_years 75 = .ok (.ireturn, 1) := by decide +kernel
theorem dX5_years_76 : decode cX5_years 76 = .ok (.aload_n 0, 1) := by decide +kernel
theorem dX5_years_77 : decode cX5_years 77 = .ok (.getfield 44, 3) := by decide +kernel
theorem dX5_years_80 : decode cX5_years 80 = .ok (.getfield 163, 3) := by decide +kernel
theorem dX5_years_83 : decode cX5_years 83 = .ok (.ireturn, 1) := by decide +kernel
theorem dX5_years_84 : decode cX5_years 84 = .ok (.aload_n 0, 1) := by decide +kernel
theorem dX5_years_85 : decode cX5_years 85 = .ok (.getfield 44, 3) := by decide +kernel
theorem dX5_years_88 : decode cX5_years 88 = .ok (.getfield 166, 3) := by decide +kernel
theorem dX5_years_91 : decode cX5_years 91 = .ok (.ireturn, 1) := by decide +kernel
theorem dX5_years_92 : decode cX5_years 92 = .ok (.aload_n 0, 1) := by decide +kernel
theorem dX5_years_93 : decode cX5_years 93 = .ok (.getfield 44, 3) := by decide +kernel
theorem dX5_years_96 : decode cX5_years 96 = .ok (.getfield 160, 3) := by decide +kernel
theorem dX5_years_99 : decode cX5_years 99 = .ok (.iconst 1, 1) := by decide +kernel
theorem dX5_years_100 : decode cX5_years 100 = .ok (.if_icmp .ne 7, 3) := by decide +kernel
theorem dX5_years_103 : decode cX5_years 103 = .ok (.iconst 1, 1) := by decide +kernel
theorem dX5_years_104 : decode cX5_years 104 = .ok (.goto 4, 3) := by decide +kernel
theorem dX5_years_107 : decode cX5_years 107 = .ok (.iconst 0, 1) := by decide +kernel
theorem dX5_years_108 : decode cX5_years 108 = .ok (.ireturn, 1) := by decide +kernel
set_option maxRecDepth 20000 in
theorem ggX5_borne_X5_sumOfDraft : GoodIn wsX5_borne wsX5_sumOfDraft := goodIn_r _ [6, 7, 8, 9, 10, 11, 12, 13, 14, 15, 16, 17, 18, 19, 20, 21, 5, 22, 23, 24, 25, 26, 27, 28, 29, 30, 31, 32, 33, 34, 35, 36, 37] (by decide +kernel) (by decide +kernel)
set_option maxRecDepth 20000 in
theorem gX5_borne_X5_sumOfDraft : GoodIn wsX5_borne (wsV RX5 93 RX5 yX5_sumOfDraft wsX5_sumOfDraft) := goodIn_app (goodIn_of _ (by decide +kernel)) ggX5_borne_X5_sumOfDraft
theorem dX5_borne_0 : decode cX5_borne 0 = .ok (.iload_n 1, 1) := by decide +kernel
theorem dX5_borne_1 : decode cX5_borne 1 = .ok (.ifCond .lt 9, 3) := by decide +kernel
theorem dX5_borne_4 : decode cX5_borne 4 = .ok (.iload_n 1, 1) := by decide +kernel
theorem dX5_borne_5 : decode cX5_borne 5 = .ok (.ldc 169, 2) := by decide +kernel
theorem dX5_borne_7 : decode cX5_borne 7 = .ok (.if_icmp .le 5, 3) := by decide +kernel
theorem dX5_borne_10 : decode cX5_borne 10 = .ok (.iconst (-1), 1) := by decide +kernel
theorem dX5_borne_11 : decode cX5_borne 11 = .ok (.ireturn, 1) := by decide +kernel
theorem dX5_borne_12 : decode cX5_borne 12 = .ok (.iconst 0, 1) := by decide +kernel
theorem dX5_borne_13 : decode cX5_borne 13 = .ok (.istore_n 2, 1) := by decide +kernel
theorem dX5_borne_14 : decode cX5_borne 14 = .ok (.iconst 0, 1) := by decide +kernel
theorem dX5_borne_15 : decode cX5_borne 15 = .ok (.istore_n 3, 1) := by decide +kernel
theorem dX5_borne_16 : decode cX5_borne 16 = .ok (.iload_n 3, 1) := by decide +kernel
theorem dX5_borne_17 : decode cX5_borne 17 = .ok (.iconst 4, 1) := by decide +kernel
theorem dX5_borne_18 : decode cX5_borne 18 = .ok (.if_icmp .ge 46, 3) := by decide +kernel
theorem dX5_borne_21 : decode cX5_borne 21 = .ok (.iconst 0, 1) := by decide +kernel
theorem dX5_borne_22 : decode cX5_borne 22 = .ok (.istore 4, 2) := by decide +kernel
theorem dX5_borne_24 : decode cX5_borne 24 = .ok (.iload 4, 2) := by decide +kernel
theorem dX5_borne_26 : decode cX5_borne 26 = .ok (.iconst 3, 1) := by decide +kernel
theorem dX5_borne_27 : decode cX5_borne 27 = .ok (.if_icmp .ge 31, 3) := by decide +kernel
theorem dX5_borne_30 : decode cX5_borne 30 = .ok (.aload_n 0, 1) := by decide +kernel
theorem dX5_borne_31 : decode cX5_borne 31 = .ok (.iload 4, 2) := by decide +kernel
theorem dX5_borne_33 : decode cX5_borne 33 = .ok (.iload_n 3, 1) := by decide +kernel
theorem dX5_borne_34 : decode cX5_borne 34 = .ok (.invokevirtual 93, 3) := by decide +kernel
theorem dX5_borne_37 : decode cX5_borne 37 = .ok (.iload_n 1, 1) := by decide +kernel
theorem dX5_borne_38 : decode cX5_borne 38 = .ok (.if_icmp .ne 14, 3) := by decide +kernel
theorem dX5_borne_41 : decode cX5_borne 41 = .ok (.iload_n 2, 1) := by decide +kernel
theorem dX5_borne_42 : decode cX5_borne 42 = .ok (.iconst 1, 1) := by decide +kernel
theorem dX5_borne_43 : decode cX5_borne 43 = .ok (.iconst 3, 1) := by decide +kernel
theorem dX5_borne_44 : decode cX5_borne 44 = .ok (.iload_n 3, 1) := by decide +kernel
theorem dX5_borne_45 : decode cX5_borne 45 = .ok (.imul, 1) := by decide +kernel
theorem dX5_borne_46 : decode cX5_borne 46 = .ok (.iload 4, 2) := by decide +kernel
theorem dX5_borne_48 : decode cX5_borne 48 = .ok (.iadd, 1) := by decide +kernel
theorem dX5_borne_49 : decode cX5_borne 49 = .ok (.ishl, 1) := by decide +kernel
theorem dX5_borne_50 : decode cX5_borne 50 = .ok (.ior, 1) := by decide +kernel
theorem dX5_borne_51 : decode cX5_borne 51 = .ok (.istore_n 2, 1) := by decide +kernel
theorem dX5_borne_52 : decode cX5_borne 52 = .ok (.iinc 4 1, 3) := by decide +kernel
theorem dX5_borne_55 : decode cX5_borne 55 = .ok (.goto (-31), 3) := by decide +kernel
theorem dX5_borne_58 : decode cX5_borne 58 = .ok (.iinc 3 1, 3) := by decide +kernel
theorem dX5_borne_61 : decode cX5_borne 61 = .ok (.goto (-45), 3) := by decide +kernel
theorem dX5_borne_64 : decode cX5_borne 64 = .ok (.iload_n 2, 1) := by decide +kernel
theorem dX5_borne_65 : decode cX5_borne 65 = .ok (.ireturn, 1) := by decide +kernel
set_option maxRecDepth 20000 in
theorem ggX5_count_X1_broken : GoodIn wsX5_count wsX1_broken := goodIn_r _ [10, 11, 12, 25, 26, 27, 28, 29] (by decide +kernel) (by decide +kernel)
set_option maxRecDepth 20000 in
theorem gX5_count_X1_broken : GoodIn wsX5_count (wsV RX5 170 RX1 yX1_broken wsX1_broken) := goodIn_app (goodIn_of _ (by decide +kernel)) ggX5_count_X1_broken
theorem dX5_count_0 : decode cX5_count 0 = .ok (.iload_n 1, 1) := by decide +kernel
theorem dX5_count_1 : decode cX5_count 1 = .ok (.tableswitch 63 0 3 #[31, 39, 47, 55], 31) := by decide +kernel
theorem dX5_count_32 : decode cX5_count 32 = .ok (.aload_n 0, 1) := by decide +kernel
theorem dX5_count_33 : decode cX5_count 33 = .ok (.getfield 26, 3) := by decide +kernel
theorem dX5_count_36 : decode cX5_count 36 = .ok (.getfield 101, 3) := by decide +kernel
theorem dX5_count_39 : decode cX5_count 39 = .ok (.ireturn, 1) := by decide +kernel
theorem dX5_count_40 : decode cX5_count 40 = .ok (.aload_n 0, 1) := by decide +kernel
theorem dX5_count_41 : decode cX5_count 41 = .ok (.getfield 19, 3) := by decide +kernel
theorem dX5_count_44 : decode cX5_count 44 = .ok (.getfield 82, 3) := by decide +kernel
theorem dX5_count_47 : decode cX5_count 47 = .ok (.ireturn, 1) := by decide +kernel
theorem dX5_count_48 : decode cX5_count 48 = .ok (.aload_n 0, 1) := by decide +kernel
theorem dX5_count_49 : decode cX5_count 49 = .ok (.getfield 19, 3) := by decide +kernel
theorem dX5_count_52 : decode cX5_count 52 = .ok (.getfield 145, 3) := by decide +kernel
theorem dX5_count_55 : decode cX5_count 55 = .ok (.ireturn, 1) := by decide +kernel
theorem dX5_count_56 : decode cX5_count 56 = .ok (.aload_n 0, 1) := by decide +kernel
theorem dX5_count_57 : decode cX5_count 57 = .ok (.getfield 19, 3) := by decide +kernel
theorem dX5_count_60 : decode cX5_count 60 = .ok (.invokevirtual 170, 3) := by decide +kernel
theorem dX5_count_63 : decode cX5_count 63 = .ok (.ireturn, 1) := by decide +kernel
theorem dX5_count_64 : decode cX5_count 64 = .ok (.iconst (-1), 1) := by decide +kernel
theorem dX5_count_65 : decode cX5_count 65 = .ok (.ireturn, 1) := by decide +kernel
theorem dX5_trace_0 : decode cX5_trace 0 = .ok (.aload_n 0, 1) := by decide +kernel
theorem dX5_trace_1 : decode cX5_trace 1 = .ok (.getfield 48, 3) := by decide +kernel
theorem dX5_trace_4 : decode cX5_trace 4 = .ok (.lreturn, 1) := by decide +kernel
set_option maxRecDepth 20000 in
theorem ggX5_sumOfDraft_X0_sumOf : GoodIn wsX5_sumOfDraft wsX0_sumOf := goodIn_r _ [9, 10, 11, 12, 8, 13, 14, 15, 16, 17, 18, 19, 20, 32] (by decide +kernel) (by decide +kernel)
set_option maxRecDepth 20000 in
theorem gX5_sumOfDraft_X0_sumOf : GoodIn wsX5_sumOfDraft (wsV RX5 176 RX0 yX0_sumOf wsX0_sumOf) := goodIn_app (goodIn_of _ (by decide +kernel)) ggX5_sumOfDraft_X0_sumOf
theorem dX5_sumOfDraft_0 : decode cX5_sumOfDraft 0 = .ok (.aload_n 0, 1) := by decide +kernel
theorem dX5_sumOfDraft_1 : decode cX5_sumOfDraft 1 = .ok (.getfield 10, 3) := by decide +kernel
theorem dX5_sumOfDraft_4 : decode cX5_sumOfDraft 4 = .ok (.iload_n 1, 1) := by decide +kernel
theorem dX5_sumOfDraft_5 : decode cX5_sumOfDraft 5 = .ok (.iload_n 2, 1) := by decide +kernel
theorem dX5_sumOfDraft_6 : decode cX5_sumOfDraft 6 = .ok (.aload_n 0, 1) := by decide +kernel
theorem dX5_sumOfDraft_7 : decode cX5_sumOfDraft 7 = .ok (.getfield 19, 3) := by decide +kernel
theorem dX5_sumOfDraft_10 : decode cX5_sumOfDraft 10 = .ok (.getfield 173, 3) := by decide +kernel
theorem dX5_sumOfDraft_13 : decode cX5_sumOfDraft 13 = .ok (.iconst 0, 1) := by decide +kernel
theorem dX5_sumOfDraft_14 : decode cX5_sumOfDraft 14 = .ok (.aload_n 0, 1) := by decide +kernel
theorem dX5_sumOfDraft_15 : decode cX5_sumOfDraft 15 = .ok (.getfield 19, 3) := by decide +kernel
theorem dX5_sumOfDraft_18 : decode cX5_sumOfDraft 18 = .ok (.getfield 82, 3) := by decide +kernel
theorem dX5_sumOfDraft_21 : decode cX5_sumOfDraft 21 = .ok (.invokevirtual 176, 3) := by decide +kernel
theorem dX5_sumOfDraft_24 : decode cX5_sumOfDraft 24 = .ok (.ireturn, 1) := by decide +kernel
theorem dX5_isWithin_0 : decode cX5_isWithin 0 = .ok (.iload_n 0, 1) := by decide +kernel
theorem dX5_isWithin_1 : decode cX5_isWithin 1 = .ok (.ifCond .lt 12, 3) := by decide +kernel
theorem dX5_isWithin_4 : decode cX5_isWithin 4 = .ok (.iload_n 0, 1) := by decide +kernel
theorem dX5_isWithin_5 : decode cX5_isWithin 5 = .ok (.iload_n 1, 1) := by decide +kernel
theorem dX5_isWithin_6 : decode cX5_isWithin 6 = .ok (.if_icmp .ge 7, 3) := by decide +kernel
theorem dX5_isWithin_9 : decode cX5_isWithin 9 = .ok (.iconst 1, 1) := by decide +kernel
theorem dX5_isWithin_10 : decode cX5_isWithin 10 = .ok (.goto 4, 3) := by decide +kernel
theorem dX5_isWithin_13 : decode cX5_isWithin 13 = .ok (.iconst 0, 1) := by decide +kernel
theorem dX5_isWithin_14 : decode cX5_isWithin 14 = .ok (.ireturn, 1) := by decide +kernel
set_option maxRecDepth 20000 in
theorem ggX5_isCustomary_X5_isWithin : GoodIn wsX5_isCustomary wsX5_isWithin := goodIn_r _ [4] (by decide +kernel) (by decide +kernel)
set_option maxRecDepth 20000 in
theorem gX5_isCustomary_X5_isWithin : GoodIn wsX5_isCustomary (va_wsS RX5 52 yX5_isWithin wsX5_isWithin) := goodIn_app (goodIn_of _ (by decide +kernel)) ggX5_isCustomary_X5_isWithin
theorem dX5_isCustomary_0 : decode cX5_isCustomary 0 = .ok (.iload_n 0, 1) := by decide +kernel
theorem dX5_isCustomary_1 : decode cX5_isCustomary 1 = .ok (.iconst 3, 1) := by decide +kernel
theorem dX5_isCustomary_2 : decode cX5_isCustomary 2 = .ok (.invokestatic 52, 3) := by decide +kernel
theorem dX5_isCustomary_5 : decode cX5_isCustomary 5 = .ok (.ifCond .eq 15, 3) := by decide +kernel
theorem dX5_isCustomary_8 : decode cX5_isCustomary 8 = .ok (.iload_n 1, 1) := by decide +kernel
theorem dX5_isCustomary_9 : decode cX5_isCustomary 9 = .ok (.iconst 4, 1) := by decide +kernel
theorem dX5_isCustomary_10 : decode cX5_isCustomary 10 = .ok (.invokestatic 52, 3) := by decide +kernel
theorem dX5_isCustomary_13 : decode cX5_isCustomary 13 = .ok (.ifCond .eq 7, 3) := by decide +kernel
theorem dX5_isCustomary_16 : decode cX5_isCustomary 16 = .ok (.iconst 1, 1) := by decide +kernel
theorem dX5_isCustomary_17 : decode cX5_isCustomary 17 = .ok (.goto 4, 3) := by decide +kernel
theorem dX5_isCustomary_20 : decode cX5_isCustomary 20 = .ok (.iconst 0, 1) := by decide +kernel
theorem dX5_isCustomary_21 : decode cX5_isCustomary 21 = .ok (.ireturn, 1) := by decide +kernel
set_option maxRecDepth 20000 in
theorem ggX5_isLineAsked_X5_isWithin : GoodIn wsX5_isLineAsked wsX5_isWithin := goodIn_r _ [4] (by decide +kernel) (by decide +kernel)
set_option maxRecDepth 20000 in
theorem gX5_isLineAsked_X5_isWithin : GoodIn wsX5_isLineAsked (va_wsS RX5 52 yX5_isWithin wsX5_isWithin) := goodIn_app (goodIn_of _ (by decide +kernel)) ggX5_isLineAsked_X5_isWithin
set_option maxRecDepth 20000 in
theorem ggX5_isLineAsked_X5_isCustomary : GoodIn wsX5_isLineAsked wsX5_isCustomary := goodIn_r _ [7, 1, 2, 3, 4] (by decide +kernel) (by decide +kernel)
set_option maxRecDepth 20000 in
theorem gX5_isLineAsked_X5_isCustomary : GoodIn wsX5_isLineAsked (va_wsS RX5 67 yX5_isCustomary wsX5_isCustomary) := goodIn_app (goodIn_of _ (by decide +kernel)) ggX5_isLineAsked_X5_isCustomary
theorem dX5_isLineAsked_0 : decode cX5_isLineAsked 0 = .ok (.iload_n 0, 1) := by decide +kernel
theorem dX5_isLineAsked_1 : decode cX5_isLineAsked 1 = .ok (.iconst 1, 1) := by decide +kernel
theorem dX5_isLineAsked_2 : decode cX5_isLineAsked 2 = .ok (.if_icmp .lt 31, 3) := by decide +kernel
theorem dX5_isLineAsked_5 : decode cX5_isLineAsked 5 = .ok (.iload_n 0, 1) := by decide +kernel
theorem dX5_isLineAsked_6 : decode cX5_isLineAsked 6 = .ok (.bipush 8, 2) := by decide +kernel
theorem dX5_isLineAsked_8 : decode cX5_isLineAsked 8 = .ok (.if_icmp .gt 25, 3) := by decide +kernel
theorem dX5_isLineAsked_11 : decode cX5_isLineAsked 11 = .ok (.iload_n 1, 1) := by decide +kernel
theorem dX5_isLineAsked_12 : decode cX5_isLineAsked 12 = .ok (.sipush 3001, 3) := by decide +kernel
theorem dX5_isLineAsked_15 : decode cX5_isLineAsked 15 = .ok (.invokestatic 52, 3) := by decide +kernel
theorem dX5_isLineAsked_18 : decode cX5_isLineAsked 18 = .ok (.ifCond .eq 15, 3) := by decide +kernel
theorem dX5_isLineAsked_21 : decode cX5_isLineAsked 21 = .ok (.iload_n 2, 1) := by decide +kernel
theorem dX5_isLineAsked_22 : decode cX5_isLineAsked 22 = .ok (.iload_n 3, 1) := by decide +kernel
theorem dX5_isLineAsked_23 : decode cX5_isLineAsked 23 = .ok (.invokestatic 67, 3) := by decide +kernel
theorem dX5_isLineAsked_26 : decode cX5_isLineAsked 26 = .ok (.ifCond .eq 7, 3) := by decide +kernel
theorem dX5_isLineAsked_29 : decode cX5_isLineAsked 29 = .ok (.iconst 1, 1) := by decide +kernel
theorem dX5_isLineAsked_30 : decode cX5_isLineAsked 30 = .ok (.goto 4, 3) := by decide +kernel
theorem dX5_isLineAsked_33 : decode cX5_isLineAsked 33 = .ok (.iconst 0, 1) := by decide +kernel
theorem dX5_isLineAsked_34 : decode cX5_isLineAsked 34 = .ok (.ireturn, 1) := by decide +kernel
theorem dX5_isValue_0 : decode cX5_isValue 0 = .ok (.getstatic 180, 3) := by decide +kernel
theorem dX5_isValue_3 : decode cX5_isValue 3 = .ok (.astore_n 1, 1) := by decide +kernel
theorem dX5_isValue_4 : decode cX5_isValue 4 = .ok (.aload_n 1, 1) := by decide +kernel
theorem dX5_isValue_5 : decode cX5_isValue 5 = .ok (.arraylength, 1) := by decide +kernel
theorem dX5_isValue_6 : decode cX5_isValue 6 = .ok (.istore_n 2, 1) := by decide +kernel
theorem dX5_isValue_7 : decode cX5_isValue 7 = .ok (.iconst 0, 1) := by decide +kernel
theorem dX5_isValue_8 : decode cX5_isValue 8 = .ok (.istore_n 3, 1) := by decide +kernel
theorem dX5_isValue_9 : decode cX5_isValue 9 = .ok (.iload_n 3, 1) := by decide +kernel
theorem dX5_isValue_10 : decode cX5_isValue 10 = .ok (.iload_n 2, 1) := by decide +kernel
theorem dX5_isValue_11 : decode cX5_isValue 11 = .ok (.if_icmp .ge 22, 3) := by decide +kernel
theorem dX5_isValue_14 : decode cX5_isValue 14 = .ok (.aload_n 1, 1) := by decide +kernel
theorem dX5_isValue_15 : decode cX5_isValue 15 = .ok (.iload_n 3, 1) := by decide +kernel
theorem dX5_isValue_16 : decode cX5_isValue 16 = .ok (.iaload, 1) := by decide +kernel
theorem dX5_isValue_17 : decode cX5_isValue 17 = .ok (.istore 4, 2) := by decide +kernel
theorem dX5_isValue_19 : decode cX5_isValue 19 = .ok (.iload 4, 2) := by decide +kernel
theorem dX5_isValue_21 : decode cX5_isValue 21 = .ok (.iload_n 0, 1) := by decide +kernel
theorem dX5_isValue_22 : decode cX5_isValue 22 = .ok (.if_icmp .ne 5, 3) := by decide +kernel
theorem dX5_isValue_25 : decode cX5_isValue 25 = .ok (.iconst 1, 1) := by decide +kernel
theorem dX5_isValue_26 : decode cX5_isValue 26 = .ok (.ireturn, 1) := by decide +kernel
theorem dX5_isValue_27 : decode cX5_isValue 27 = .ok (.iinc 3 1, 3) := by decide +kernel
theorem dX5_isValue_30 : decode cX5_isValue 30 = .ok (.goto (-21), 3) := by decide +kernel
theorem dX5_isValue_33 : decode cX5_isValue 33 = .ok (.iconst 0, 1) := by decide +kernel
theorem dX5_isValue_34 : decode cX5_isValue 34 = .ok (.ireturn, 1) := by decide +kernel
set_option maxRecDepth 20000 in
theorem ggX5_mayAllStand_X5_byteOf : GoodIn wsX5_mayAllStand wsX5_byteOf := goodIn_r _ [4] (by decide +kernel) (by decide +kernel)
set_option maxRecDepth 20000 in
theorem gX5_mayAllStand_X5_byteOf : GoodIn wsX5_mayAllStand (va_wsS RX5 183 yX5_byteOf wsX5_byteOf) := goodIn_app (goodIn_of _ (by decide +kernel)) ggX5_mayAllStand_X5_byteOf
set_option maxRecDepth 20000 in
theorem ggX5_mayAllStand_X5_isLetter : GoodIn wsX5_mayAllStand wsX5_isLetter := goodIn_r _ [7, 8, 9, 3, 10] (by decide +kernel) (by decide +kernel)
set_option maxRecDepth 20000 in
theorem gX5_mayAllStand_X5_isLetter : GoodIn wsX5_mayAllStand (va_wsS RX5 187 yX5_isLetter wsX5_isLetter) := goodIn_app (goodIn_of _ (by decide +kernel)) ggX5_mayAllStand_X5_isLetter
theorem dX5_mayAllStand_0 : decode cX5_mayAllStand 0 = .ok (.iconst 0, 1) := by decide +kernel
theorem dX5_mayAllStand_1 : decode cX5_mayAllStand 1 = .ok (.istore_n 3, 1) := by decide +kernel
theorem dX5_mayAllStand_2 : decode cX5_mayAllStand 2 = .ok (.iload_n 3, 1) := by decide +kernel
theorem dX5_mayAllStand_3 : decode cX5_mayAllStand 3 = .ok (.iload_n 2, 1) := by decide +kernel
theorem dX5_mayAllStand_4 : decode cX5_mayAllStand 4 = .ok (.if_icmp .ge 40, 3) := by decide +kernel
theorem dX5_mayAllStand_7 : decode cX5_mayAllStand 7 = .ok (.lload_n 0, 1) := by decide +kernel
theorem dX5_mayAllStand_8 : decode cX5_mayAllStand 8 = .ok (.iload_n 3, 1) := by decide +kernel
theorem dX5_mayAllStand_9 : decode cX5_mayAllStand 9 = .ok (.invokestatic 183, 3) := by decide +kernel
theorem dX5_mayAllStand_12 : decode cX5_mayAllStand 12 = .ok (.istore 4, 2) := by decide +kernel
theorem dX5_mayAllStand_14 : decode cX5_mayAllStand 14 = .ok (.iload 4, 2) := by decide +kernel
theorem dX5_mayAllStand_16 : decode cX5_mayAllStand 16 = .ok (.bipush 32, 2) := by decide +kernel
theorem dX5_mayAllStand_18 : decode cX5_mayAllStand 18 = .ok (.if_icmp .eq 20, 3) := by decide +kernel
theorem dX5_mayAllStand_21 : decode cX5_mayAllStand 21 = .ok (.iload 4, 2) := by decide +kernel
theorem dX5_mayAllStand_23 : decode cX5_mayAllStand 23 = .ok (.bipush 63, 2) := by decide +kernel
theorem dX5_mayAllStand_25 : decode cX5_mayAllStand 25 = .ok (.if_icmp .eq 13, 3) := by decide +kernel
theorem dX5_mayAllStand_28 : decode cX5_mayAllStand 28 = .ok (.iload 4, 2) := by decide +kernel
theorem dX5_mayAllStand_30 : decode cX5_mayAllStand 30 = .ok (.invokestatic 187, 3) := by decide +kernel
theorem dX5_mayAllStand_33 : decode cX5_mayAllStand 33 = .ok (.ifCond .ne 5, 3) := by decide +kernel
theorem dX5_mayAllStand_36 : decode cX5_mayAllStand 36 = .ok (.iconst 0, 1) := by decide +kernel
theorem dX5_mayAllStand_37 : decode cX5_mayAllStand 37 = .ok (.ireturn, 1) := by decide +kernel
theorem dX5_mayAllStand_38 : decode cX5_mayAllStand 38 = .ok (.iinc 3 1, 3) := by decide +kernel
theorem dX5_mayAllStand_41 : decode cX5_mayAllStand 41 = .ok (.goto (-39), 3) := by decide +kernel
theorem dX5_mayAllStand_44 : decode cX5_mayAllStand 44 = .ok (.iconst 1, 1) := by decide +kernel
theorem dX5_mayAllStand_45 : decode cX5_mayAllStand 45 = .ok (.ireturn, 1) := by decide +kernel
theorem dX5_byteOf_0 : decode cX5_byteOf 0 = .ok (.lload_n 0, 1) := by decide +kernel
theorem dX5_byteOf_1 : decode cX5_byteOf 1 = .ok (.bipush 8, 2) := by decide +kernel
theorem dX5_byteOf_3 : decode cX5_byteOf 3 = .ok (.iload_n 2, 1) := by decide +kernel
theorem dX5_byteOf_4 : decode cX5_byteOf 4 = .ok (.imul, 1) := by decide +kernel
theorem dX5_byteOf_5 : decode cX5_byteOf 5 = .ok (.lushr, 1) := by decide +kernel
theorem dX5_byteOf_6 : decode cX5_byteOf 6 = .ok (.l2i, 1) := by decide +kernel
theorem dX5_byteOf_7 : decode cX5_byteOf 7 = .ok (.sipush 255, 3) := by decide +kernel
theorem dX5_byteOf_10 : decode cX5_byteOf 10 = .ok (.iand, 1) := by decide +kernel
theorem dX5_byteOf_11 : decode cX5_byteOf 11 = .ok (.ireturn, 1) := by decide +kernel
theorem dX5_isCapital_0 : decode cX5_isCapital 0 = .ok (.iload_n 0, 1) := by decide +kernel
theorem dX5_isCapital_1 : decode cX5_isCapital 1 = .ok (.bipush 65, 2) := by decide +kernel
theorem dX5_isCapital_3 : decode cX5_isCapital 3 = .ok (.if_icmp .lt 13, 3) := by decide +kernel
theorem dX5_isCapital_6 : decode cX5_isCapital 6 = .ok (.iload_n 0, 1) := by decide +kernel
theorem dX5_isCapital_7 : decode cX5_isCapital 7 = .ok (.bipush 90, 2) := by decide +kernel
theorem dX5_isCapital_9 : decode cX5_isCapital 9 = .ok (.if_icmp .gt 7, 3) := by decide +kernel
theorem dX5_isCapital_12 : decode cX5_isCapital 12 = .ok (.iconst 1, 1) := by decide +kernel
theorem dX5_isCapital_13 : decode cX5_isCapital 13 = .ok (.goto 4, 3) := by decide +kernel
theorem dX5_isCapital_16 : decode cX5_isCapital 16 = .ok (.iconst 0, 1) := by decide +kernel
theorem dX5_isCapital_17 : decode cX5_isCapital 17 = .ok (.ireturn, 1) := by decide +kernel
set_option maxRecDepth 20000 in
theorem ggX5_isLetter_X5_isCapital : GoodIn wsX5_isLetter wsX5_isCapital := goodIn_r _ [4] (by decide +kernel) (by decide +kernel)
set_option maxRecDepth 20000 in
theorem gX5_isLetter_X5_isCapital : GoodIn wsX5_isLetter (va_wsS RX5 190 yX5_isCapital wsX5_isCapital) := goodIn_app (goodIn_of _ (by decide +kernel)) ggX5_isLetter_X5_isCapital
theorem dX5_isLetter_0 : decode cX5_isLetter 0 = .ok (.iload_n 0, 1) := by decide +kernel
theorem dX5_isLetter_1 : decode cX5_isLetter 1 = .ok (.invokestatic 190, 3) := by decide +kernel
theorem dX5_isLetter_4 : decode cX5_isLetter 4 = .ok (.ifCond .ne 15, 3) := by decide +kernel
theorem dX5_isLetter_7 : decode cX5_isLetter 7 = .ok (.iload_n 0, 1) := by decide +kernel
theorem dX5_isLetter_8 : decode cX5_isLetter 8 = .ok (.bipush 97, 2) := by decide +kernel
theorem dX5_isLetter_10 : decode cX5_isLetter 10 = .ok (.if_icmp .lt 13, 3) := by decide +kernel
theorem dX5_isLetter_13 : decode cX5_isLetter 13 = .ok (.iload_n 0, 1) := by decide +kernel
theorem dX5_isLetter_14 : decode cX5_isLetter 14 = .ok (.bipush 122, 2) := by decide +kernel
theorem dX5_isLetter_16 : decode cX5_isLetter 16 = .ok (.if_icmp .gt 7, 3) := by decide +kernel
theorem dX5_isLetter_19 : decode cX5_isLetter 19 = .ok (.iconst 1, 1) := by decide +kernel
theorem dX5_isLetter_20 : decode cX5_isLetter 20 = .ok (.goto 4, 3) := by decide +kernel
theorem dX5_isLetter_23 : decode cX5_isLetter 23 = .ok (.iconst 0, 1) := by decide +kernel
theorem dX5_isLetter_24 : decode cX5_isLetter 24 = .ok (.ireturn, 1) := by decide +kernel
end
section
theorem dX6_init_0 : decode cX6_init 0 = .ok (.aload_n 0, 1) := by decide +kernel
theorem dX6_init_1 : decode cX6_init 1 = .ok (.invokespecial 1, 3) := by decide +kernel
theorem dX6_init_4 : decode cX6_init 4 = .ok (.aload_n 0, 1) := by decide +kernel
theorem dX6_init_5 : decode cX6_init 5 = .ok (.bipush 104, 2) := by decide +kernel
theorem dX6_init_7 : decode cX6_init 7 = .ok (.newarray .int, 2) := by decide +kernel
theorem dX6_init_9 : decode cX6_init 9 = .ok (.putfield 7, 3) := by decide +kernel
theorem dX6_init_12 : decode cX6_init 12 = .ok (.aload_n 0, 1) := by decide +kernel
theorem dX6_init_13 : decode cX6_init 13 = .ok (.bipush 40, 2) := by decide +kernel
theorem dX6_init_15 : decode cX6_init 15 = .ok (.newarray .int, 2) := by decide +kernel
theorem dX6_init_17 : decode cX6_init 17 = .ok (.putfield 13, 3) := by decide +kernel
theorem dX6_init_20 : decode cX6_init 20 = .ok (.aload_n 0, 1) := by decide +kernel
theorem dX6_init_21 : decode cX6_init 21 = .ok (.bipush 80, 2) := by decide +kernel
theorem dX6_init_23 : decode cX6_init 23 = .ok (.newarray .int, 2) := by decide +kernel
theorem dX6_init_25 : decode cX6_init 25 = .ok (.putfield 16, 3) := by decide +kernel
theorem dX6_init_28 : decode cX6_init 28 = .ok (.aload_n 0, 1) := by decide +kernel
theorem dX6_init_29 : decode cX6_init 29 = .ok (.bipush 10, 2) := by decide +kernel
theorem dX6_init_31 : decode cX6_init 31 = .ok (.newarray .int, 2) := by decide +kernel
theorem dX6_init_33 : decode cX6_init 33 = .ok (.putfield 19, 3) := by decide +kernel
theorem dX6_init_36 : decode cX6_init 36 = .ok (.aload_n 0, 1) := by decide +kernel
theorem dX6_init_37 : decode cX6_init 37 = .ok (.bipush 10, 2) := by decide +kernel
theorem dX6_init_39 : decode cX6_init 39 = .ok (.newarray .int, 2) := by decide +kernel
theorem dX6_init_41 : decode cX6_init 41 = .ok (.putfield 22, 3) := by decide +kernel
theorem dX6_init_44 : decode cX6_init 44 = .ok (.aload_n 0, 1) := by decide +kernel
theorem dX6_init_45 : decode cX6_init 45 = .ok (.bipush 10, 2) := by decide +kernel
theorem dX6_init_47 : decode cX6_init 47 = .ok (.newarray .int, 2) := by decide +kernel
theorem dX6_init_49 : decode cX6_init 49 = .ok (.putfield 25, 3) := by decide +kernel
theorem dX6_init_52 : decode cX6_init 52 = .ok (.aload_n 0, 1) := by decide +kernel
theorem dX6_init_53 : decode cX6_init 53 = .ok (.iconst 4, 1) := by decide +kernel
theorem dX6_init_54 : decode cX6_init 54 = .ok (.newarray .int, 2) := by decide +kernel
theorem dX6_init_56 : decode cX6_init 56 = .ok (.putfield 28, 3) := by decide +kernel
theorem dX6_init_59 : decode cX6_init 59 = .ok (.aload_n 0, 1) := by decide +kernel
theorem dX6_init_60 : decode cX6_init 60 = .ok (.ldc 31, 2) := by decide +kernel
theorem dX6_init_62 : decode cX6_init 62 = .ok (.newarray .long, 2) := by decide +kernel
theorem dX6_init_64 : decode cX6_init 64 = .ok (.putfield 32, 3) := by decide +kernel
theorem dX6_init_67 : decode cX6_init 67 = .ok (.aload_n 0, 1) := by decide +kernel
theorem dX6_init_68 : decode cX6_init 68 = .ok (.bipush 36, 2) := by decide +kernel
theorem dX6_init_70 : decode cX6_init 70 = .ok (.newarray .long, 2) := by decide +kernel
theorem dX6_init_72 : decode cX6_init 72 = .ok (.putfield 36, 3) := by decide +kernel
theorem dX6_init_75 : decode cX6_init 75 = .ok (.aload_n 0, 1) := by decide +kernel
theorem dX6_init_76 : decode cX6_init 76 = .ok (.bipush 10, 2) := by decide +kernel
theorem dX6_init_78 : decode cX6_init 78 = .ok (.newarray .int, 2) := by decide +kernel
theorem dX6_init_80 : decode cX6_init 80 = .ok (.putfield 39, 3) := by decide +kernel
theorem dX6_init_83 : decode cX6_init 83 = .ok (.aload_n 0, 1) := by decide +kernel
theorem dX6_init_84 : decode cX6_init 84 = .ok (.bipush 10, 2) := by decide +kernel
theorem dX6_init_86 : decode cX6_init 86 = .ok (.newarray .int, 2) := by decide +kernel
theorem dX6_init_88 : decode cX6_init 88 = .ok (.putfield 42, 3) := by decide +kernel
theorem dX6_init_91 : decode cX6_init 91 = .ok (.aload_n 0, 1) := by decide +kernel
theorem dX6_init_92 : decode cX6_init 92 = .ok (.bipush 8, 2) := by decide +kernel
theorem dX6_init_94 : decode cX6_init 94 = .ok (.newarray .int, 2) := by decide +kernel
theorem dX6_init_96 : decode cX6_init 96 = .ok (.putfield 45, 3) := by decide +kernel
theorem dX6_init_99 : decode cX6_init 99 = .ok (.aload_n 0, 1) := by decide +kernel
theorem dX6_init_100 : decode cX6_init 100 = .ok (.bipush 20, 2) := by decide +kernel
theorem dX6_init_102 : decode cX6_init 102 = .ok (.newarray .int, 2) := by decide +kernel
theorem dX6_init_104 : decode cX6_init 104 = .ok (.putfield 48, 3) := by decide +kernel
theorem dX6_init_107 : decode cX6_init 107 = .ok (.aload_n 0, 1) := by decide +kernel
theorem dX6_init_108 : decode cX6_init 108 = .ok (.bipush 20, 2) := by decide +kernel
theorem dX6_init_110 : decode cX6_init 110 = .ok (.newarray .int, 2) := by decide +kernel
theorem dX6_init_112 : decode cX6_init 112 = .ok (.putfield 51, 3) := by decide +kernel
theorem dX6_init_115 : decode cX6_init 115 = .ok (.aload_n 0, 1) := by decide +kernel
theorem dX6_init_116 : decode cX6_init 116 = .ok (.sipush 9003, 3) := by decide +kernel
theorem dX6_init_119 : decode cX6_init 119 = .ok (.newarray .boolean, 2) := by decide +kernel
theorem dX6_init_121 : decode cX6_init 121 = .ok (.putfield 54, 3) := by decide +kernel
theorem dX6_init_124 : decode cX6_init 124 = .ok (.aload_n 0, 1) := by decide +kernel
theorem dX6_init_125 : decode cX6_init 125 = .ok (.sipush 9003, 3) := by decide +kernel
theorem dX6_init_128 : decode cX6_init 128 = .ok (.newarray .boolean, 2) := by decide +kernel
theorem dX6_init_130 : decode cX6_init 130 = .ok (.putfield 58, 3) := by decide +kernel
theorem dX6_init_133 : decode cX6_init 133 = .ok (.aload_n 0, 1) := by decide +kernel
theorem dX6_init_134 : decode cX6_init 134 = .ok (.iconst 4, 1) := by decide +kernel
theorem dX6_init_135 : decode cX6_init 135 = .ok (.newarray .long, 2) := by decide +kernel
theorem dX6_init_137 : decode cX6_init 137 = .ok (.putfield 61, 3) := by decide +kernel
theorem dX6_init_140 : decode cX6_init 140 = .ok (.aload_n 0, 1) := by decide +kernel
theorem dX6_init_141 : decode cX6_init 141 = .ok (.iconst 4, 1) := by decide +kernel
theorem dX6_init_142 : decode cX6_init 142 = .ok (.newarray .long, 2) := by decide +kernel
theorem dX6_init_144 : decode cX6_init 144 = .ok (.putfield 64, 3) := by decide +kernel
theorem dX6_init_147 : decode cX6_init 147 = .ok (.iconst 0, 1) := by decide +kernel
theorem dX6_init_148 : decode cX6_init 148 = .ok (.istore_n 1, 1) := by decide +kernel
theorem dX6_init_149 : decode cX6_init 149 = .ok (.iload_n 1, 1) := by decide +kernel
theorem dX6_init_150 : decode cX6_init 150 = .ok (.iconst 4, 1) := by decide +kernel
theorem dX6_init_151 : decode cX6_init 151 = .ok (.if_icmp .ge 136, 3) := by decide +kernel
theorem dX6_init_154 : decode cX6_init 154 = .ok (.aload_n 0, 1) := by decide +kernel
theorem dX6_init_155 : decode cX6_init 155 = .ok (.getfield 7, 3) := by decide +kernel
theorem dX6_init_158 : decode cX6_init 158 = .ok (.bipush 26, 2) := by decide +kernel
theorem dX6_init_160 : decode cX6_init 160 = .ok (.iload_n 1, 1) := by decide +kernel
theorem dX6_init_161 : decode cX6_init 161 = .ok (.imul, 1) := by decide +kernel
theorem dX6_init_162 : decode cX6_init 162 = .ok (.bipush 105, 2) := by decide +kernel
theorem dX6_init_164 : decode cX6_init 164 = .ok (.iadd, 1) := by decide +kernel
theorem dX6_init_165 : decode cX6_init 165 = .ok (.bipush 97, 2) := by decide +kernel
theorem dX6_init_167 : decode cX6_init 167 = .ok (.isub, 1) := by decide +kernel
theorem dX6_init_168 : decode cX6_init 168 = .ok (.iconst 1, 1) := by decide +kernel
theorem dX6_init_169 : decode cX6_init 169 = .ok (.iastore, 1) := by decide +kernel
theorem dX6_init_170 : decode cX6_init 170 = .ok (.aload_n 0, 1) := by decide +kernel
theorem dX6_init_171 : decode cX6_init 171 = .ok (.getfield 7, 3) := by decide +kernel
theorem dX6_init_174 : decode cX6_init 174 = .ok (.bipush 26, 2) := by decide +kernel
theorem dX6_init_176 : decode cX6_init 176 = .ok (.iload_n 1, 1) := by decide +kernel
theorem dX6_init_177 : decode cX6_init 177 = .ok (.imul, 1) := by decide +kernel
theorem dX6_init_178 : decode cX6_init 178 = .ok (.bipush 118, 2) := by decide +kernel
theorem dX6_init_180 : decode cX6_init 180 = .ok (.iadd, 1) := by decide +kernel
theorem dX6_init_181 : decode cX6_init 181 = .ok (.bipush 97, 2) := by decide +kernel
theorem dX6_init_183 : decode cX6_init 183 = .ok (.isub, 1) := by decide +kernel
theorem dX6_init_184 : decode cX6_init 184 = .ok (.iconst 5, 1) := by decide +kernel
theorem dX6_init_185 : decode cX6_init 185 = .ok (.iastore, 1) := by decide +kernel
theorem dX6_init_186 : decode cX6_init 186 = .ok (.aload_n 0, 1) := by decide +kernel
theorem dX6_init_187 : decode cX6_init 187 = .ok (.getfield 7, 3) := by decide +kernel
theorem dX6_init_190 : decode cX6_init 190 = .ok (.bipush 26, 2) := by decide +kernel
theorem dX6_init_192 : decode cX6_init 192 = .ok (.iload_n 1, 1) := by decide +kernel
theorem dX6_init_193 : decode cX6_init 193 = .ok (.imul, 1) := by decide +kernel
theorem dX6_init_194 : decode cX6_init 194 = .ok (.bipush 120, 2) := by decide +kernel
theorem dX6_init_196 : decode cX6_init 196 = .ok (.iadd, 1) := by decide +kernel
theorem dX6_init_197 : decode cX6_init 197 = .ok (.bipush 97, 2) := by decide +kernel
theorem dX6_init_199 : decode cX6_init 199 = .ok (.isub, 1) := by decide +kernel
theorem dX6_init_200 : decode cX6_init 200 = .ok (.bipush 10, 2) := by decide +kernel
theorem dX6_init_202 : decode cX6_init 202 = .ok (.iastore, 1) := by decide +kernel
theorem dX6_init_203 : decode cX6_init 203 = .ok (.aload_n 0, 1) := by decide +kernel
theorem dX6_init_204 : decode cX6_init 204 = .ok (.getfield 7, 3) := by decide +kernel
theorem dX6_init_207 : decode cX6_init 207 = .ok (.bipush 26, 2) := by decide +kernel
theorem dX6_init_209 : decode cX6_init 209 = .ok (.iload_n 1, 1) := by decide +kernel
theorem dX6_init_210 : decode cX6_init 210 = .ok (.imul, 1) := by decide +kernel
theorem dX6_init_211 : decode cX6_init 211 = .ok (.bipush 108, 2) := by decide +kernel
theorem dX6_init_213 : decode cX6_init 213 = .ok (.iadd, 1) := by decide +kernel
theorem dX6_init_214 : decode cX6_init 214 = .ok (.bipush 97, 2) := by decide +kernel
theorem dX6_init_216 : decode cX6_init 216 = .ok (.isub, 1) := by decide +kernel
theorem dX6_init_217 : decode cX6_init 217 = .ok (.bipush 50, 2) := by decide +kernel
theorem dX6_init_219 : decode cX6_init 219 = .ok (.iastore, 1) := by decide +kernel
theorem dX6_init_220 : decode cX6_init 220 = .ok (.aload_n 0, 1) := by decide +kernel
theorem dX6_init_221 : decode cX6_init 221 = .ok (.getfield 7, 3) := by decide +kernel
theorem dX6_init_224 : decode cX6_init 224 = .ok (.bipush 26, 2) := by decide +kernel
theorem dX6_init_226 : decode cX6_init 226 = .ok (.iload_n 1, 1) := by decide +kernel
theorem dX6_init_227 : decode cX6_init 227 = .ok (.imul, 1) := by decide +kernel
theorem dX6_init_228 : decode cX6_init 228 = .ok (.bipush 99, 2) := by decide +kernel
theorem dX6_init_230 : decode cX6_init 230 = .ok (.iadd, 1) := by decide +kernel
theorem dX6_init_231 : decode cX6_init 231 = .ok (.bipush 97, 2) := by decide +kernel
theorem dX6_init_233 : decode cX6_init 233 = .ok (.isub, 1) := by decide +kernel
theorem dX6_init_234 : decode cX6_init 234 = .ok (.bipush 100, 2) := by decide +kernel
theorem dX6_init_236 : decode cX6_init 236 = .ok (.iastore, 1) := by decide +kernel
theorem dX6_init_237 : decode cX6_init 237 = .ok (.aload_n 0, 1) := by decide +kernel
theorem dX6_init_238 : decode cX6_init 238 = .ok (.getfield 7, 3) := by decide +kernel
theorem dX6_init_241 : decode cX6_init 241 = .ok (.bipush 26, 2) := by decide +kernel
theorem dX6_init_243 : decode cX6_init 243 = .ok (.iload_n 1, 1) := by decide +kernel
theorem dX6_init_244 : decode cX6_init 244 = .ok (.imul, 1) := by decide +kernel
theorem dX6_init_245 : decode cX6_init 245 = .ok (.bipush 100, 2) := by decide +kernel
theorem dX6_init_247 : decode cX6_init 247 = .ok (.iadd, 1) := by decide +kernel
theorem dX6_init_248 : decode cX6_init 248 = .ok (.bipush 97, 2) := by decide +kernel
theorem dX6_init_250 : decode cX6_init 250 = .ok (.isub, 1) := by decide +kernel
theorem dX6_init_251 : decode cX6_init 251 = .ok (.sipush 500, 3) := by decide +kernel
theorem dX6_init_254 : decode cX6_init 254 = .ok (.iastore, 1) := by decide +kernel
theorem dX6_init_255 : decode cX6_init 255 = .ok (.aload_n 0, 1) := by decide +kernel
theorem dX6_init_256 : decode cX6_init 256 = .ok (.getfield 7, 3) := by decide +kernel
theorem dX6_init_259 : decode cX6_init 259 = .ok (.bipush 26, 2) := by decide +kernel
theorem dX6_init_261 : decode cX6_init 261 = .ok (.iload_n 1, 1) := by decide +kernel
theorem dX6_init_262 : decode cX6_init 262 = .ok (.imul, 1) := by decide +kernel
theorem dX6_init_263 : decode cX6_init 263 = .ok (.bipush 109, 2) := by decide +kernel
theorem dX6_init_265 : decode cX6_init 265 = .ok (.iadd, 1) := by decide +kernel
theorem dX6_init_266 : decode cX6_init 266 = .ok (.bipush 97, 2) := by decide +kernel
theorem dX6_init_268 : decode cX6_init 268 = .ok (.isub, 1) := by decide +kernel
theorem dX6_init_269 : decode cX6_init 269 = .ok (.sipush 1000, 3) := by decide +kernel
theorem dX6_init_272 : decode cX6_init 272 = .ok (.iastore, 1) := by decide +kernel
theorem dX6_init_273 : decode cX6_init 273 = .ok (.aload_n 0, 1) := by decide +kernel
theorem dX6_init_274 : decode cX6_init 274 = .ok (.getfield 28, 3) := by decide +kernel
theorem dX6_init_277 : decode cX6_init 277 = .ok (.iload_n 1, 1) := by decide +kernel
theorem dX6_init_278 : decode cX6_init 278 = .ok (.bipush 7, 2) := by decide +kernel
theorem dX6_init_280 : decode cX6_init 280 = .ok (.iastore, 1) := by decide +kernel
theorem dX6_init_281 : decode cX6_init 281 = .ok (.iinc 1 1, 3) := by decide +kernel
theorem dX6_init_284 : decode cX6_init 284 = .ok (.goto (-135), 3) := by decide +kernel
theorem dX6_init_287 : decode cX6_init 287 = .ok (.return_, 1) := by decide +kernel
theorem dX6_in_0 : decode cX6_in 0 = .ok (.lload_n 0, 1) := by decide +kernel
theorem dX6_in_1 : decode cX6_in 1 = .ok (.lload_n 2, 1) := by decide +kernel
theorem dX6_in_2 : decode cX6_in 2 = .ok (.lcmp, 1) := by decide +kernel
theorem dX6_in_3 : decode cX6_in 3 = .ok (.ifCond .lt 14, 3) := by decide +kernel
theorem dX6_in_6 : decode cX6_in 6 = .ok (.lload_n 0, 1) := by decide +kernel
theorem dX6_in_7 : decode cX6_in 7 = .ok (.lload 4, 2) := by decide +kernel
theorem dX6_in_9 : decode cX6_in 9 = .ok (.lcmp, 1) := by decide +kernel
theorem dX6_in_10 : decode cX6_in 10 = .ok (.ifCond .gt 7, 3) := by decide +kernel
theorem dX6_in_13 : decode cX6_in 13 = .ok (.iconst 1, 1) := by decide +kernel
theorem dX6_in_14 : decode cX6_in 14 = .ok (.goto 4, 3) := by decide +kernel
theorem dX6_in_17 : decode cX6_in 17 = .ok (.iconst 0, 1) := by decide +kernel
theorem dX6_in_18 : decode cX6_in 18 = .ok (.ireturn, 1) := by decide +kernel
theorem dX6_isValue_0 : decode cX6_isValue 0 = .ok (.iload_n 0, 1) := by decide +kernel
theorem dX6_isValue_1 : decode cX6_isValue 1 = .ok (.ifCond .eq 45, 3) := by decide +kernel
theorem dX6_isValue_4 : decode cX6_isValue 4 = .ok (.iload_n 0, 1) := by decide +kernel
theorem dX6_isValue_5 : decode cX6_isValue 5 = .ok (.iconst 1, 1) := by decide +kernel
theorem dX6_isValue_6 : decode cX6_isValue 6 = .ok (.if_icmp .eq 40, 3) := by decide +kernel
theorem dX6_isValue_9 : decode cX6_isValue 9 = .ok (.iload_n 0, 1) := by decide +kernel
theorem dX6_isValue_10 : decode cX6_isValue 10 = .ok (.iconst 5, 1) := by decide +kernel
theorem dX6_isValue_11 : decode cX6_isValue 11 = .ok (.if_icmp .eq 35, 3) := by decide +kernel
theorem dX6_isValue_14 : decode cX6_isValue 14 = .ok (.iload_n 0, 1) := by decide +kernel
theorem dX6_isValue_15 : decode cX6_isValue 15 = .ok (.bipush 10, 2) := by decide +kernel
theorem dX6_isValue_17 : decode cX6_isValue 17 = .ok (.if_icmp .eq 29, 3) := by decide +kernel
theorem dX6_isValue_20 : decode cX6_isValue 20 = .ok (.iload_n 0, 1) := by decide +kernel
theorem dX6_isValue_21 : decode cX6_isValue 21 = .ok (.bipush 50, 2) := by decide +kernel
theorem dX6_isValue_23 : decode cX6_isValue 23 = .ok (.if_icmp .eq 23, 3) := by decide +kernel
theorem dX6_isValue_26 : decode cX6_isValue 26 = .ok (.iload_n 0, 1) := by decide +kernel
theorem dX6_isValue_27 : decode cX6_isValue 27 = .ok (.bipush 100, 2) := by decide +kernel
theorem dX6_isValue_29 : decode cX6_isValue 29 = .ok (.if_icmp .eq 17, 3) := by decide +kernel
theorem dX6_isValue_32 : decode cX6_isValue 32 = .ok (.iload_n 0, 1) := by decide +kernel
theorem dX6_isValue_33 : decode cX6_isValue 33 = .ok (.sipush 500, 3) := by decide +kernel
theorem dX6_isValue_36 : decode cX6_isValue 36 = .ok (.if_icmp .eq 10, 3) := by decide +kernel
theorem dX6_isValue_39 : decode cX6_isValue 39 = .ok (.iload_n 0, 1) := by decide +kernel
theorem dX6_isValue_40 : decode cX6_isValue 40 = .ok (.sipush 1000, 3) := by decide +kernel
theorem dX6_isValue_43 : decode cX6_isValue 43 = .ok (.if_icmp .ne 7, 3) := by decide +kernel
theorem dX6_isValue_46 : decode cX6_isValue 46 = .ok (.iconst 1, 1) := by decide +kernel
theorem dX6_isValue_47 : decode cX6_isValue 47 = .ok (.goto 4, 3) := by decide +kernel
theorem dX6_isValue_50 : decode cX6_isValue 50 = .ok (.iconst 0, 1) := by decide +kernel
theorem dX6_isValue_51 : decode cX6_isValue 51 = .ok (.ireturn, 1) := by decide +kernel
set_option maxRecDepth 20000 in
theorem ggX6_value_X6_in : GoodIn wsX6_value wsX6_in := goodIn_r _ [9] (by decide +kernel) (by decide +kernel)
set_option maxRecDepth 20000 in
theorem gX6_value_X6_in : GoodIn wsX6_value (va_wsS RX6 73 yX6_in wsX6_in) := goodIn_app (goodIn_of _ (by decide +kernel)) ggX6_value_X6_in
set_option maxRecDepth 20000 in
theorem ggX6_value_X6_isValue : GoodIn wsX6_value wsX6_isValue := goodIn_r _ [12] (by decide +kernel) (by decide +kernel)
set_option maxRecDepth 20000 in
theorem gX6_value_X6_isValue : GoodIn wsX6_value (va_wsS RX6 81 yX6_isValue wsX6_isValue) := goodIn_app (goodIn_of _ (by decide +kernel)) ggX6_value_X6_isValue
theorem dX6_value_0 : decode cX6_value 0 = .ok (.aload_n 0, 1) := by decide +kernel
theorem dX6_value_1 : decode cX6_value 1 = .ok (.iconst 0, 1) := by decide +kernel
theorem dX6_value_2 : decode cX6_value 2 = .ok (.putfield 67, 3) := by decide +kernel
theorem dX6_value_5 : decode cX6_value 5 = .ok (.iload_n 1, 1) := by decide +kernel
theorem dX6_value_6 : decode cX6_value 6 = .ok (.i2l, 1) := by decide +kernel
theorem dX6_value_7 : decode cX6_value 7 = .ok (.lconst 0, 1) := by decide +kernel
theorem dX6_value_8 : decode cX6_value 8 = .ok (.ldc2_w 71, 3) := by decide +kernel
theorem dX6_value_11 : decode cX6_value 11 = .ok (.invokestatic 73, 3) := by decide +kernel
theorem dX6_value_14 : decode cX6_value 14 = .ok (.ifCond .eq 24, 3) := by decide +kernel
theorem dX6_value_17 : decode cX6_value 17 = .ok (.iload_n 2, 1) := by decide +kernel
theorem dX6_value_18 : decode cX6_value 18 = .ok (.i2l, 1) := by decide +kernel
theorem dX6_value_19 : decode cX6_value 19 = .ok (.ldc2_w 77, 3) := by decide +kernel
theorem dX6_value_22 : decode cX6_value 22 = .ok (.ldc2_w 79, 3) := by decide +kernel
theorem dX6_value_25 : decode cX6_value 25 = .ok (.invokestatic 73, 3) := by decide +kernel
theorem dX6_value_28 : decode cX6_value 28 = .ok (.ifCond .eq 10, 3) := by decide +kernel
theorem dX6_value_31 : decode cX6_value 31 = .ok (.iload_n 3, 1) := by decide +kernel
theorem dX6_value_32 : decode cX6_value 32 = .ok (.invokestatic 81, 3) := by decide +kernel
theorem dX6_value_35 : decode cX6_value 35 = .ok (.ifCond .ne 5, 3) := by decide +kernel
theorem dX6_value_38 : decode cX6_value 38 = .ok (.iconst (-1), 1) := by decide +kernel
theorem dX6_value_39 : decode cX6_value 39 = .ok (.ireturn, 1) := by decide +kernel
theorem dX6_value_40 : decode cX6_value 40 = .ok (.aload_n 0, 1) := by decide +kernel
theorem dX6_value_41 : decode cX6_value 41 = .ok (.getfield 7, 3) := by decide +kernel
theorem dX6_value_44 : decode cX6_value 44 = .ok (.bipush 26, 2) := by decide +kernel
theorem dX6_value_46 : decode cX6_value 46 = .ok (.iload_n 1, 1) := by decide +kernel
theorem dX6_value_47 : decode cX6_value 47 = .ok (.imul, 1) := by decide +kernel
theorem dX6_value_48 : decode cX6_value 48 = .ok (.iload_n 2, 1) := by decide +kernel
theorem dX6_value_49 : decode cX6_value 49 = .ok (.iadd, 1) := by decide +kernel
theorem dX6_value_50 : decode cX6_value 50 = .ok (.bipush 97, 2) := by decide +kernel
theorem dX6_value_52 : decode cX6_value 52 = .ok (.isub, 1) := by decide +kernel
theorem dX6_value_53 : decode cX6_value 53 = .ok (.iaload, 1) := by decide +kernel
theorem dX6_value_54 : decode cX6_value 54 = .ok (.istore 4, 2) := by decide +kernel
theorem dX6_value_56 : decode cX6_value 56 = .ok (.aload_n 0, 1) := by decide +kernel
theorem dX6_value_57 : decode cX6_value 57 = .ok (.getfield 7, 3) := by decide +kernel
theorem dX6_value_60 : decode cX6_value 60 = .ok (.bipush 26, 2) := by decide +kernel
theorem dX6_value_62 : decode cX6_value 62 = .ok (.iload_n 1, 1) := by decide +kernel
theorem dX6_value_63 : decode cX6_value 63 = .ok (.imul, 1) := by decide +kernel
theorem dX6_value_64 : decode cX6_value 64 = .ok (.iload_n 2, 1) := by decide +kernel
theorem dX6_value_65 : decode cX6_value 65 = .ok (.iadd, 1) := by decide +kernel
theorem dX6_value_66 : decode cX6_value 66 = .ok (.bipush 97, 2) := by decide +kernel
theorem dX6_value_68 : decode cX6_value 68 = .ok (.isub, 1) := by decide +kernel
theorem dX6_value_69 : decode cX6_value 69 = .ok (.iload_n 3, 1) := by decide +kernel
theorem dX6_value_70 : decode cX6_value 70 = .ok (.iastore, 1) := by decide +kernel
theorem dX6_value_71 : decode cX6_value 71 = .ok (.iload 4, 2) := by decide +kernel
theorem dX6_value_73 : decode cX6_value 73 = .ok (.ireturn, 1) := by decide +kernel
set_option maxRecDepth 20000 in
theorem ggX6_isCapital_X6_in : GoodIn wsX6_isCapital wsX6_in := goodIn_r _ [6] (by decide +kernel) (by decide +kernel)
set_option maxRecDepth 20000 in
theorem gX6_isCapital_X6_in : GoodIn wsX6_isCapital (va_wsS RX6 73 yX6_in wsX6_in) := goodIn_app (goodIn_of _ (by decide +kernel)) ggX6_isCapital_X6_in
theorem dX6_isCapital_0 : decode cX6_isCapital 0 = .ok (.iload_n 0, 1) := by decide +kernel
theorem dX6_isCapital_1 : decode cX6_isCapital 1 = .ok (.i2l, 1) := by decide +kernel
theorem dX6_isCapital_2 : decode cX6_isCapital 2 = .ok (.ldc2_w 85, 3) := by decide +kernel
theorem dX6_isCapital_5 : decode cX6_isCapital 5 = .ok (.ldc2_w 87, 3) := by decide +kernel
theorem dX6_isCapital_8 : decode cX6_isCapital 8 = .ok (.invokestatic 73, 3) := by decide +kernel
theorem dX6_isCapital_11 : decode cX6_isCapital 11 = .ok (.ireturn, 1) := by decide +kernel
set_option maxRecDepth 20000 in
theorem ggX6_isLetter_X6_in : GoodIn wsX6_isLetter wsX6_in := goodIn_r _ [6] (by decide +kernel) (by decide +kernel)
set_option maxRecDepth 20000 in
theorem gX6_isLetter_X6_in : GoodIn wsX6_isLetter (va_wsS RX6 73 yX6_in wsX6_in) := goodIn_app (goodIn_of _ (by decide +kernel)) ggX6_isLetter_X6_in
set_option maxRecDepth 20000 in
theorem ggX6_isLetter_X6_isCapital : GoodIn wsX6_isLetter wsX6_isCapital := goodIn_r _ [9, 10, 11, 3, 4, 5, 6] (by decide +kernel) (by decide +kernel)
set_option maxRecDepth 20000 in
theorem gX6_isLetter_X6_isCapital : GoodIn wsX6_isLetter (va_wsS RX6 89 yX6_isCapital wsX6_isCapital) := goodIn_app (goodIn_of _ (by decide +kernel)) ggX6_isLetter_X6_isCapital
theorem dX6_isLetter_0 : decode cX6_isLetter 0 = .ok (.iload_n 0, 1) := by decide +kernel
theorem dX6_isLetter_1 : decode cX6_isLetter 1 = .ok (.i2l, 1) := by decide +kernel
theorem dX6_isLetter_2 : decode cX6_isLetter 2 = .ok (.ldc2_w 77, 3) := by decide +kernel
theorem dX6_isLetter_5 : decode cX6_isLetter 5 = .ok (.ldc2_w 79, 3) := by decide +kernel
theorem dX6_isLetter_8 : decode cX6_isLetter 8 = .ok (.invokestatic 73, 3) := by decide +kernel
theorem dX6_isLetter_11 : decode cX6_isLetter 11 = .ok (.ifCond .ne 10, 3) := by decide +kernel
theorem dX6_isLetter_14 : decode cX6_isLetter 14 = .ok (.iload_n 0, 1) := by decide +kernel
theorem dX6_isLetter_15 : decode cX6_isLetter 15 = .ok (.invokestatic 89, 3) := by decide +kernel
theorem dX6_isLetter_18 : decode cX6_isLetter 18 = .ok (.ifCond .eq 7, 3) := by decide +kernel
theorem dX6_isLetter_21 : decode cX6_isLetter 21 = .ok (.iconst 1, 1) := by decide +kernel
theorem dX6_isLetter_22 : decode cX6_isLetter 22 = .ok (.goto 4, 3) := by decide +kernel
theorem dX6_isLetter_25 : decode cX6_isLetter 25 = .ok (.iconst 0, 1) := by decide +kernel
theorem dX6_isLetter_26 : decode cX6_isLetter 26 = .ok (.ireturn, 1) := by decide +kernel
set_option maxRecDepth 20000 in
theorem ggX6_worthOf_X6_isLetter : GoodIn wsX6_worthOf wsX6_isLetter := goodIn_r _ [5, 6, 7, 8, 9, 4, 10, 11, 12, 13, 14, 15] (by decide +kernel) (by decide +kernel)
set_option maxRecDepth 20000 in
theorem gX6_worthOf_X6_isLetter : GoodIn wsX6_worthOf (va_wsS RX6 92 yX6_isLetter wsX6_isLetter) := goodIn_app (goodIn_of _ (by decide +kernel)) ggX6_worthOf_X6_isLetter
set_option maxRecDepth 20000 in
theorem ggX6_worthOf_X6_isCapital : GoodIn wsX6_worthOf wsX6_isCapital := goodIn_r _ [13, 14, 15, 8, 9, 4, 10] (by decide +kernel) (by decide +kernel)
set_option maxRecDepth 20000 in
theorem gX6_worthOf_X6_isCapital : GoodIn wsX6_worthOf (va_wsS RX6 89 yX6_isCapital wsX6_isCapital) := goodIn_app (goodIn_of _ (by decide +kernel)) ggX6_worthOf_X6_isCapital
theorem dX6_worthOf_0 : decode cX6_worthOf 0 = .ok (.iload_n 3, 1) := by decide +kernel
theorem dX6_worthOf_1 : decode cX6_worthOf 1 = .ok (.invokestatic 92, 3) := by decide +kernel
theorem dX6_worthOf_4 : decode cX6_worthOf 4 = .ok (.ifCond .eq 25, 3) := by decide +kernel
theorem dX6_worthOf_7 : decode cX6_worthOf 7 = .ok (.iload_n 1, 1) := by decide +kernel
theorem dX6_worthOf_8 : decode cX6_worthOf 8 = .ok (.ifCond .le 10, 3) := by decide +kernel
theorem dX6_worthOf_11 : decode cX6_worthOf 11 = .ok (.iload_n 3, 1) := by decide +kernel
theorem dX6_worthOf_12 : decode cX6_worthOf 12 = .ok (.invokestatic 89, 3) := by decide +kernel
theorem dX6_worthOf_15 : decode cX6_worthOf 15 = .ok (.ifCond .eq 14, 3) := by decide +kernel
theorem dX6_worthOf_18 : decode cX6_worthOf 18 = .ok (.iload_n 1, 1) := by decide +kernel
theorem dX6_worthOf_19 : decode cX6_worthOf 19 = .ok (.iconst 1, 1) := by decide +kernel
theorem dX6_worthOf_20 : decode cX6_worthOf 20 = .ok (.if_icmp .le 11, 3) := by decide +kernel
theorem dX6_worthOf_23 : decode cX6_worthOf 23 = .ok (.iload 4, 2) := by decide +kernel
theorem dX6_worthOf_25 : decode cX6_worthOf 25 = .ok (.iload_n 3, 1) := by decide +kernel
theorem dX6_worthOf_26 : decode cX6_worthOf 26 = .ok (.if_icmp .ne 5, 3) := by decide +kernel
theorem dX6_worthOf_29 : decode cX6_worthOf 29 = .ok (.iconst 0, 1) := by decide +kernel
theorem dX6_worthOf_30 : decode cX6_worthOf 30 = .ok (.ireturn, 1) := by decide +kernel
theorem dX6_worthOf_31 : decode cX6_worthOf 31 = .ok (.aload_n 0, 1) := by decide +kernel
theorem dX6_worthOf_32 : decode cX6_worthOf 32 = .ok (.getfield 7, 3) := by decide +kernel
theorem dX6_worthOf_35 : decode cX6_worthOf 35 = .ok (.bipush 26, 2) := by decide +kernel
theorem dX6_worthOf_37 : decode cX6_worthOf 37 = .ok (.iload_n 2, 1) := by decide +kernel
theorem dX6_worthOf_38 : decode cX6_worthOf 38 = .ok (.imul, 1) := by decide +kernel
theorem dX6_worthOf_39 : decode cX6_worthOf 39 = .ok (.iload_n 3, 1) := by decide +kernel
theorem dX6_worthOf_40 : decode cX6_worthOf 40 = .ok (.invokestatic 89, 3) := by decide +kernel
theorem dX6_worthOf_43 : decode cX6_worthOf 43 = .ok (.ifCond .eq 10, 3) := by decide +kernel
theorem dX6_worthOf_46 : decode cX6_worthOf 46 = .ok (.iload_n 3, 1) := by decide +kernel
theorem dX6_worthOf_47 : decode cX6_worthOf 47 = .ok (.bipush 65, 2) := by decide +kernel
theorem dX6_worthOf_49 : decode cX6_worthOf 49 = .ok (.isub, 1) := by decide +kernel
theorem dX6_worthOf_50 : decode cX6_worthOf 50 = .ok (.goto 7, 3) := by decide +kernel
theorem dX6_worthOf_53 : decode cX6_worthOf 53 = .ok (.iload_n 3, 1) := by decide +kernel
theorem dX6_worthOf_54 : decode cX6_worthOf 54 = .ok (.bipush 97, 2) := by decide +kernel
theorem dX6_worthOf_56 : decode cX6_worthOf 56 = .ok (.isub, 1) := by decide +kernel
theorem dX6_worthOf_57 : decode cX6_worthOf 57 = .ok (.iadd, 1) := by decide +kernel
theorem dX6_worthOf_58 : decode cX6_worthOf 58 = .ok (.iaload, 1) := by decide +kernel
theorem dX6_worthOf_59 : decode cX6_worthOf 59 = .ok (.ireturn, 1) := by decide +kernel
set_option maxRecDepth 20000 in
theorem ggX6_isWay_X6_in : GoodIn wsX6_isWay wsX6_in := goodIn_r _ [6] (by decide +kernel) (by decide +kernel)
set_option maxRecDepth 20000 in
theorem gX6_isWay_X6_in : GoodIn wsX6_isWay (va_wsS RX6 73 yX6_in wsX6_in) := goodIn_app (goodIn_of _ (by decide +kernel)) ggX6_isWay_X6_in
theorem dX6_isWay_0 : decode cX6_isWay 0 = .ok (.iload_n 0, 1) := by decide +kernel
theorem dX6_isWay_1 : decode cX6_isWay 1 = .ok (.i2l, 1) := by decide +kernel
theorem dX6_isWay_2 : decode cX6_isWay 2 = .ok (.lconst 0, 1) := by decide +kernel
theorem dX6_isWay_3 : decode cX6_isWay 3 = .ok (.ldc2_w 95, 3) := by decide +kernel
theorem dX6_isWay_6 : decode cX6_isWay 6 = .ok (.invokestatic 73, 3) := by decide +kernel
theorem dX6_isWay_9 : decode cX6_isWay 9 = .ok (.ifCond .eq 19, 3) := by decide +kernel
theorem dX6_isWay_12 : decode cX6_isWay 12 = .ok (.iload_n 1, 1) := by decide +kernel
theorem dX6_isWay_13 : decode cX6_isWay 13 = .ok (.i2l, 1) := by decide +kernel
theorem dX6_isWay_14 : decode cX6_isWay 14 = .ok (.lconst 0, 1) := by decide +kernel
theorem dX6_isWay_15 : decode cX6_isWay 15 = .ok (.ldc2_w 71, 3) := by decide +kernel
theorem dX6_isWay_18 : decode cX6_isWay 18 = .ok (.invokestatic 73, 3) := by decide +kernel
theorem dX6_isWay_21 : decode cX6_isWay 21 = .ok (.ifCond .eq 7, 3) := by decide +kernel
theorem dX6_isWay_24 : decode cX6_isWay 24 = .ok (.iconst 1, 1) := by decide +kernel
theorem dX6_isWay_25 : decode cX6_isWay 25 = .ok (.goto 4, 3) := by decide +kernel
theorem dX6_isWay_28 : decode cX6_isWay 28 = .ok (.iconst 0, 1) := by decide +kernel
theorem dX6_isWay_29 : decode cX6_isWay 29 = .ok (.ireturn, 1) := by decide +kernel
set_option maxRecDepth 20000 in
theorem ggX6_worth_X6_isWay : GoodIn wsX6_worth wsX6_isWay := goodIn_r _ [9, 10, 11, 12, 13, 8, 14] (by decide +kernel) (by decide +kernel)
set_option maxRecDepth 20000 in
theorem gX6_worth_X6_isWay : GoodIn wsX6_worth (va_wsS RX6 97 yX6_isWay wsX6_isWay) := goodIn_app (goodIn_of _ (by decide +kernel)) ggX6_worth_X6_isWay
set_option maxRecDepth 20000 in
theorem ggX6_worth_X6_in : GoodIn wsX6_worth wsX6_in := goodIn_r _ [14] (by decide +kernel) (by decide +kernel)
set_option maxRecDepth 20000 in
theorem gX6_worth_X6_in : GoodIn wsX6_worth (va_wsS RX6 73 yX6_in wsX6_in) := goodIn_app (goodIn_of _ (by decide +kernel)) ggX6_worth_X6_in
set_option maxRecDepth 20000 in
theorem ggX6_worth_X6_worthOf : GoodIn wsX6_worth wsX6_worthOf := goodIn_r _ [18, 19, 20, 21, 8, 22, 23, 24, 12, 13, 14, 25, 26, 27, 28, 29, 30, 31, 32, 33, 34, 35, 36, 37, 38, 39, 40, 41, 42, 43, 44, 45, 46, 47, 48, 49, 50, 51, 52] (by decide +kernel) (by decide +kernel)
set_option maxRecDepth 20000 in
theorem gX6_worth_X6_worthOf : GoodIn wsX6_worth (wsV RX6 111 RX6 yX6_worthOf wsX6_worthOf) := goodIn_app (goodIn_of _ (by decide +kernel)) ggX6_worth_X6_worthOf
theorem dX6_worth_0 : decode cX6_worth 0 = .ok (.aload_n 0, 1) := by decide +kernel
theorem dX6_worth_1 : decode cX6_worth 1 = .ok (.iconst 0, 1) := by decide +kernel
theorem dX6_worth_2 : decode cX6_worth 2 = .ok (.putfield 67, 3) := by decide +kernel
theorem dX6_worth_5 : decode cX6_worth 5 = .ok (.iload_n 1, 1) := by decide +kernel
theorem dX6_worth_6 : decode cX6_worth 6 = .ok (.iload_n 2, 1) := by decide +kernel
theorem dX6_worth_7 : decode cX6_worth 7 = .ok (.invokestatic 97, 3) := by decide +kernel
theorem dX6_worth_10 : decode cX6_worth 10 = .ok (.ifCond .eq 28, 3) := by decide +kernel
theorem dX6_worth_13 : decode cX6_worth 13 = .ok (.iload_n 3, 1) := by decide +kernel
theorem dX6_worth_14 : decode cX6_worth 14 = .ok (.i2l, 1) := by decide +kernel
theorem dX6_worth_15 : decode cX6_worth 15 = .ok (.lconst 0, 1) := by decide +kernel
theorem dX6_worth_16 : decode cX6_worth 16 = .ok (.ldc2_w 101, 3) := by decide +kernel
theorem dX6_worth_19 : decode cX6_worth 19 = .ok (.invokestatic 73, 3) := by decide +kernel
theorem dX6_worth_22 : decode cX6_worth 22 = .ok (.ifCond .eq 16, 3) := by decide +kernel
theorem dX6_worth_25 : decode cX6_worth 25 = .ok (.iload 4, 2) := by decide +kernel
theorem dX6_worth_27 : decode cX6_worth 27 = .ok (.i2l, 1) := by decide +kernel
theorem dX6_worth_28 : decode cX6_worth 28 = .ok (.lconst 0, 1) := by decide +kernel
theorem dX6_worth_29 : decode cX6_worth 29 = .ok (.ldc2_w 101, 3) := by decide +kernel
theorem dX6_worth_32 : decode cX6_worth 32 = .ok (.invokestatic 73, 3) := by decide +kernel
theorem dX6_worth_35 : decode cX6_worth 35 = .ok (.ifCond .ne 5, 3) := by decide +kernel
theorem dX6_worth_38 : decode cX6_worth 38 = .ok (.iconst (-1), 1) := by decide +kernel
theorem dX6_worth_39 : decode cX6_worth 39 = .ok (.ireturn, 1) := by decide +kernel
theorem dX6_worth_40 : decode cX6_worth 40 = .ok (.aload_n 0, 1) := by decide +kernel
theorem dX6_worth_41 : decode cX6_worth 41 = .ok (.dup, 1) := by decide +kernel
theorem dX6_worth_42 : decode cX6_worth 42 = .ok (.getfield 103, 3) := by decide +kernel
theorem dX6_worth_45 : decode cX6_worth 45 = .ok (.iload_n 1, 1) := by decide +kernel
theorem dX6_worth_46 : decode cX6_worth 46 = .ok (.ifCond .ne 7, 3) := by decide +kernel
theorem dX6_worth_49 : decode cX6_worth 49 = .ok (.lconst 1, 1) := by decide +kernel
theorem dX6_worth_50 : decode cX6_worth 50 = .ok (.goto 17, 3) := by decide +kernel
theorem dX6_worth_53 : decode cX6_worth 53 = .ok (.iload_n 1, 1) := by decide +kernel
theorem dX6_worth_54 : decode cX6_worth 54 = .ok (.iconst 1, 1) := by decide +kernel
theorem dX6_worth_55 : decode cX6_worth 55 = .ok (.if_icmp .ne 9, 3) := by decide +kernel
theorem dX6_worth_58 : decode cX6_worth 58 = .ok (.ldc2_w 107, 3) := by decide +kernel
theorem dX6_worth_61 : decode cX6_worth 61 = .ok (.goto 6, 3) := by decide +kernel
theorem dX6_worth_64 : decode cX6_worth 64 = .ok (.ldc2_w 109, 3) := by decide +kernel
theorem dX6_worth_67 : decode cX6_worth 67 = .ok (.ladd, 1) := by decide +kernel
theorem dX6_worth_68 : decode cX6_worth 68 = .ok (.putfield 103, 3) := by decide +kernel
theorem dX6_worth_71 : decode cX6_worth 71 = .ok (.aload_n 0, 1) := by decide +kernel
theorem dX6_worth_72 : decode cX6_worth 72 = .ok (.iload_n 1, 1) := by decide +kernel
theorem dX6_worth_73 : decode cX6_worth 73 = .ok (.iload_n 2, 1) := by decide +kernel
theorem dX6_worth_74 : decode cX6_worth 74 = .ok (.iload_n 3, 1) := by decide +kernel
theorem dX6_worth_75 : decode cX6_worth 75 = .ok (.iload 4, 2) := by decide +kernel
theorem dX6_worth_77 : decode cX6_worth 77 = .ok (.invokevirtual 111, 3) := by decide +kernel
theorem dX6_worth_80 : decode cX6_worth 80 = .ok (.ireturn, 1) := by decide +kernel
set_option maxRecDepth 20000 in
theorem ggX6_type_X6_in : GoodIn wsX6_type wsX6_in := goodIn_r _ [9] (by decide +kernel) (by decide +kernel)
set_option maxRecDepth 20000 in
theorem gX6_type_X6_in : GoodIn wsX6_type (va_wsS RX6 73 yX6_in wsX6_in) := goodIn_app (goodIn_of _ (by decide +kernel)) ggX6_type_X6_in
set_option maxRecDepth 20000 in
theorem ggX6_type_X6_isLetter : GoodIn wsX6_type wsX6_isLetter := goodIn_r _ [12, 13, 14, 6, 7, 8, 9, 15, 16, 17, 18, 19] (by decide +kernel) (by decide +kernel)
set_option maxRecDepth 20000 in
theorem gX6_type_X6_isLetter : GoodIn wsX6_type (va_wsS RX6 92 yX6_isLetter wsX6_isLetter) := goodIn_app (goodIn_of _ (by decide +kernel)) ggX6_type_X6_isLetter
theorem dX6_type_0 : decode cX6_type 0 = .ok (.aload_n 0, 1) := by decide +kernel
theorem dX6_type_1 : decode cX6_type 1 = .ok (.iconst 0, 1) := by decide +kernel
theorem dX6_type_2 : decode cX6_type 2 = .ok (.putfield 67, 3) := by decide +kernel
theorem dX6_type_5 : decode cX6_type 5 = .ok (.iload_n 3, 1) := by decide +kernel
theorem dX6_type_6 : decode cX6_type 6 = .ok (.i2l, 1) := by decide +kernel
theorem dX6_type_7 : decode cX6_type 7 = .ok (.lconst 1, 1) := by decide +kernel
theorem dX6_type_8 : decode cX6_type 8 = .ok (.ldc2_w 115, 3) := by decide +kernel
theorem dX6_type_11 : decode cX6_type 11 = .ok (.invokestatic 73, 3) := by decide +kernel
theorem dX6_type_14 : decode cX6_type 14 = .ok (.ifCond .ne 5, 3) := by decide +kernel
theorem dX6_type_17 : decode cX6_type 17 = .ok (.iconst (-1), 1) := by decide +kernel
theorem dX6_type_18 : decode cX6_type 18 = .ok (.ireturn, 1) := by decide +kernel
theorem dX6_type_19 : decode cX6_type 19 = .ok (.iconst 0, 1) := by decide +kernel
theorem dX6_type_20 : decode cX6_type 20 = .ok (.istore 4, 2) := by decide +kernel
theorem dX6_type_22 : decode cX6_type 22 = .ok (.iload 4, 2) := by decide +kernel
theorem dX6_type_24 : decode cX6_type 24 = .ok (.iload_n 3, 1) := by decide +kernel
theorem dX6_type_25 : decode cX6_type 25 = .ok (.if_icmp .ge 47, 3) := by decide +kernel
theorem dX6_type_28 : decode cX6_type 28 = .ok (.lload_n 1, 1) := by decide +kernel
theorem dX6_type_29 : decode cX6_type 29 = .ok (.bipush 8, 2) := by decide +kernel
theorem dX6_type_31 : decode cX6_type 31 = .ok (.iload 4, 2) := by decide +kernel
theorem dX6_type_33 : decode cX6_type 33 = .ok (.imul, 1) := by decide +kernel
theorem dX6_type_34 : decode cX6_type 34 = .ok (.lshr, 1) := by decide +kernel
theorem dX6_type_35 : decode cX6_type 35 = .ok (.ldc2_w 101, 3) := by decide +kernel
theorem dX6_type_38 : decode cX6_type 38 = .ok (.land, 1) := by decide +kernel
theorem dX6_type_39 : decode cX6_type 39 = .ok (.l2i, 1) := by decide +kernel
theorem dX6_type_40 : decode cX6_type 40 = .ok (.istore 5, 2) := by decide +kernel
theorem dX6_type_42 : decode cX6_type 42 = .ok (.iload 5, 2) := by decide +kernel
theorem dX6_type_44 : decode cX6_type 44 = .ok (.invokestatic 92, 3) := by decide +kernel
theorem dX6_type_47 : decode cX6_type 47 = .ok (.ifCond .ne 19, 3) := by decide +kernel
theorem dX6_type_50 : decode cX6_type 50 = .ok (.iload 5, 2) := by decide +kernel
theorem dX6_type_52 : decode cX6_type 52 = .ok (.bipush 32, 2) := by decide +kernel
theorem dX6_type_54 : decode cX6_type 54 = .ok (.if_icmp .eq 12, 3) := by decide +kernel
theorem dX6_type_57 : decode cX6_type 57 = .ok (.iload 5, 2) := by decide +kernel
theorem dX6_type_59 : decode cX6_type 59 = .ok (.bipush 63, 2) := by decide +kernel
theorem dX6_type_61 : decode cX6_type 61 = .ok (.if_icmp .eq 5, 3) := by decide +kernel
theorem dX6_type_64 : decode cX6_type 64 = .ok (.iconst (-1), 1) := by decide +kernel
theorem dX6_type_65 : decode cX6_type 65 = .ok (.ireturn, 1) := by decide +kernel
theorem dX6_type_66 : decode cX6_type 66 = .ok (.iinc 4 1, 3) := by decide +kernel
theorem dX6_type_69 : decode cX6_type 69 = .ok (.goto (-47), 3) := by decide +kernel
theorem dX6_type_72 : decode cX6_type 72 = .ok (.aload_n 0, 1) := by decide +kernel
theorem dX6_type_73 : decode cX6_type 73 = .ok (.getfield 117, 3) := by decide +kernel
theorem dX6_type_76 : decode cX6_type 76 = .ok (.iload_n 3, 1) := by decide +kernel
theorem dX6_type_77 : decode cX6_type 77 = .ok (.iadd, 1) := by decide +kernel
theorem dX6_type_78 : decode cX6_type 78 = .ok (.bipush 40, 2) := by decide +kernel
theorem dX6_type_80 : decode cX6_type 80 = .ok (.if_icmp .le 6, 3) := by decide +kernel
theorem dX6_type_83 : decode cX6_type 83 = .ok (.bipush (-3), 2) := by decide +kernel
theorem dX6_type_85 : decode cX6_type 85 = .ok (.ireturn, 1) := by decide +kernel
theorem dX6_type_86 : decode cX6_type 86 = .ok (.iload_n 3, 1) := by decide +kernel
theorem dX6_type_87 : decode cX6_type 87 = .ok (.iconst 1, 1) := by decide +kernel
theorem dX6_type_88 : decode cX6_type 88 = .ok (.isub, 1) := by decide +kernel
theorem dX6_type_89 : decode cX6_type 89 = .ok (.istore 4, 2) := by decide +kernel
theorem dX6_type_91 : decode cX6_type 91 = .ok (.iload 4, 2) := by decide +kernel
theorem dX6_type_93 : decode cX6_type 93 = .ok (.ifCond .lt 40, 3) := by decide +kernel
theorem dX6_type_96 : decode cX6_type 96 = .ok (.aload_n 0, 1) := by decide +kernel
theorem dX6_type_97 : decode cX6_type 97 = .ok (.getfield 13, 3) := by decide +kernel
theorem dX6_type_100 : decode cX6_type 100 = .ok (.aload_n 0, 1) := by decide +kernel
theorem dX6_type_101 : decode cX6_type 101 = .ok (.getfield 117, 3) := by decide +kernel
theorem dX6_type_104 : decode cX6_type 104 = .ok (.lload_n 1, 1) := by decide +kernel
theorem dX6_type_105 : decode cX6_type 105 = .ok (.bipush 8, 2) := by decide +kernel
theorem dX6_type_107 : decode cX6_type 107 = .ok (.iload 4, 2) := by decide +kernel
theorem dX6_type_109 : decode cX6_type 109 = .ok (.imul, 1) := by decide +kernel
theorem dX6_type_110 : decode cX6_type 110 = .ok (.lshr, 1) := by decide +kernel
theorem dX6_type_111 : decode cX6_type 111 = .ok (.ldc2_w 101, 3) := by decide +kernel
theorem dX6_type_114 : decode cX6_type 114 = .ok (.land, 1) := by decide +kernel
theorem dX6_type_115 : decode cX6_type 115 = .ok (.l2i, 1) := by decide +kernel
theorem dX6_type_116 : decode cX6_type 116 = .ok (.iastore, 1) := by decide +kernel
theorem dX6_type_117 : decode cX6_type 117 = .ok (.aload_n 0, 1) := by decide +kernel
theorem dX6_type_118 : decode cX6_type 118 = .ok (.dup, 1) := by decide +kernel
theorem dX6_type_119 : decode cX6_type 119 = .ok (.getfield 117, 3) := by decide +kernel
theorem dX6_type_122 : decode cX6_type 122 = .ok (.iconst 1, 1) := by decide +kernel
theorem dX6_type_123 : decode cX6_type 123 = .ok (.iadd, 1) := by decide +kernel
theorem dX6_type_124 : decode cX6_type 124 = .ok (.putfield 117, 3) := by decide +kernel
theorem dX6_type_127 : decode cX6_type 127 = .ok (.iinc 4 (-1), 3) := by decide +kernel
theorem dX6_type_130 : decode cX6_type 130 = .ok (.goto (-39), 3) := by decide +kernel
theorem dX6_type_133 : decode cX6_type 133 = .ok (.aload_n 0, 1) := by decide +kernel
theorem dX6_type_134 : decode cX6_type 134 = .ok (.getfield 117, 3) := by decide +kernel
theorem dX6_type_137 : decode cX6_type 137 = .ok (.ireturn, 1) := by decide +kernel
theorem dX6_clear_0 : decode cX6_clear 0 = .ok (.aload_n 0, 1) := by decide +kernel
theorem dX6_clear_1 : decode cX6_clear 1 = .ok (.iconst 0, 1) := by decide +kernel
theorem dX6_clear_2 : decode cX6_clear 2 = .ok (.putfield 67, 3) := by decide +kernel
theorem dX6_clear_5 : decode cX6_clear 5 = .ok (.aload_n 0, 1) := by decide +kernel
theorem dX6_clear_6 : decode cX6_clear 6 = .ok (.getfield 117, 3) := by decide +kernel
theorem dX6_clear_9 : decode cX6_clear 9 = .ok (.istore_n 1, 1) := by decide +kernel
theorem dX6_clear_10 : decode cX6_clear 10 = .ok (.aload_n 0, 1) := by decide +kernel
theorem dX6_clear_11 : decode cX6_clear 11 = .ok (.iconst 0, 1) := by decide +kernel
theorem dX6_clear_12 : decode cX6_clear 12 = .ok (.putfield 117, 3) := by decide +kernel
theorem dX6_clear_15 : decode cX6_clear 15 = .ok (.iload_n 1, 1) := by decide +kernel
theorem dX6_clear_16 : decode cX6_clear 16 = .ok (.ireturn, 1) := by decide +kernel
set_option maxRecDepth 20000 in
theorem ggX6_sumOf_X6_worthOf : GoodIn wsX6_sumOf wsX6_worthOf := goodIn_r _ [7, 8, 9, 10, 6, 11, 12, 13, 14, 15, 16, 17, 18, 19, 20, 21, 22, 23, 24, 25, 26, 27, 28, 29, 30, 31, 32, 33, 34, 35, 36, 37, 38, 39, 40, 41, 42, 43, 44] (by decide +kernel) (by decide +kernel)
set_option maxRecDepth 20000 in
theorem gX6_sumOf_X6_worthOf : GoodIn wsX6_sumOf (wsV RX6 111 RX6 yX6_worthOf wsX6_worthOf) := goodIn_app (goodIn_of _ (by decide +kernel)) ggX6_sumOf_X6_worthOf
theorem dX6_sumOf_0 : decode cX6_sumOf 0 = .ok (.iconst 0, 1) := by decide +kernel
theorem dX6_sumOf_1 : decode cX6_sumOf 1 = .ok (.istore_n 3, 1) := by decide +kernel
theorem dX6_sumOf_2 : decode cX6_sumOf 2 = .ok (.iconst 0, 1) := by decide +kernel
theorem dX6_sumOf_3 : decode cX6_sumOf 3 = .ok (.istore 4, 2) := by decide +kernel
theorem dX6_sumOf_5 : decode cX6_sumOf 5 = .ok (.iload 4, 2) := by decide +kernel
theorem dX6_sumOf_7 : decode cX6_sumOf 7 = .ok (.aload_n 0, 1) := by decide +kernel
theorem dX6_sumOf_8 : decode cX6_sumOf 8 = .ok (.getfield 117, 3) := by decide +kernel
theorem dX6_sumOf_11 : decode cX6_sumOf 11 = .ok (.if_icmp .ge 44, 3) := by decide +kernel
theorem dX6_sumOf_14 : decode cX6_sumOf 14 = .ok (.iload_n 3, 1) := by decide +kernel
theorem dX6_sumOf_15 : decode cX6_sumOf 15 = .ok (.aload_n 0, 1) := by decide +kernel
theorem dX6_sumOf_16 : decode cX6_sumOf 16 = .ok (.iload_n 1, 1) := by decide +kernel
theorem dX6_sumOf_17 : decode cX6_sumOf 17 = .ok (.iload_n 2, 1) := by decide +kernel
theorem dX6_sumOf_18 : decode cX6_sumOf 18 = .ok (.aload_n 0, 1) := by decide +kernel
theorem dX6_sumOf_19 : decode cX6_sumOf 19 = .ok (.getfield 13, 3) := by decide +kernel
theorem dX6_sumOf_22 : decode cX6_sumOf 22 = .ok (.iload 4, 2) := by decide +kernel
theorem dX6_sumOf_24 : decode cX6_sumOf 24 = .ok (.iaload, 1) := by decide +kernel
theorem dX6_sumOf_25 : decode cX6_sumOf 25 = .ok (.iload 4, 2) := by decide +kernel
theorem dX6_sumOf_27 : decode cX6_sumOf 27 = .ok (.ifCond .ne 8, 3) := by decide +kernel
theorem dX6_sumOf_30 : decode cX6_sumOf 30 = .ok (.bipush 32, 2) := by decide +kernel
theorem dX6_sumOf_32 : decode cX6_sumOf 32 = .ok (.goto 12, 3) := by decide +kernel
theorem dX6_sumOf_35 : decode cX6_sumOf 35 = .ok (.aload_n 0, 1) := by decide +kernel
theorem dX6_sumOf_36 : decode cX6_sumOf 36 = .ok (.getfield 13, 3) := by decide +kernel
theorem dX6_sumOf_39 : decode cX6_sumOf 39 = .ok (.iload 4, 2) := by decide +kernel
theorem dX6_sumOf_41 : decode cX6_sumOf 41 = .ok (.iconst 1, 1) := by decide +kernel
theorem dX6_sumOf_42 : decode cX6_sumOf 42 = .ok (.isub, 1) := by decide +kernel
theorem dX6_sumOf_43 : decode cX6_sumOf 43 = .ok (.iaload, 1) := by decide +kernel
theorem dX6_sumOf_44 : decode cX6_sumOf 44 = .ok (.invokevirtual 111, 3) := by decide +kernel
theorem dX6_sumOf_47 : decode cX6_sumOf 47 = .ok (.iadd, 1) := by decide +kernel
theorem dX6_sumOf_48 : decode cX6_sumOf 48 = .ok (.istore_n 3, 1) := by decide +kernel
theorem dX6_sumOf_49 : decode cX6_sumOf 49 = .ok (.iinc 4 1, 3) := by decide +kernel
theorem dX6_sumOf_52 : decode cX6_sumOf 52 = .ok (.goto (-47), 3) := by decide +kernel
theorem dX6_sumOf_55 : decode cX6_sumOf 55 = .ok (.iload_n 3, 1) := by decide +kernel
theorem dX6_sumOf_56 : decode cX6_sumOf 56 = .ok (.ireturn, 1) := by decide +kernel
set_option maxRecDepth 20000 in
theorem ggX6_sum_X6_isWay : GoodIn wsX6_sum wsX6_isWay := goodIn_r _ [5, 6, 7, 8, 9, 4, 10] (by decide +kernel) (by decide +kernel)
set_option maxRecDepth 20000 in
theorem gX6_sum_X6_isWay : GoodIn wsX6_sum (va_wsS RX6 97 yX6_isWay wsX6_isWay) := goodIn_app (goodIn_of _ (by decide +kernel)) ggX6_sum_X6_isWay
set_option maxRecDepth 20000 in
theorem ggX6_sum_X6_sumOf : GoodIn wsX6_sum wsX6_sumOf := goodIn_r _ [14, 15, 16, 17, 18, 19, 4, 20, 21, 22, 23, 24, 25, 26, 8, 9, 10, 27, 28, 29, 30, 31, 32, 33, 34, 35, 36, 37, 38, 39, 40, 41, 42, 43, 44, 45, 46, 47, 48, 49, 50, 51, 52, 53, 54] (by decide +kernel) (by decide +kernel)
set_option maxRecDepth 20000 in
theorem gX6_sum_X6_sumOf : GoodIn wsX6_sum (wsV RX6 120 RX6 yX6_sumOf wsX6_sumOf) := goodIn_app (goodIn_of _ (by decide +kernel)) ggX6_sum_X6_sumOf
theorem dX6_sum_0 : decode cX6_sum 0 = .ok (.aload_n 0, 1) := by decide +kernel
theorem dX6_sum_1 : decode cX6_sum 1 = .ok (.iconst 0, 1) := by decide +kernel
theorem dX6_sum_2 : decode cX6_sum 2 = .ok (.putfield 67, 3) := by decide +kernel
theorem dX6_sum_5 : decode cX6_sum 5 = .ok (.iload_n 1, 1) := by decide +kernel
theorem dX6_sum_6 : decode cX6_sum 6 = .ok (.iload_n 2, 1) := by decide +kernel
theorem dX6_sum_7 : decode cX6_sum 7 = .ok (.invokestatic 97, 3) := by decide +kernel
theorem dX6_sum_10 : decode cX6_sum 10 = .ok (.ifCond .eq 12, 3) := by decide +kernel
theorem dX6_sum_13 : decode cX6_sum 13 = .ok (.aload_n 0, 1) := by decide +kernel
theorem dX6_sum_14 : decode cX6_sum 14 = .ok (.iload_n 1, 1) := by decide +kernel
theorem dX6_sum_15 : decode cX6_sum 15 = .ok (.iload_n 2, 1) := by decide +kernel
theorem dX6_sum_16 : decode cX6_sum 16 = .ok (.invokevirtual 120, 3) := by decide +kernel
theorem dX6_sum_19 : decode cX6_sum 19 = .ok (.goto 4, 3) := by decide +kernel
theorem dX6_sum_22 : decode cX6_sum 22 = .ok (.iconst (-1), 1) := by decide +kernel
theorem dX6_sum_23 : decode cX6_sum 23 = .ok (.ireturn, 1) := by decide +kernel
set_option maxRecDepth 20000 in
theorem ggX6_vocable_X6_in : GoodIn wsX6_vocable wsX6_in := goodIn_r _ [15] (by decide +kernel) (by decide +kernel)
set_option maxRecDepth 20000 in
theorem gX6_vocable_X6_in : GoodIn wsX6_vocable (va_wsS RX6 73 yX6_in wsX6_in) := goodIn_app (goodIn_of _ (by decide +kernel)) ggX6_vocable_X6_in
set_option maxRecDepth 20000 in
theorem ggX6_vocable_X6_isLetter : GoodIn wsX6_vocable wsX6_isLetter := goodIn_r _ [18, 19, 20, 12, 13, 14, 15, 21, 22, 23, 24, 25] (by decide +kernel) (by decide +kernel)
set_option maxRecDepth 20000 in
theorem gX6_vocable_X6_isLetter : GoodIn wsX6_vocable (va_wsS RX6 92 yX6_isLetter wsX6_isLetter) := goodIn_app (goodIn_of _ (by decide +kernel)) ggX6_vocable_X6_isLetter
theorem dX6_vocable_0 : decode cX6_vocable 0 = .ok (.aload_n 0, 1) := by decide +kernel
theorem dX6_vocable_1 : decode cX6_vocable 1 = .ok (.iconst 0, 1) := by decide +kernel
theorem dX6_vocable_2 : decode cX6_vocable 2 = .ok (.putfield 67, 3) := by decide +kernel
theorem dX6_vocable_5 : decode cX6_vocable 5 = .ok (.iload_n 1, 1) := by decide +kernel
theorem dX6_vocable_6 : decode cX6_vocable 6 = .ok (.i2l, 1) := by decide +kernel
theorem dX6_vocable_7 : decode cX6_vocable 7 = .ok (.lconst 1, 1) := by decide +kernel
theorem dX6_vocable_8 : decode cX6_vocable 8 = .ok (.ldc2_w 71, 3) := by decide +kernel
theorem dX6_vocable_11 : decode cX6_vocable 11 = .ok (.invokestatic 73, 3) := by decide +kernel
theorem dX6_vocable_14 : decode cX6_vocable 14 = .ok (.ifCond .eq 15, 3) := by decide +kernel
theorem dX6_vocable_17 : decode cX6_vocable 17 = .ok (.iload_n 2, 1) := by decide +kernel
theorem dX6_vocable_18 : decode cX6_vocable 18 = .ok (.i2l, 1) := by decide +kernel
theorem dX6_vocable_19 : decode cX6_vocable 19 = .ok (.lconst 0, 1) := by decide +kernel
theorem dX6_vocable_20 : decode cX6_vocable 20 = .ok (.ldc2_w 95, 3) := by decide +kernel
theorem dX6_vocable_23 : decode cX6_vocable 23 = .ok (.invokestatic 73, 3) := by decide +kernel
theorem dX6_vocable_26 : decode cX6_vocable 26 = .ok (.ifCond .ne 5, 3) := by decide +kernel
theorem dX6_vocable_29 : decode cX6_vocable 29 = .ok (.iconst (-1), 1) := by decide +kernel
theorem dX6_vocable_30 : decode cX6_vocable 30 = .ok (.ireturn, 1) := by decide +kernel
theorem dX6_vocable_31 : decode cX6_vocable 31 = .ok (.aload_n 0, 1) := by decide +kernel
theorem dX6_vocable_32 : decode cX6_vocable 32 = .ok (.getfield 117, 3) := by decide +kernel
theorem dX6_vocable_35 : decode cX6_vocable 35 = .ok (.i2l, 1) := by decide +kernel
theorem dX6_vocable_36 : decode cX6_vocable 36 = .ok (.lconst 1, 1) := by decide +kernel
theorem dX6_vocable_37 : decode cX6_vocable 37 = .ok (.ldc2_w 115, 3) := by decide +kernel
theorem dX6_vocable_40 : decode cX6_vocable 40 = .ok (.invokestatic 73, 3) := by decide +kernel
theorem dX6_vocable_43 : decode cX6_vocable 43 = .ok (.istore_n 3, 1) := by decide +kernel
theorem dX6_vocable_44 : decode cX6_vocable 44 = .ok (.iconst 0, 1) := by decide +kernel
theorem dX6_vocable_45 : decode cX6_vocable 45 = .ok (.istore 4, 2) := by decide +kernel
theorem dX6_vocable_47 : decode cX6_vocable 47 = .ok (.iload 4, 2) := by decide +kernel
theorem dX6_vocable_49 : decode cX6_vocable 49 = .ok (.aload_n 0, 1) := by decide +kernel
theorem dX6_vocable_50 : decode cX6_vocable 50 = .ok (.getfield 117, 3) := by decide +kernel
theorem dX6_vocable_53 : decode cX6_vocable 53 = .ok (.if_icmp .ge 22, 3) := by decide +kernel
theorem dX6_vocable_56 : decode cX6_vocable 56 = .ok (.iload_n 3, 1) := by decide +kernel
theorem dX6_vocable_57 : decode cX6_vocable 57 = .ok (.aload_n 0, 1) := by decide +kernel
theorem dX6_vocable_58 : decode cX6_vocable 58 = .ok (.getfield 13, 3) := by decide +kernel
theorem dX6_vocable_61 : decode cX6_vocable 61 = .ok (.iload 4, 2) := by decide +kernel
theorem dX6_vocable_63 : decode cX6_vocable 63 = .ok (.iaload, 1) := by decide +kernel
theorem dX6_vocable_64 : decode cX6_vocable 64 = .ok (.invokestatic 92, 3) := by decide +kernel
theorem dX6_vocable_67 : decode cX6_vocable 67 = .ok (.iand, 1) := by decide +kernel
theorem dX6_vocable_68 : decode cX6_vocable 68 = .ok (.istore_n 3, 1) := by decide +kernel
theorem dX6_vocable_69 : decode cX6_vocable 69 = .ok (.iinc 4 1, 3) := by decide +kernel
theorem dX6_vocable_72 : decode cX6_vocable 72 = .ok (.goto (-25), 3) := by decide +kernel
theorem dX6_vocable_75 : decode cX6_vocable 75 = .ok (.iload_n 3, 1) := by decide +kernel
theorem dX6_vocable_76 : decode cX6_vocable 76 = .ok (.ifCond .ne 6, 3) := by decide +kernel
theorem dX6_vocable_79 : decode cX6_vocable 79 = .ok (.bipush (-2), 2) := by decide +kernel
theorem dX6_vocable_81 : decode cX6_vocable 81 = .ok (.ireturn, 1) := by decide +kernel
theorem dX6_vocable_82 : decode cX6_vocable 82 = .ok (.aload_n 0, 1) := by decide +kernel
theorem dX6_vocable_83 : decode cX6_vocable 83 = .ok (.getfield 124, 3) := by decide +kernel
theorem dX6_vocable_86 : decode cX6_vocable 86 = .ok (.bipush 10, 2) := by decide +kernel
theorem dX6_vocable_88 : decode cX6_vocable 88 = .ok (.if_icmp .ne 6, 3) := by decide +kernel
theorem dX6_vocable_91 : decode cX6_vocable 91 = .ok (.bipush (-3), 2) := by decide +kernel
theorem dX6_vocable_93 : decode cX6_vocable 93 = .ok (.ireturn, 1) := by decide +kernel
theorem dX6_vocable_94 : decode cX6_vocable 94 = .ok (.iconst 0, 1) := by decide +kernel
theorem dX6_vocable_95 : decode cX6_vocable 95 = .ok (.istore 4, 2) := by decide +kernel
theorem dX6_vocable_97 : decode cX6_vocable 97 = .ok (.iload 4, 2) := by decide +kernel
theorem dX6_vocable_99 : decode cX6_vocable 99 = .ok (.aload_n 0, 1) := by decide +kernel
theorem dX6_vocable_100 : decode cX6_vocable 100 = .ok (.getfield 117, 3) := by decide +kernel
theorem dX6_vocable_103 : decode cX6_vocable 103 = .ok (.if_icmp .ge 31, 3) := by decide +kernel
theorem dX6_vocable_106 : decode cX6_vocable 106 = .ok (.aload_n 0, 1) := by decide +kernel
theorem dX6_vocable_107 : decode cX6_vocable 107 = .ok (.getfield 16, 3) := by decide +kernel
theorem dX6_vocable_110 : decode cX6_vocable 110 = .ok (.bipush 8, 2) := by decide +kernel
theorem dX6_vocable_112 : decode cX6_vocable 112 = .ok (.aload_n 0, 1) := by decide +kernel
theorem dX6_vocable_113 : decode cX6_vocable 113 = .ok (.getfield 124, 3) := by decide +kernel
theorem dX6_vocable_116 : decode cX6_vocable 116 = .ok (.imul, 1) := by decide +kernel
theorem dX6_vocable_117 : decode cX6_vocable 117 = .ok (.iload 4, 2) := by decide +kernel
theorem dX6_vocable_119 : decode cX6_vocable 119 = .ok (.iadd, 1) := by decide +kernel
theorem dX6_vocable_120 : decode cX6_vocable 120 = .ok (.aload_n 0, 1) := by decide +kernel
theorem dX6_vocable_121 : decode cX6_vocable 121 = .ok (.getfield 13, 3) := by decide +kernel
theorem dX6_vocable_124 : decode cX6_vocable 124 = .ok (.iload 4, 2) := by decide +kernel
theorem dX6_vocable_126 : decode cX6_vocable 126 = .ok (.iaload, 1) := by decide +kernel
theorem dX6_vocable_127 : decode cX6_vocable 127 = .ok (.iastore, 1) := by decide +kernel
theorem dX6_vocable_128 : decode cX6_vocable 128 = .ok (.iinc 4 1, 3) := by decide +kernel
theorem dX6_vocable_131 : decode cX6_vocable 131 = .ok (.goto (-34), 3) := by decide +kernel
theorem dX6_vocable_134 : decode cX6_vocable 134 = .ok (.aload_n 0, 1) := by decide +kernel
theorem dX6_vocable_135 : decode cX6_vocable 135 = .ok (.getfield 19, 3) := by decide +kernel
theorem dX6_vocable_138 : decode cX6_vocable 138 = .ok (.aload_n 0, 1) := by decide +kernel
theorem dX6_vocable_139 : decode cX6_vocable 139 = .ok (.getfield 124, 3) := by decide +kernel
theorem dX6_vocable_142 : decode cX6_vocable 142 = .ok (.aload_n 0, 1) := by decide +kernel
theorem dX6_vocable_143 : decode cX6_vocable 143 = .ok (.getfield 117, 3) := by decide +kernel
theorem dX6_vocable_146 : decode cX6_vocable 146 = .ok (.iastore, 1) := by decide +kernel
theorem dX6_vocable_147 : decode cX6_vocable 147 = .ok (.aload_n 0, 1) := by decide +kernel
theorem dX6_vocable_148 : decode cX6_vocable 148 = .ok (.getfield 22, 3) := by decide +kernel
theorem dX6_vocable_151 : decode cX6_vocable 151 = .ok (.aload_n 0, 1) := by decide +kernel
theorem dX6_vocable_152 : decode cX6_vocable 152 = .ok (.getfield 124, 3) := by decide +kernel
theorem dX6_vocable_155 : decode cX6_vocable 155 = .ok (.iload_n 1, 1) := by decide +kernel
theorem dX6_vocable_156 : decode cX6_vocable 156 = .ok (.iastore, 1) := by decide +kernel
theorem dX6_vocable_157 : decode cX6_vocable 157 = .ok (.aload_n 0, 1) := by decide +kernel
theorem dX6_vocable_158 : decode cX6_vocable 158 = .ok (.getfield 25, 3) := by decide +kernel
theorem dX6_vocable_161 : decode cX6_vocable 161 = .ok (.aload_n 0, 1) := by decide +kernel
theorem dX6_vocable_162 : decode cX6_vocable 162 = .ok (.getfield 124, 3) := by decide +kernel
theorem dX6_vocable_165 : decode cX6_vocable 165 = .ok (.iload_n 2, 1) := by decide +kernel
theorem dX6_vocable_166 : decode cX6_vocable 166 = .ok (.iastore, 1) := by decide +kernel
theorem dX6_vocable_167 : decode cX6_vocable 167 = .ok (.aload_n 0, 1) := by decide +kernel
theorem dX6_vocable_168 : decode cX6_vocable 168 = .ok (.iconst 0, 1) := by decide +kernel
theorem dX6_vocable_169 : decode cX6_vocable 169 = .ok (.putfield 117, 3) := by decide +kernel
theorem dX6_vocable_172 : decode cX6_vocable 172 = .ok (.aload_n 0, 1) := by decide +kernel
theorem dX6_vocable_173 : decode cX6_vocable 173 = .ok (.dup, 1) := by decide +kernel
theorem dX6_vocable_174 : decode cX6_vocable 174 = .ok (.getfield 124, 3) := by decide +kernel
theorem dX6_vocable_177 : decode cX6_vocable 177 = .ok (.iconst 1, 1) := by decide +kernel
theorem dX6_vocable_178 : decode cX6_vocable 178 = .ok (.iadd, 1) := by decide +kernel
theorem dX6_vocable_179 : decode cX6_vocable 179 = .ok (.putfield 124, 3) := by decide +kernel
theorem dX6_vocable_182 : decode cX6_vocable 182 = .ok (.aload_n 0, 1) := by decide +kernel
theorem dX6_vocable_183 : decode cX6_vocable 183 = .ok (.getfield 124, 3) := by decide +kernel
theorem dX6_vocable_186 : decode cX6_vocable 186 = .ok (.iconst 1, 1) := by decide +kernel
theorem dX6_vocable_187 : decode cX6_vocable 187 = .ok (.isub, 1) := by decide +kernel
theorem dX6_vocable_188 : decode cX6_vocable 188 = .ok (.ireturn, 1) := by decide +kernel
set_option maxRecDepth 20000 in
theorem ggX6_about_X6_in : GoodIn wsX6_about wsX6_in := goodIn_r _ [11] (by decide +kernel) (by decide +kernel)
set_option maxRecDepth 20000 in
theorem gX6_about_X6_in : GoodIn wsX6_about (va_wsS RX6 73 yX6_in wsX6_in) := goodIn_app (goodIn_of _ (by decide +kernel)) ggX6_about_X6_in
theorem dX6_about_0 : decode cX6_about 0 = .ok (.aload_n 0, 1) := by decide +kernel
theorem dX6_about_1 : decode cX6_about 1 = .ok (.iconst 0, 1) := by decide +kernel
theorem dX6_about_2 : decode cX6_about 2 = .ok (.putfield 67, 3) := by decide +kernel
theorem dX6_about_5 : decode cX6_about 5 = .ok (.iload_n 1, 1) := by decide +kernel
theorem dX6_about_6 : decode cX6_about 6 = .ok (.i2l, 1) := by decide +kernel
theorem dX6_about_7 : decode cX6_about 7 = .ok (.lconst 0, 1) := by decide +kernel
theorem dX6_about_8 : decode cX6_about 8 = .ok (.aload_n 0, 1) := by decide +kernel
theorem dX6_about_9 : decode cX6_about 9 = .ok (.getfield 124, 3) := by decide +kernel
theorem dX6_about_12 : decode cX6_about 12 = .ok (.iconst 1, 1) := by decide +kernel
theorem dX6_about_13 : decode cX6_about 13 = .ok (.isub, 1) := by decide +kernel
theorem dX6_about_14 : decode cX6_about 14 = .ok (.i2l, 1) := by decide +kernel
theorem dX6_about_15 : decode cX6_about 15 = .ok (.invokestatic 73, 3) := by decide +kernel
theorem dX6_about_18 : decode cX6_about 18 = .ok (.ifCond .eq 15, 3) := by decide +kernel
theorem dX6_about_21 : decode cX6_about 21 = .ok (.iload_n 2, 1) := by decide +kernel
theorem dX6_about_22 : decode cX6_about 22 = .ok (.i2l, 1) := by decide +kernel
theorem dX6_about_23 : decode cX6_about 23 = .ok (.lconst 0, 1) := by decide +kernel
theorem dX6_about_24 : decode cX6_about 24 = .ok (.ldc2_w 71, 3) := by decide +kernel
theorem dX6_about_27 : decode cX6_about 27 = .ok (.invokestatic 73, 3) := by decide +kernel
theorem dX6_about_30 : decode cX6_about 30 = .ok (.ifCond .ne 5, 3) := by decide +kernel
theorem dX6_about_33 : decode cX6_about 33 = .ok (.iconst (-1), 1) := by decide +kernel
theorem dX6_about_34 : decode cX6_about 34 = .ok (.ireturn, 1) := by decide +kernel
theorem dX6_about_35 : decode cX6_about 35 = .ok (.iload_n 2, 1) := by decide +kernel
theorem dX6_about_36 : decode cX6_about 36 = .ok (.ifCond .ne 12, 3) := by decide +kernel
theorem dX6_about_39 : decode cX6_about 39 = .ok (.aload_n 0, 1) := by decide +kernel
theorem dX6_about_40 : decode cX6_about 40 = .ok (.getfield 19, 3) := by decide +kernel
theorem dX6_about_43 : decode cX6_about 43 = .ok (.iload_n 1, 1) := by decide +kernel
theorem dX6_about_44 : decode cX6_about 44 = .ok (.iaload, 1) := by decide +kernel
theorem dX6_about_45 : decode cX6_about 45 = .ok (.goto 40, 3) := by decide +kernel
theorem dX6_about_48 : decode cX6_about 48 = .ok (.iload_n 2, 1) := by decide +kernel
theorem dX6_about_49 : decode cX6_about 49 = .ok (.iconst 1, 1) := by decide +kernel
theorem dX6_about_50 : decode cX6_about 50 = .ok (.if_icmp .ne 12, 3) := by decide +kernel
theorem dX6_about_53 : decode cX6_about 53 = .ok (.aload_n 0, 1) := by decide +kernel
theorem dX6_about_54 : decode cX6_about 54 = .ok (.getfield 22, 3) := by decide +kernel
theorem dX6_about_57 : decode cX6_about 57 = .ok (.iload_n 1, 1) := by decide +kernel
theorem dX6_about_58 : decode cX6_about 58 = .ok (.iaload, 1) := by decide +kernel
theorem dX6_about_59 : decode cX6_about 59 = .ok (.goto 26, 3) := by decide +kernel
theorem dX6_about_62 : decode cX6_about 62 = .ok (.iload_n 2, 1) := by decide +kernel
theorem dX6_about_63 : decode cX6_about 63 = .ok (.iconst 2, 1) := by decide +kernel
theorem dX6_about_64 : decode cX6_about 64 = .ok (.if_icmp .ne 12, 3) := by decide +kernel
theorem dX6_about_67 : decode cX6_about 67 = .ok (.aload_n 0, 1) := by decide +kernel
theorem dX6_about_68 : decode cX6_about 68 = .ok (.getfield 25, 3) := by decide +kernel
theorem dX6_about_71 : decode cX6_about 71 = .ok (.iload_n 1, 1) := by decide +kernel
theorem dX6_about_72 : decode cX6_about 72 = .ok (.iaload, 1) := by decide +kernel
theorem dX6_about_73 : decode cX6_about 73 = .ok (.goto 12, 3) := by decide +kernel
theorem dX6_about_76 : decode cX6_about 76 = .ok (.aload_n 0, 1) := by decide +kernel
theorem dX6_about_77 : decode cX6_about 77 = .ok (.getfield 16, 3) := by decide +kernel
theorem dX6_about_80 : decode cX6_about 80 = .ok (.bipush 8, 2) := by decide +kernel
theorem dX6_about_82 : decode cX6_about 82 = .ok (.iload_n 1, 1) := by decide +kernel
theorem dX6_about_83 : decode cX6_about 83 = .ok (.imul, 1) := by decide +kernel
theorem dX6_about_84 : decode cX6_about 84 = .ok (.iaload, 1) := by decide +kernel
theorem dX6_about_85 : decode cX6_about 85 = .ok (.ireturn, 1) := by decide +kernel
set_option maxRecDepth 20000 in
theorem ggX6_order_X6_in : GoodIn wsX6_order wsX6_in := goodIn_r _ [8] (by decide +kernel) (by decide +kernel)
set_option maxRecDepth 20000 in
theorem gX6_order_X6_in : GoodIn wsX6_order (va_wsS RX6 73 yX6_in wsX6_in) := goodIn_app (goodIn_of _ (by decide +kernel)) ggX6_order_X6_in
theorem dX6_order_0 : decode cX6_order 0 = .ok (.aload_n 0, 1) := by decide +kernel
theorem dX6_order_1 : decode cX6_order 1 = .ok (.iconst 0, 1) := by decide +kernel
theorem dX6_order_2 : decode cX6_order 2 = .ok (.putfield 67, 3) := by decide +kernel
theorem dX6_order_5 : decode cX6_order 5 = .ok (.iload_n 1, 1) := by decide +kernel
theorem dX6_order_6 : decode cX6_order 6 = .ok (.i2l, 1) := by decide +kernel
theorem dX6_order_7 : decode cX6_order 7 = .ok (.lconst 0, 1) := by decide +kernel
theorem dX6_order_8 : decode cX6_order 8 = .ok (.ldc2_w 71, 3) := by decide +kernel
theorem dX6_order_11 : decode cX6_order 11 = .ok (.invokestatic 73, 3) := by decide +kernel
theorem dX6_order_14 : decode cX6_order 14 = .ok (.ifCond .eq 15, 3) := by decide +kernel
theorem dX6_order_17 : decode cX6_order 17 = .ok (.iload_n 2, 1) := by decide +kernel
theorem dX6_order_18 : decode cX6_order 18 = .ok (.i2l, 1) := by decide +kernel
theorem dX6_order_19 : decode cX6_order 19 = .ok (.lconst 0, 1) := by decide +kernel
theorem dX6_order_20 : decode cX6_order 20 = .ok (.ldc2_w 127, 3) := by decide +kernel
theorem dX6_order_23 : decode cX6_order 23 = .ok (.invokestatic 73, 3) := by decide +kernel
theorem dX6_order_26 : decode cX6_order 26 = .ok (.ifCond .ne 5, 3) := by decide +kernel
theorem dX6_order_29 : decode cX6_order 29 = .ok (.iconst (-1), 1) := by decide +kernel
theorem dX6_order_30 : decode cX6_order 30 = .ok (.ireturn, 1) := by decide +kernel
theorem dX6_order_31 : decode cX6_order 31 = .ok (.aload_n 0, 1) := by decide +kernel
theorem dX6_order_32 : decode cX6_order 32 = .ok (.getfield 28, 3) := by decide +kernel
theorem dX6_order_35 : decode cX6_order 35 = .ok (.iload_n 1, 1) := by decide +kernel
theorem dX6_order_36 : decode cX6_order 36 = .ok (.iaload, 1) := by decide +kernel
theorem dX6_order_37 : decode cX6_order 37 = .ok (.istore_n 3, 1) := by decide +kernel
theorem dX6_order_38 : decode cX6_order 38 = .ok (.aload_n 0, 1) := by decide +kernel
theorem dX6_order_39 : decode cX6_order 39 = .ok (.getfield 28, 3) := by decide +kernel
theorem dX6_order_42 : decode cX6_order 42 = .ok (.iload_n 1, 1) := by decide +kernel
theorem dX6_order_43 : decode cX6_order 43 = .ok (.iload_n 2, 1) := by decide +kernel
theorem dX6_order_44 : decode cX6_order 44 = .ok (.iastore, 1) := by decide +kernel
theorem dX6_order_45 : decode cX6_order 45 = .ok (.iload_n 3, 1) := by decide +kernel
theorem dX6_order_46 : decode cX6_order 46 = .ok (.ireturn, 1) := by decide +kernel
theorem dX6_isAfter_0 : decode cX6_isAfter 0 = .ok (.aload_n 0, 1) := by decide +kernel
theorem dX6_isAfter_1 : decode cX6_isAfter 1 = .ok (.getfield 28, 3) := by decide +kernel
theorem dX6_isAfter_4 : decode cX6_isAfter 4 = .ok (.iload_n 1, 1) := by decide +kernel
theorem dX6_isAfter_5 : decode cX6_isAfter 5 = .ok (.iaload, 1) := by decide +kernel
theorem dX6_isAfter_6 : decode cX6_isAfter 6 = .ok (.aload_n 0, 1) := by decide +kernel
theorem dX6_isAfter_7 : decode cX6_isAfter 7 = .ok (.getfield 25, 3) := by decide +kernel
theorem dX6_isAfter_10 : decode cX6_isAfter 10 = .ok (.iload_n 2, 1) := by decide +kernel
theorem dX6_isAfter_11 : decode cX6_isAfter 11 = .ok (.iaload, 1) := by decide +kernel
theorem dX6_isAfter_12 : decode cX6_isAfter 12 = .ok (.ishr, 1) := by decide +kernel
theorem dX6_isAfter_13 : decode cX6_isAfter 13 = .ok (.iconst 1, 1) := by decide +kernel
theorem dX6_isAfter_14 : decode cX6_isAfter 14 = .ok (.iand, 1) := by decide +kernel
theorem dX6_isAfter_15 : decode cX6_isAfter 15 = .ok (.iconst 1, 1) := by decide +kernel
theorem dX6_isAfter_16 : decode cX6_isAfter 16 = .ok (.if_icmp .ne 7, 3) := by decide +kernel
theorem dX6_isAfter_19 : decode cX6_isAfter 19 = .ok (.iconst 1, 1) := by decide +kernel
theorem dX6_isAfter_20 : decode cX6_isAfter 20 = .ok (.goto 4, 3) := by decide +kernel
theorem dX6_isAfter_23 : decode cX6_isAfter 23 = .ok (.iconst 0, 1) := by decide +kernel
theorem dX6_isAfter_24 : decode cX6_isAfter 24 = .ok (.ireturn, 1) := by decide +kernel
set_option maxRecDepth 20000 in
theorem ggX6_many_X6_in : GoodIn wsX6_many wsX6_in := goodIn_r _ [11] (by decide +kernel) (by decide +kernel)
set_option maxRecDepth 20000 in
theorem gX6_many_X6_in : GoodIn wsX6_many (va_wsS RX6 73 yX6_in wsX6_in) := goodIn_app (goodIn_of _ (by decide +kernel)) ggX6_many_X6_in
set_option maxRecDepth 20000 in
theorem ggX6_many_X6_isAfter : GoodIn wsX6_many wsX6_isAfter := goodIn_r _ [15, 16, 7, 17, 18, 19, 20, 21, 22, 23, 24, 25, 26, 27, 28, 29, 30, 31, 32, 33, 34, 35, 36, 37, 38, 39] (by decide +kernel) (by decide +kernel)
set_option maxRecDepth 20000 in
theorem gX6_many_X6_isAfter : GoodIn wsX6_many (wsV RX6 131 RX6 yX6_isAfter wsX6_isAfter) := goodIn_app (goodIn_of _ (by decide +kernel)) ggX6_many_X6_isAfter
theorem dX6_many_0 : decode cX6_many 0 = .ok (.aload_n 0, 1) := by decide +kernel
theorem dX6_many_1 : decode cX6_many 1 = .ok (.iconst 0, 1) := by decide +kernel
theorem dX6_many_2 : decode cX6_many 2 = .ok (.putfield 67, 3) := by decide +kernel
theorem dX6_many_5 : decode cX6_many 5 = .ok (.iload_n 1, 1) := by decide +kernel
theorem dX6_many_6 : decode cX6_many 6 = .ok (.i2l, 1) := by decide +kernel
theorem dX6_many_7 : decode cX6_many 7 = .ok (.lconst 1, 1) := by decide +kernel
theorem dX6_many_8 : decode cX6_many 8 = .ok (.ldc2_w 115, 3) := by decide +kernel
theorem dX6_many_11 : decode cX6_many 11 = .ok (.invokestatic 73, 3) := by decide +kernel
theorem dX6_many_14 : decode cX6_many 14 = .ok (.ifCond .ne 7, 3) := by decide +kernel
theorem dX6_many_17 : decode cX6_many 17 = .ok (.ldc2_w 129, 3) := by decide +kernel
theorem dX6_many_20 : decode cX6_many 20 = .ok (.lreturn, 1) := by decide +kernel
theorem dX6_many_21 : decode cX6_many 21 = .ok (.iconst 0, 1) := by decide +kernel
theorem dX6_many_22 : decode cX6_many 22 = .ok (.istore_n 2, 1) := by decide +kernel
theorem dX6_many_23 : decode cX6_many 23 = .ok (.iload_n 2, 1) := by decide +kernel
theorem dX6_many_24 : decode cX6_many 24 = .ok (.iload_n 1, 1) := by decide +kernel
theorem dX6_many_25 : decode cX6_many 25 = .ok (.if_icmp .gt 117, 3) := by decide +kernel
theorem dX6_many_28 : decode cX6_many 28 = .ok (.iconst 0, 1) := by decide +kernel
theorem dX6_many_29 : decode cX6_many 29 = .ok (.istore_n 3, 1) := by decide +kernel
theorem dX6_many_30 : decode cX6_many 30 = .ok (.iload_n 3, 1) := by decide +kernel
theorem dX6_many_31 : decode cX6_many 31 = .ok (.iconst 4, 1) := by decide +kernel
theorem dX6_many_32 : decode cX6_many 32 = .ok (.if_icmp .ge 104, 3) := by decide +kernel
theorem dX6_many_35 : decode cX6_many 35 = .ok (.iload_n 2, 1) := by decide +kernel
theorem dX6_many_36 : decode cX6_many 36 = .ok (.ifCond .ne 7, 3) := by decide +kernel
theorem dX6_many_39 : decode cX6_many 39 = .ok (.lconst 1, 1) := by decide +kernel
theorem dX6_many_40 : decode cX6_many 40 = .ok (.goto 4, 3) := by decide +kernel
theorem dX6_many_43 : decode cX6_many 43 = .ok (.lconst 0, 1) := by decide +kernel
theorem dX6_many_44 : decode cX6_many 44 = .ok (.lstore 4, 2) := by decide +kernel
theorem dX6_many_46 : decode cX6_many 46 = .ok (.iconst 0, 1) := by decide +kernel
theorem dX6_many_47 : decode cX6_many 47 = .ok (.istore 6, 2) := by decide +kernel
theorem dX6_many_49 : decode cX6_many 49 = .ok (.iload 6, 2) := by decide +kernel
theorem dX6_many_51 : decode cX6_many 51 = .ok (.aload_n 0, 1) := by decide +kernel
theorem dX6_many_52 : decode cX6_many 52 = .ok (.getfield 124, 3) := by decide +kernel
theorem dX6_many_55 : decode cX6_many 55 = .ok (.if_icmp .ge 63, 3) := by decide +kernel
theorem dX6_many_58 : decode cX6_many 58 = .ok (.lload 4, 2) := by decide +kernel
theorem dX6_many_60 : decode cX6_many 60 = .ok (.aload_n 0, 1) := by decide +kernel
theorem dX6_many_61 : decode cX6_many 61 = .ok (.getfield 22, 3) := by decide +kernel
theorem dX6_many_64 : decode cX6_many 64 = .ok (.iload 6, 2) := by decide +kernel
theorem dX6_many_66 : decode cX6_many 66 = .ok (.iaload, 1) := by decide +kernel
theorem dX6_many_67 : decode cX6_many 67 = .ok (.iload_n 2, 1) := by decide +kernel
theorem dX6_many_68 : decode cX6_many 68 = .ok (.if_icmp .gt 40, 3) := by decide +kernel
theorem dX6_many_71 : decode cX6_many 71 = .ok (.aload_n 0, 1) := by decide +kernel
theorem dX6_many_72 : decode cX6_many 72 = .ok (.iload_n 3, 1) := by decide +kernel
theorem dX6_many_73 : decode cX6_many 73 = .ok (.iload 6, 2) := by decide +kernel
theorem dX6_many_75 : decode cX6_many 75 = .ok (.invokevirtual 131, 3) := by decide +kernel
theorem dX6_many_78 : decode cX6_many 78 = .ok (.ifCond .eq 30, 3) := by decide +kernel
theorem dX6_many_81 : decode cX6_many 81 = .ok (.aload_n 0, 1) := by decide +kernel
theorem dX6_many_82 : decode cX6_many 82 = .ok (.getfield 36, 3) := by decide +kernel
theorem dX6_many_85 : decode cX6_many 85 = .ok (.iconst 4, 1) := by decide +kernel
theorem dX6_many_86 : decode cX6_many 86 = .ok (.iload_n 2, 1) := by decide +kernel
theorem dX6_many_87 : decode cX6_many 87 = .ok (.aload_n 0, 1) := by decide +kernel
theorem dX6_many_88 : decode cX6_many 88 = .ok (.getfield 22, 3) := by decide +kernel
theorem dX6_many_91 : decode cX6_many 91 = .ok (.iload 6, 2) := by decide +kernel
theorem dX6_many_93 : decode cX6_many 93 = .ok (.iaload, 1) := by decide +kernel
theorem dX6_many_94 : decode cX6_many 94 = .ok (.isub, 1) := by decide +kernel
theorem dX6_many_95 : decode cX6_many 95 = .ok (.imul, 1) := by decide +kernel
theorem dX6_many_96 : decode cX6_many 96 = .ok (.aload_n 0, 1) := by decide +kernel
theorem dX6_many_97 : decode cX6_many 97 = .ok (.getfield 25, 3) := by decide +kernel
theorem dX6_many_100 : decode cX6_many 100 = .ok (.iload 6, 2) := by decide +kernel
theorem dX6_many_102 : decode cX6_many 102 = .ok (.iaload, 1) := by decide +kernel
theorem dX6_many_103 : decode cX6_many 103 = .ok (.iadd, 1) := by decide +kernel
theorem dX6_many_104 : decode cX6_many 104 = .ok (.laload, 1) := by decide +kernel
theorem dX6_many_105 : decode cX6_many 105 = .ok (.goto 4, 3) := by decide +kernel
theorem dX6_many_108 : decode cX6_many 108 = .ok (.lconst 0, 1) := by decide +kernel
theorem dX6_many_109 : decode cX6_many 109 = .ok (.ladd, 1) := by decide +kernel
theorem dX6_many_110 : decode cX6_many 110 = .ok (.lstore 4, 2) := by decide +kernel
theorem dX6_many_112 : decode cX6_many 112 = .ok (.iinc 6 1, 3) := by decide +kernel
theorem dX6_many_115 : decode cX6_many 115 = .ok (.goto (-66), 3) := by decide +kernel
theorem dX6_many_118 : decode cX6_many 118 = .ok (.aload_n 0, 1) := by decide +kernel
theorem dX6_many_119 : decode cX6_many 119 = .ok (.getfield 36, 3) := by decide +kernel
theorem dX6_many_122 : decode cX6_many 122 = .ok (.iconst 4, 1) := by decide +kernel
theorem dX6_many_123 : decode cX6_many 123 = .ok (.iload_n 2, 1) := by decide +kernel
theorem dX6_many_124 : decode cX6_many 124 = .ok (.imul, 1) := by decide +kernel
theorem dX6_many_125 : decode cX6_many 125 = .ok (.iload_n 3, 1) := by decide +kernel
theorem dX6_many_126 : decode cX6_many 126 = .ok (.iadd, 1) := by decide +kernel
theorem dX6_many_127 : decode cX6_many 127 = .ok (.lload 4, 2) := by decide +kernel
theorem dX6_many_129 : decode cX6_many 129 = .ok (.lastore, 1) := by decide +kernel
theorem dX6_many_130 : decode cX6_many 130 = .ok (.iinc 3 1, 3) := by decide +kernel
theorem dX6_many_133 : decode cX6_many 133 = .ok (.goto (-103), 3) := by decide +kernel
theorem dX6_many_136 : decode cX6_many 136 = .ok (.iinc 2 1, 3) := by decide +kernel
theorem dX6_many_139 : decode cX6_many 139 = .ok (.goto (-116), 3) := by decide +kernel
theorem dX6_many_142 : decode cX6_many 142 = .ok (.aload_n 0, 1) := by decide +kernel
theorem dX6_many_143 : decode cX6_many 143 = .ok (.getfield 36, 3) := by decide +kernel
theorem dX6_many_146 : decode cX6_many 146 = .ok (.iconst 4, 1) := by decide +kernel
theorem dX6_many_147 : decode cX6_many 147 = .ok (.iload_n 1, 1) := by decide +kernel
theorem dX6_many_148 : decode cX6_many 148 = .ok (.imul, 1) := by decide +kernel
theorem dX6_many_149 : decode cX6_many 149 = .ok (.iconst 3, 1) := by decide +kernel
theorem dX6_many_150 : decode cX6_many 150 = .ok (.iadd, 1) := by decide +kernel
theorem dX6_many_151 : decode cX6_many 151 = .ok (.laload, 1) := by decide +kernel
theorem dX6_many_152 : decode cX6_many 152 = .ok (.lreturn, 1) := by decide +kernel
set_option maxRecDepth 20000 in
theorem ggX6_owns_X6_worthOf : GoodIn wsX6_owns wsX6_worthOf := goodIn_r _ [8, 9, 10, 11, 7, 12, 13, 14, 15, 16, 17, 18, 19, 20, 21, 22, 23, 24, 25, 26, 27, 28, 29, 30, 31, 32, 33, 34, 35, 36, 37, 38, 39, 40, 41, 42, 43, 44, 45] (by decide +kernel) (by decide +kernel)
set_option maxRecDepth 20000 in
theorem gX6_owns_X6_worthOf : GoodIn wsX6_owns (wsV RX6 111 RX6 yX6_worthOf wsX6_worthOf) := goodIn_app (goodIn_of _ (by decide +kernel)) ggX6_owns_X6_worthOf
theorem dX6_owns_0 : decode cX6_owns 0 = .ok (.iconst 0, 1) := by decide +kernel
theorem dX6_owns_1 : decode cX6_owns 1 = .ok (.istore 4, 2) := by decide +kernel
theorem dX6_owns_3 : decode cX6_owns 3 = .ok (.iload 4, 2) := by decide +kernel
theorem dX6_owns_5 : decode cX6_owns 5 = .ok (.aload_n 0, 1) := by decide +kernel
theorem dX6_owns_6 : decode cX6_owns 6 = .ok (.getfield 124, 3) := by decide +kernel
theorem dX6_owns_9 : decode cX6_owns 9 = .ok (.if_icmp .ge 86, 3) := by decide +kernel
theorem dX6_owns_12 : decode cX6_owns 12 = .ok (.aload_n 3, 1) := by decide +kernel
theorem dX6_owns_13 : decode cX6_owns 13 = .ok (.iload 4, 2) := by decide +kernel
theorem dX6_owns_15 : decode cX6_owns 15 = .ok (.iconst 0, 1) := by decide +kernel
theorem dX6_owns_16 : decode cX6_owns 16 = .ok (.iastore, 1) := by decide +kernel
theorem dX6_owns_17 : decode cX6_owns 17 = .ok (.iconst 0, 1) := by decide +kernel
theorem dX6_owns_18 : decode cX6_owns 18 = .ok (.istore 5, 2) := by decide +kernel
theorem dX6_owns_20 : decode cX6_owns 20 = .ok (.iload 5, 2) := by decide +kernel
theorem dX6_owns_22 : decode cX6_owns 22 = .ok (.aload_n 0, 1) := by decide +kernel
theorem dX6_owns_23 : decode cX6_owns 23 = .ok (.getfield 19, 3) := by decide +kernel
theorem dX6_owns_26 : decode cX6_owns 26 = .ok (.iload 4, 2) := by decide +kernel
theorem dX6_owns_28 : decode cX6_owns 28 = .ok (.iaload, 1) := by decide +kernel
theorem dX6_owns_29 : decode cX6_owns 29 = .ok (.if_icmp .ge 60, 3) := by decide +kernel
theorem dX6_owns_32 : decode cX6_owns 32 = .ok (.aload_n 3, 1) := by decide +kernel
theorem dX6_owns_33 : decode cX6_owns 33 = .ok (.iload 4, 2) := by decide +kernel
theorem dX6_owns_35 : decode cX6_owns 35 = .ok (.dup2, 1) := by decide +kernel
theorem dX6_owns_36 : decode cX6_owns 36 = .ok (.iaload, 1) := by decide +kernel
theorem dX6_owns_37 : decode cX6_owns 37 = .ok (.aload_n 0, 1) := by decide +kernel
theorem dX6_owns_38 : decode cX6_owns 38 = .ok (.iload_n 1, 1) := by decide +kernel
theorem dX6_owns_39 : decode cX6_owns 39 = .ok (.iload_n 2, 1) := by decide +kernel
theorem dX6_owns_40 : decode cX6_owns 40 = .ok (.aload_n 0, 1) := by decide +kernel
theorem dX6_owns_41 : decode cX6_owns 41 = .ok (.getfield 16, 3) := by decide +kernel
theorem dX6_owns_44 : decode cX6_owns 44 = .ok (.bipush 8, 2) := by decide +kernel
theorem dX6_owns_46 : decode cX6_owns 46 = .ok (.iload 4, 2) := by decide +kernel
theorem dX6_owns_48 : decode cX6_owns 48 = .ok (.imul, 1) := by decide +kernel
theorem dX6_owns_49 : decode cX6_owns 49 = .ok (.iload 5, 2) := by decide +kernel
theorem dX6_owns_51 : decode cX6_owns 51 = .ok (.iadd, 1) := by decide +kernel
theorem dX6_owns_52 : decode cX6_owns 52 = .ok (.iaload, 1) := by decide +kernel
theorem dX6_owns_53 : decode cX6_owns 53 = .ok (.iload 5, 2) := by decide +kernel
theorem dX6_owns_55 : decode cX6_owns 55 = .ok (.ifCond .ne 8, 3) := by decide +kernel
theorem dX6_owns_58 : decode cX6_owns 58 = .ok (.bipush 32, 2) := by decide +kernel
theorem dX6_owns_60 : decode cX6_owns 60 = .ok (.goto 18, 3) := by decide +kernel
theorem dX6_owns_63 : decode cX6_owns 63 = .ok (.aload_n 0, 1) := by decide +kernel
theorem dX6_owns_64 : decode cX6_owns 64 = .ok (.getfield 16, 3) := by decide +kernel
theorem dX6_owns_67 : decode cX6_owns 67 = .ok (.bipush 8, 2) := by decide +kernel
theorem dX6_owns_69 : decode cX6_owns 69 = .ok (.iload 4, 2) := by decide +kernel
theorem dX6_owns_71 : decode cX6_owns 71 = .ok (.imul, 1) := by decide +kernel
theorem dX6_owns_72 : decode cX6_owns 72 = .ok (.iload 5, 2) := by decide +kernel
theorem dX6_owns_74 : decode cX6_owns 74 = .ok (.iadd, 1) := by decide +kernel
theorem dX6_owns_75 : decode cX6_owns 75 = .ok (.iconst 1, 1) := by decide +kernel
theorem dX6_owns_76 : decode cX6_owns 76 = .ok (.isub, 1) := by decide +kernel
theorem dX6_owns_77 : decode cX6_owns 77 = .ok (.iaload, 1) := by decide +kernel
theorem dX6_owns_78 : decode cX6_owns 78 = .ok (.invokevirtual 111, 3) := by decide +kernel
theorem dX6_owns_81 : decode cX6_owns 81 = .ok (.iadd, 1) := by decide +kernel
theorem dX6_owns_82 : decode cX6_owns 82 = .ok (.iastore, 1) := by decide +kernel
theorem dX6_owns_83 : decode cX6_owns 83 = .ok (.iinc 5 1, 3) := by decide +kernel
theorem dX6_owns_86 : decode cX6_owns 86 = .ok (.goto (-66), 3) := by decide +kernel
theorem dX6_owns_89 : decode cX6_owns 89 = .ok (.iinc 4 1, 3) := by decide +kernel
theorem dX6_owns_92 : decode cX6_owns 92 = .ok (.goto (-89), 3) := by decide +kernel
theorem dX6_owns_95 : decode cX6_owns 95 = .ok (.return_, 1) := by decide +kernel
theorem dX6_place_0 : decode cX6_place 0 = .ok (.sipush 3001, 3) := by decide +kernel
theorem dX6_place_3 : decode cX6_place 3 = .ok (.iconst 4, 1) := by decide +kernel
theorem dX6_place_4 : decode cX6_place 4 = .ok (.iload_n 0, 1) := by decide +kernel
theorem dX6_place_5 : decode cX6_place 5 = .ok (.imul, 1) := by decide +kernel
theorem dX6_place_6 : decode cX6_place 6 = .ok (.iload_n 1, 1) := by decide +kernel
theorem dX6_place_7 : decode cX6_place 7 = .ok (.iadd, 1) := by decide +kernel
theorem dX6_place_8 : decode cX6_place 8 = .ok (.imul, 1) := by decide +kernel
theorem dX6_place_9 : decode cX6_place 9 = .ok (.iload_n 2, 1) := by decide +kernel
theorem dX6_place_10 : decode cX6_place 10 = .ok (.iadd, 1) := by decide +kernel
theorem dX6_place_11 : decode cX6_place 11 = .ok (.ireturn, 1) := by decide +kernel
set_option maxRecDepth 20000 in
theorem ggX6_works_X6_owns : GoodIn wsX6_works wsX6_owns := goodIn_r _ [10, 2, 11, 12, 13, 14, 15, 9, 16, 17, 18, 19, 20, 21, 22, 23, 24, 25, 26, 27, 28, 29, 30, 39, 40, 41, 42, 43, 44, 45, 46, 47, 48, 49, 50, 51, 52, 53, 54, 55, 56, 57, 58, 59, 60, 61] (by decide +kernel) (by decide +kernel)
set_option maxRecDepth 20000 in
theorem gX6_works_X6_owns : GoodIn wsX6_works (wsV RX6 134 RX6 yX6_owns wsX6_owns) := goodIn_app (goodIn_of _ (by decide +kernel)) ggX6_works_X6_owns
set_option maxRecDepth 20000 in
theorem ggX6_works_X6_isAfter : GoodIn wsX6_works wsX6_isAfter := goodIn_r _ [34, 35, 5, 39, 40, 41, 42, 43, 44, 45, 46, 47, 48, 49, 50, 51, 52, 53, 54, 55, 56, 57, 58, 59, 60, 61] (by decide +kernel) (by decide +kernel)
set_option maxRecDepth 20000 in
theorem gX6_works_X6_isAfter : GoodIn wsX6_works (wsV RX6 131 RX6 yX6_isAfter wsX6_isAfter) := goodIn_app (goodIn_of _ (by decide +kernel)) ggX6_works_X6_isAfter
set_option maxRecDepth 20000 in
theorem ggX6_works_X6_place : GoodIn wsX6_works wsX6_place := goodIn_r _ [38] (by decide +kernel) (by decide +kernel)
set_option maxRecDepth 20000 in
theorem gX6_works_X6_place : GoodIn wsX6_works (va_wsS RX6 138 yX6_place wsX6_place) := goodIn_app (goodIn_of _ (by decide +kernel)) ggX6_works_X6_place
theorem dX6_works_0 : decode cX6_works 0 = .ok (.aload_n 0, 1) := by decide +kernel
theorem dX6_works_1 : decode cX6_works 1 = .ok (.iload_n 3, 1) := by decide +kernel
theorem dX6_works_2 : decode cX6_works 2 = .ok (.iload 4, 2) := by decide +kernel
theorem dX6_works_4 : decode cX6_works 4 = .ok (.aload_n 0, 1) := by decide +kernel
theorem dX6_works_5 : decode cX6_works 5 = .ok (.getfield 39, 3) := by decide +kernel
theorem dX6_works_8 : decode cX6_works 8 = .ok (.invokevirtual 134, 3) := by decide +kernel
theorem dX6_works_11 : decode cX6_works 11 = .ok (.iconst 0, 1) := by decide +kernel
theorem dX6_works_12 : decode cX6_works 12 = .ok (.istore 5, 2) := by decide +kernel
theorem dX6_works_14 : decode cX6_works 14 = .ok (.iload 5, 2) := by decide +kernel
theorem dX6_works_16 : decode cX6_works 16 = .ok (.iload_n 1, 1) := by decide +kernel
theorem dX6_works_17 : decode cX6_works 17 = .ok (.if_icmp .gt 169, 3) := by decide +kernel
theorem dX6_works_20 : decode cX6_works 20 = .ok (.iconst 0, 1) := by decide +kernel
theorem dX6_works_21 : decode cX6_works 21 = .ok (.istore 6, 2) := by decide +kernel
theorem dX6_works_23 : decode cX6_works 23 = .ok (.iload 6, 2) := by decide +kernel
theorem dX6_works_25 : decode cX6_works 25 = .ok (.iconst 4, 1) := by decide +kernel
theorem dX6_works_26 : decode cX6_works 26 = .ok (.if_icmp .ge 154, 3) := by decide +kernel
theorem dX6_works_29 : decode cX6_works 29 = .ok (.iconst 0, 1) := by decide +kernel
theorem dX6_works_30 : decode cX6_works 30 = .ok (.istore 7, 2) := by decide +kernel
theorem dX6_works_32 : decode cX6_works 32 = .ok (.iload 7, 2) := by decide +kernel
theorem dX6_works_34 : decode cX6_works 34 = .ok (.iload_n 2, 1) := by decide +kernel
theorem dX6_works_35 : decode cX6_works 35 = .ok (.if_icmp .gt 139, 3) := by decide +kernel
theorem dX6_works_38 : decode cX6_works 38 = .ok (.iload 5, 2) := by decide +kernel
theorem dX6_works_40 : decode cX6_works 40 = .ok (.ifCond .ne 12, 3) := by decide +kernel
theorem dX6_works_43 : decode cX6_works 43 = .ok (.iload 7, 2) := by decide +kernel
theorem dX6_works_45 : decode cX6_works 45 = .ok (.ifCond .ne 7, 3) := by decide +kernel
theorem dX6_works_48 : decode cX6_works 48 = .ok (.lconst 1, 1) := by decide +kernel
theorem dX6_works_49 : decode cX6_works 49 = .ok (.goto 4, 3) := by decide +kernel
theorem dX6_works_52 : decode cX6_works 52 = .ok (.lconst 0, 1) := by decide +kernel
theorem dX6_works_53 : decode cX6_works 53 = .ok (.lstore 8, 2) := by decide +kernel
theorem dX6_works_55 : decode cX6_works 55 = .ok (.iconst 0, 1) := by decide +kernel
theorem dX6_works_56 : decode cX6_works 56 = .ok (.istore 10, 2) := by decide +kernel
theorem dX6_works_58 : decode cX6_works 58 = .ok (.iload 10, 2) := by decide +kernel
theorem dX6_works_60 : decode cX6_works 60 = .ok (.aload_n 0, 1) := by decide +kernel
theorem dX6_works_61 : decode cX6_works 61 = .ok (.getfield 124, 3) := by decide +kernel
theorem dX6_works_64 : decode cX6_works 64 = .ok (.if_icmp .ge 88, 3) := by decide +kernel
theorem dX6_works_67 : decode cX6_works 67 = .ok (.lload 8, 2) := by decide +kernel
theorem dX6_works_69 : decode cX6_works 69 = .ok (.aload_n 0, 1) := by decide +kernel
theorem dX6_works_70 : decode cX6_works 70 = .ok (.getfield 22, 3) := by decide +kernel
theorem dX6_works_73 : decode cX6_works 73 = .ok (.iload 10, 2) := by decide +kernel
theorem dX6_works_75 : decode cX6_works 75 = .ok (.iaload, 1) := by decide +kernel
theorem dX6_works_76 : decode cX6_works 76 = .ok (.iload 5, 2) := by decide +kernel
theorem dX6_works_78 : decode cX6_works 78 = .ok (.if_icmp .gt 64, 3) := by decide +kernel
theorem dX6_works_81 : decode cX6_works 81 = .ok (.aload_n 0, 1) := by decide +kernel
theorem dX6_works_82 : decode cX6_works 82 = .ok (.getfield 39, 3) := by decide +kernel
theorem dX6_works_85 : decode cX6_works 85 = .ok (.iload 10, 2) := by decide +kernel
theorem dX6_works_87 : decode cX6_works 87 = .ok (.iaload, 1) := by decide +kernel
theorem dX6_works_88 : decode cX6_works 88 = .ok (.iload 7, 2) := by decide +kernel
theorem dX6_works_90 : decode cX6_works 90 = .ok (.if_icmp .gt 52, 3) := by decide +kernel
theorem dX6_works_93 : decode cX6_works 93 = .ok (.aload_n 0, 1) := by decide +kernel
theorem dX6_works_94 : decode cX6_works 94 = .ok (.iload 6, 2) := by decide +kernel
theorem dX6_works_96 : decode cX6_works 96 = .ok (.iload 10, 2) := by decide +kernel
theorem dX6_works_98 : decode cX6_works 98 = .ok (.invokevirtual 131, 3) := by decide +kernel
theorem dX6_works_101 : decode cX6_works 101 = .ok (.ifCond .eq 41, 3) := by decide +kernel
theorem dX6_works_104 : decode cX6_works 104 = .ok (.aload_n 0, 1) := by decide +kernel
theorem dX6_works_105 : decode cX6_works 105 = .ok (.getfield 32, 3) := by decide +kernel
theorem dX6_works_108 : decode cX6_works 108 = .ok (.iload 5, 2) := by decide +kernel
theorem dX6_works_110 : decode cX6_works 110 = .ok (.aload_n 0, 1) := by decide +kernel
theorem dX6_works_111 : decode cX6_works 111 = .ok (.getfield 22, 3) := by decide +kernel
theorem dX6_works_114 : decode cX6_works 114 = .ok (.iload 10, 2) := by decide +kernel
theorem dX6_works_116 : decode cX6_works 116 = .ok (.iaload, 1) := by decide +kernel
theorem dX6_works_117 : decode cX6_works 117 = .ok (.isub, 1) := by decide +kernel
theorem dX6_works_118 : decode cX6_works 118 = .ok (.aload_n 0, 1) := by decide +kernel
theorem dX6_works_119 : decode cX6_works 119 = .ok (.getfield 25, 3) := by decide +kernel
theorem dX6_works_122 : decode cX6_works 122 = .ok (.iload 10, 2) := by decide +kernel
theorem dX6_works_124 : decode cX6_works 124 = .ok (.iaload, 1) := by decide +kernel
theorem dX6_works_125 : decode cX6_works 125 = .ok (.iload 7, 2) := by decide +kernel
theorem dX6_works_127 : decode cX6_works 127 = .ok (.aload_n 0, 1) := by decide +kernel
theorem dX6_works_128 : decode cX6_works 128 = .ok (.getfield 39, 3) := by decide +kernel
theorem dX6_works_131 : decode cX6_works 131 = .ok (.iload 10, 2) := by decide +kernel
theorem dX6_works_133 : decode cX6_works 133 = .ok (.iaload, 1) := by decide +kernel
theorem dX6_works_134 : decode cX6_works 134 = .ok (.isub, 1) := by decide +kernel
theorem dX6_works_135 : decode cX6_works 135 = .ok (.invokestatic 138, 3) := by decide +kernel
theorem dX6_works_138 : decode cX6_works 138 = .ok (.laload, 1) := by decide +kernel
theorem dX6_works_139 : decode cX6_works 139 = .ok (.goto 4, 3) := by decide +kernel
theorem dX6_works_142 : decode cX6_works 142 = .ok (.lconst 0, 1) := by decide +kernel
theorem dX6_works_143 : decode cX6_works 143 = .ok (.ladd, 1) := by decide +kernel
theorem dX6_works_144 : decode cX6_works 144 = .ok (.lstore 8, 2) := by decide +kernel
theorem dX6_works_146 : decode cX6_works 146 = .ok (.iinc 10 1, 3) := by decide +kernel
theorem dX6_works_149 : decode cX6_works 149 = .ok (.goto (-91), 3) := by decide +kernel
theorem dX6_works_152 : decode cX6_works 152 = .ok (.aload_n 0, 1) := by decide +kernel
theorem dX6_works_153 : decode cX6_works 153 = .ok (.getfield 32, 3) := by decide +kernel
theorem dX6_works_156 : decode cX6_works 156 = .ok (.iload 5, 2) := by decide +kernel
theorem dX6_works_158 : decode cX6_works 158 = .ok (.iload 6, 2) := by decide +kernel
theorem dX6_works_160 : decode cX6_works 160 = .ok (.iload 7, 2) := by decide +kernel
theorem dX6_works_162 : decode cX6_works 162 = .ok (.invokestatic 138, 3) := by decide +kernel
theorem dX6_works_165 : decode cX6_works 165 = .ok (.lload 8, 2) := by decide +kernel
theorem dX6_works_167 : decode cX6_works 167 = .ok (.lastore, 1) := by decide +kernel
theorem dX6_works_168 : decode cX6_works 168 = .ok (.iinc 7 1, 3) := by decide +kernel
theorem dX6_works_171 : decode cX6_works 171 = .ok (.goto (-139), 3) := by decide +kernel
theorem dX6_works_174 : decode cX6_works 174 = .ok (.iinc 6 1, 3) := by decide +kernel
theorem dX6_works_177 : decode cX6_works 177 = .ok (.goto (-154), 3) := by decide +kernel
theorem dX6_works_180 : decode cX6_works 180 = .ok (.iinc 5 1, 3) := by decide +kernel
theorem dX6_works_183 : decode cX6_works 183 = .ok (.goto (-169), 3) := by decide +kernel
theorem dX6_works_186 : decode cX6_works 186 = .ok (.return_, 1) := by decide +kernel
set_option maxRecDepth 20000 in
theorem ggX6_isAsked_X6_in : GoodIn wsX6_isAsked wsX6_in := goodIn_r _ [6] (by decide +kernel) (by decide +kernel)
set_option maxRecDepth 20000 in
theorem gX6_isAsked_X6_in : GoodIn wsX6_isAsked (va_wsS RX6 73 yX6_in wsX6_in) := goodIn_app (goodIn_of _ (by decide +kernel)) ggX6_isAsked_X6_in
set_option maxRecDepth 20000 in
theorem ggX6_isAsked_X6_isWay : GoodIn wsX6_isAsked wsX6_isWay := goodIn_r _ [9, 10, 11, 3, 4, 5, 6] (by decide +kernel) (by decide +kernel)
set_option maxRecDepth 20000 in
theorem gX6_isAsked_X6_isWay : GoodIn wsX6_isAsked (va_wsS RX6 97 yX6_isWay wsX6_isWay) := goodIn_app (goodIn_of _ (by decide +kernel)) ggX6_isAsked_X6_isWay
theorem dX6_isAsked_0 : decode cX6_isAsked 0 = .ok (.iload_n 0, 1) := by decide +kernel
theorem dX6_isAsked_1 : decode cX6_isAsked 1 = .ok (.i2l, 1) := by decide +kernel
theorem dX6_isAsked_2 : decode cX6_isAsked 2 = .ok (.lconst 1, 1) := by decide +kernel
theorem dX6_isAsked_3 : decode cX6_isAsked 3 = .ok (.ldc2_w 115, 3) := by decide +kernel
theorem dX6_isAsked_6 : decode cX6_isAsked 6 = .ok (.invokestatic 73, 3) := by decide +kernel
theorem dX6_isAsked_9 : decode cX6_isAsked 9 = .ok (.ifCond .eq 27, 3) := by decide +kernel
theorem dX6_isAsked_12 : decode cX6_isAsked 12 = .ok (.iload_n 1, 1) := by decide +kernel
theorem dX6_isAsked_13 : decode cX6_isAsked 13 = .ok (.i2l, 1) := by decide +kernel
theorem dX6_isAsked_14 : decode cX6_isAsked 14 = .ok (.lconst 0, 1) := by decide +kernel
theorem dX6_isAsked_15 : decode cX6_isAsked 15 = .ok (.ldc2_w 142, 3) := by decide +kernel
theorem dX6_isAsked_18 : decode cX6_isAsked 18 = .ok (.invokestatic 73, 3) := by decide +kernel
theorem dX6_isAsked_21 : decode cX6_isAsked 21 = .ok (.ifCond .eq 15, 3) := by decide +kernel
theorem dX6_isAsked_24 : decode cX6_isAsked 24 = .ok (.iload_n 2, 1) := by decide +kernel
theorem dX6_isAsked_25 : decode cX6_isAsked 25 = .ok (.iload_n 3, 1) := by decide +kernel
theorem dX6_isAsked_26 : decode cX6_isAsked 26 = .ok (.invokestatic 97, 3) := by decide +kernel
theorem dX6_isAsked_29 : decode cX6_isAsked 29 = .ok (.ifCond .eq 7, 3) := by decide +kernel
theorem dX6_isAsked_32 : decode cX6_isAsked 32 = .ok (.iconst 1, 1) := by decide +kernel
theorem dX6_isAsked_33 : decode cX6_isAsked 33 = .ok (.goto 4, 3) := by decide +kernel
theorem dX6_isAsked_36 : decode cX6_isAsked 36 = .ok (.iconst 0, 1) := by decide +kernel
theorem dX6_isAsked_37 : decode cX6_isAsked 37 = .ok (.ireturn, 1) := by decide +kernel
set_option maxRecDepth 20000 in
theorem ggX6_lines_X6_isAsked : GoodIn wsX6_lines wsX6_isAsked := goodIn_r _ [7, 8, 9, 10, 11, 6, 12, 13, 14, 15, 16, 17] (by decide +kernel) (by decide +kernel)
set_option maxRecDepth 20000 in
theorem gX6_lines_X6_isAsked : GoodIn wsX6_lines (va_wsS RX6 144 yX6_isAsked wsX6_isAsked) := goodIn_app (goodIn_of _ (by decide +kernel)) ggX6_lines_X6_isAsked
set_option maxRecDepth 20000 in
theorem ggX6_lines_X6_works : GoodIn wsX6_lines wsX6_works := goodIn_r _ [21, 22, 23, 24, 3, 25, 26, 27, 28, 6, 29, 30, 31, 32, 33, 34, 35, 36, 37, 38, 39, 40, 41, 10, 11, 12, 42, 43, 44, 45, 46, 47, 48, 49, 50, 51, 52, 53, 54, 55, 56, 57, 58, 59, 60, 61, 62, 63, 64, 65, 66, 67, 68, 69, 70, 71, 72, 73, 74, 75, 76, 77] (by decide +kernel) (by decide +kernel)
set_option maxRecDepth 20000 in
theorem gX6_lines_X6_works : GoodIn wsX6_lines (wsV RX6 148 RX6 yX6_works wsX6_works) := goodIn_app (goodIn_of _ (by decide +kernel)) ggX6_lines_X6_works
set_option maxRecDepth 20000 in
theorem ggX6_lines_X6_place : GoodIn wsX6_lines wsX6_place := goodIn_r _ [54] (by decide +kernel) (by decide +kernel)
set_option maxRecDepth 20000 in
theorem gX6_lines_X6_place : GoodIn wsX6_lines (va_wsS RX6 138 yX6_place wsX6_place) := goodIn_app (goodIn_of _ (by decide +kernel)) ggX6_lines_X6_place
theorem dX6_lines_0 : decode cX6_lines 0 = .ok (.aload_n 0, 1) := by decide +kernel
theorem dX6_lines_1 : decode cX6_lines 1 = .ok (.iconst 0, 1) := by decide +kernel
theorem dX6_lines_2 : decode cX6_lines 2 = .ok (.putfield 67, 3) := by decide +kernel
theorem dX6_lines_5 : decode cX6_lines 5 = .ok (.iload_n 1, 1) := by decide +kernel
theorem dX6_lines_6 : decode cX6_lines 6 = .ok (.iload_n 2, 1) := by decide +kernel
theorem dX6_lines_7 : decode cX6_lines 7 = .ok (.iload_n 3, 1) := by decide +kernel
theorem dX6_lines_8 : decode cX6_lines 8 = .ok (.iload 4, 2) := by decide +kernel
theorem dX6_lines_10 : decode cX6_lines 10 = .ok (.invokestatic 144, 3) := by decide +kernel
theorem dX6_lines_13 : decode cX6_lines 13 = .ok (.ifCond .ne 7, 3) := by decide +kernel
theorem dX6_lines_16 : decode cX6_lines 16 = .ok (.ldc2_w 129, 3) := by decide +kernel
theorem dX6_lines_19 : decode cX6_lines 19 = .ok (.lreturn, 1) := by decide +kernel
theorem dX6_lines_20 : decode cX6_lines 20 = .ok (.aload_n 0, 1) := by decide +kernel
theorem dX6_lines_21 : decode cX6_lines 21 = .ok (.iload_n 1, 1) := by decide +kernel
theorem dX6_lines_22 : decode cX6_lines 22 = .ok (.iload_n 2, 1) := by decide +kernel
theorem dX6_lines_23 : decode cX6_lines 23 = .ok (.iload_n 3, 1) := by decide +kernel
theorem dX6_lines_24 : decode cX6_lines 24 = .ok (.iload 4, 2) := by decide +kernel
theorem dX6_lines_26 : decode cX6_lines 26 = .ok (.invokevirtual 148, 3) := by decide +kernel
theorem dX6_lines_29 : decode cX6_lines 29 = .ok (.aload_n 0, 1) := by decide +kernel
theorem dX6_lines_30 : decode cX6_lines 30 = .ok (.getfield 32, 3) := by decide +kernel
theorem dX6_lines_33 : decode cX6_lines 33 = .ok (.iload_n 1, 1) := by decide +kernel
theorem dX6_lines_34 : decode cX6_lines 34 = .ok (.iconst 3, 1) := by decide +kernel
theorem dX6_lines_35 : decode cX6_lines 35 = .ok (.iload_n 2, 1) := by decide +kernel
theorem dX6_lines_36 : decode cX6_lines 36 = .ok (.invokestatic 138, 3) := by decide +kernel
theorem dX6_lines_39 : decode cX6_lines 39 = .ok (.laload, 1) := by decide +kernel
theorem dX6_lines_40 : decode cX6_lines 40 = .ok (.lreturn, 1) := by decide +kernel
set_option maxRecDepth 20000 in
theorem ggX6_line_X6_isAsked : GoodIn wsX6_line wsX6_isAsked := goodIn_r _ [9, 10, 11, 12, 13, 8, 14, 15, 16, 17, 18, 19] (by decide +kernel) (by decide +kernel)
set_option maxRecDepth 20000 in
theorem gX6_line_X6_isAsked : GoodIn wsX6_line (va_wsS RX6 144 yX6_isAsked wsX6_isAsked) := goodIn_app (goodIn_of _ (by decide +kernel)) ggX6_line_X6_isAsked
set_option maxRecDepth 20000 in
theorem ggX6_line_X6_works : GoodIn wsX6_line wsX6_works := goodIn_r _ [23, 4, 24, 3, 2, 5, 25, 26, 27, 8, 28, 29, 30, 31, 32, 33, 34, 35, 36, 37, 38, 39, 40, 12, 13, 14, 41, 42, 43, 44, 45, 46, 47, 48, 49, 50, 51, 52, 53, 54, 55, 56, 57, 58, 59, 60, 61, 62, 63, 64, 65, 66, 67, 68, 69, 70, 71, 72, 73, 74, 75, 76] (by decide +kernel) (by decide +kernel)
set_option maxRecDepth 20000 in
theorem gX6_line_X6_works : GoodIn wsX6_line (wsV RX6 148 RX6 yX6_works wsX6_works) := goodIn_app (goodIn_of _ (by decide +kernel)) ggX6_line_X6_works
set_option maxRecDepth 20000 in
theorem ggX6_line_X6_place : GoodIn wsX6_line wsX6_place := goodIn_r _ [53] (by decide +kernel) (by decide +kernel)
set_option maxRecDepth 20000 in
theorem gX6_line_X6_place : GoodIn wsX6_line (va_wsS RX6 138 yX6_place wsX6_place) := goodIn_app (goodIn_of _ (by decide +kernel)) ggX6_line_X6_place
set_option maxRecDepth 20000 in
theorem ggX6_line_X6_isAfter : GoodIn wsX6_line wsX6_isAfter := goodIn_r _ [49, 50, 5, 54, 55, 56, 57, 58, 59, 60, 61, 62, 63, 64, 65, 66, 67, 68, 69, 70, 71, 72, 73, 74, 75, 76] (by decide +kernel) (by decide +kernel)
set_option maxRecDepth 20000 in
theorem gX6_line_X6_isAfter : GoodIn wsX6_line (wsV RX6 131 RX6 yX6_isAfter wsX6_isAfter) := goodIn_app (goodIn_of _ (by decide +kernel)) ggX6_line_X6_isAfter
end
section
theorem dX6_line_0 : decode cX6_line 0 = .ok (.aload_n 0, 1) := by decide +kernel
theorem dX6_line_1 : decode cX6_line 1 = .ok (.iconst 0, 1) := by decide +kernel
theorem dX6_line_2 : decode cX6_line 2 = .ok (.putfield 67, 3) := by decide +kernel
theorem dX6_line_5 : decode cX6_line 5 = .ok (.iload_n 1, 1) := by decide +kernel
theorem dX6_line_6 : decode cX6_line 6 = .ok (.iload_n 2, 1) := by decide +kernel
theorem dX6_line_7 : decode cX6_line 7 = .ok (.iload_n 3, 1) := by decide +kernel
theorem dX6_line_8 : decode cX6_line 8 = .ok (.iload 4, 2) := by decide +kernel
theorem dX6_line_10 : decode cX6_line 10 = .ok (.invokestatic 144, 3) := by decide +kernel
theorem dX6_line_13 : decode cX6_line 13 = .ok (.ifCond .eq 15, 3) := by decide +kernel
theorem dX6_line_16 : decode cX6_line 16 = .ok (.lload 5, 2) := by decide +kernel
theorem dX6_line_18 : decode cX6_line 18 = .ok (.lconst 0, 1) := by decide +kernel
theorem dX6_line_19 : decode cX6_line 19 = .ok (.lcmp, 1) := by decide +kernel
theorem dX6_line_20 : decode cX6_line 20 = .ok (.ifCond .lt 8, 3) := by decide +kernel
theorem dX6_line_23 : decode cX6_line 23 = .ok (.iload 7, 2) := by decide +kernel
theorem dX6_line_25 : decode cX6_line 25 = .ok (.ifCond .ge 6, 3) := by decide +kernel
theorem dX6_line_28 : decode cX6_line 28 = .ok (.bipush (-2), 2) := by decide +kernel
theorem dX6_line_30 : decode cX6_line 30 = .ok (.ireturn, 1) := by decide +kernel
theorem dX6_line_31 : decode cX6_line 31 = .ok (.aload_n 0, 1) := by decide +kernel
theorem dX6_line_32 : decode cX6_line 32 = .ok (.iload_n 1, 1) := by decide +kernel
theorem dX6_line_33 : decode cX6_line 33 = .ok (.iload_n 2, 1) := by decide +kernel
theorem dX6_line_34 : decode cX6_line 34 = .ok (.iload_n 3, 1) := by decide +kernel
theorem dX6_line_35 : decode cX6_line 35 = .ok (.iload 4, 2) := by decide +kernel
theorem dX6_line_37 : decode cX6_line 37 = .ok (.invokevirtual 148, 3) := by decide +kernel
theorem dX6_line_40 : decode cX6_line 40 = .ok (.lload 5, 2) := by decide +kernel
theorem dX6_line_42 : decode cX6_line 42 = .ok (.aload_n 0, 1) := by decide +kernel
theorem dX6_line_43 : decode cX6_line 43 = .ok (.getfield 32, 3) := by decide +kernel
theorem dX6_line_46 : decode cX6_line 46 = .ok (.iload_n 1, 1) := by decide +kernel
theorem dX6_line_47 : decode cX6_line 47 = .ok (.iconst 3, 1) := by decide +kernel
theorem dX6_line_48 : decode cX6_line 48 = .ok (.iload_n 2, 1) := by decide +kernel
theorem dX6_line_49 : decode cX6_line 49 = .ok (.invokestatic 138, 3) := by decide +kernel
theorem dX6_line_52 : decode cX6_line 52 = .ok (.laload, 1) := by decide +kernel
theorem dX6_line_53 : decode cX6_line 53 = .ok (.lcmp, 1) := by decide +kernel
theorem dX6_line_54 : decode cX6_line 54 = .ok (.ifCond .lt 6, 3) := by decide +kernel
theorem dX6_line_57 : decode cX6_line 57 = .ok (.bipush (-2), 2) := by decide +kernel
theorem dX6_line_59 : decode cX6_line 59 = .ok (.ireturn, 1) := by decide +kernel
theorem dX6_line_60 : decode cX6_line 60 = .ok (.iload_n 1, 1) := by decide +kernel
theorem dX6_line_61 : decode cX6_line 61 = .ok (.istore 8, 2) := by decide +kernel
theorem dX6_line_63 : decode cX6_line 63 = .ok (.iconst 3, 1) := by decide +kernel
theorem dX6_line_64 : decode cX6_line 64 = .ok (.istore 9, 2) := by decide +kernel
theorem dX6_line_66 : decode cX6_line 66 = .ok (.iload_n 2, 1) := by decide +kernel
theorem dX6_line_67 : decode cX6_line 67 = .ok (.istore 10, 2) := by decide +kernel
theorem dX6_line_69 : decode cX6_line 69 = .ok (.lload 5, 2) := by decide +kernel
theorem dX6_line_71 : decode cX6_line 71 = .ok (.lstore 11, 2) := by decide +kernel
theorem dX6_line_73 : decode cX6_line 73 = .ok (.iconst 0, 1) := by decide +kernel
theorem dX6_line_74 : decode cX6_line 74 = .ok (.istore 13, 2) := by decide +kernel
theorem dX6_line_76 : decode cX6_line 76 = .ok (.iload 8, 2) := by decide +kernel
theorem dX6_line_78 : decode cX6_line 78 = .ok (.ifCond .le 172, 3) := by decide +kernel
theorem dX6_line_81 : decode cX6_line 81 = .ok (.iconst 0, 1) := by decide +kernel
theorem dX6_line_82 : decode cX6_line 82 = .ok (.istore 14, 2) := by decide +kernel
theorem dX6_line_84 : decode cX6_line 84 = .ok (.iconst 0, 1) := by decide +kernel
theorem dX6_line_85 : decode cX6_line 85 = .ok (.istore 15, 2) := by decide +kernel
theorem dX6_line_87 : decode cX6_line 87 = .ok (.iload 15, 2) := by decide +kernel
theorem dX6_line_89 : decode cX6_line 89 = .ok (.ifCond .ne 112, 3) := by decide +kernel
theorem dX6_line_92 : decode cX6_line 92 = .ok (.aload_n 0, 1) := by decide +kernel
theorem dX6_line_93 : decode cX6_line 93 = .ok (.getfield 22, 3) := by decide +kernel
theorem dX6_line_96 : decode cX6_line 96 = .ok (.iload 14, 2) := by decide +kernel
theorem dX6_line_98 : decode cX6_line 98 = .ok (.iaload, 1) := by decide +kernel
theorem dX6_line_99 : decode cX6_line 99 = .ok (.iload 8, 2) := by decide +kernel
theorem dX6_line_101 : decode cX6_line 101 = .ok (.if_icmp .gt 64, 3) := by decide +kernel
theorem dX6_line_104 : decode cX6_line 104 = .ok (.aload_n 0, 1) := by decide +kernel
theorem dX6_line_105 : decode cX6_line 105 = .ok (.getfield 39, 3) := by decide +kernel
theorem dX6_line_108 : decode cX6_line 108 = .ok (.iload 14, 2) := by decide +kernel
theorem dX6_line_110 : decode cX6_line 110 = .ok (.iaload, 1) := by decide +kernel
theorem dX6_line_111 : decode cX6_line 111 = .ok (.iload 10, 2) := by decide +kernel
theorem dX6_line_113 : decode cX6_line 113 = .ok (.if_icmp .gt 52, 3) := by decide +kernel
theorem dX6_line_116 : decode cX6_line 116 = .ok (.aload_n 0, 1) := by decide +kernel
theorem dX6_line_117 : decode cX6_line 117 = .ok (.iload 9, 2) := by decide +kernel
theorem dX6_line_119 : decode cX6_line 119 = .ok (.iload 14, 2) := by decide +kernel
theorem dX6_line_121 : decode cX6_line 121 = .ok (.invokevirtual 131, 3) := by decide +kernel
theorem dX6_line_124 : decode cX6_line 124 = .ok (.ifCond .eq 41, 3) := by decide +kernel
theorem dX6_line_127 : decode cX6_line 127 = .ok (.aload_n 0, 1) := by decide +kernel
theorem dX6_line_128 : decode cX6_line 128 = .ok (.getfield 32, 3) := by decide +kernel
theorem dX6_line_131 : decode cX6_line 131 = .ok (.iload 8, 2) := by decide +kernel
theorem dX6_line_133 : decode cX6_line 133 = .ok (.aload_n 0, 1) := by decide +kernel
theorem dX6_line_134 : decode cX6_line 134 = .ok (.getfield 22, 3) := by decide +kernel
theorem dX6_line_137 : decode cX6_line 137 = .ok (.iload 14, 2) := by decide +kernel
theorem dX6_line_139 : decode cX6_line 139 = .ok (.iaload, 1) := by decide +kernel
theorem dX6_line_140 : decode cX6_line 140 = .ok (.isub, 1) := by decide +kernel
theorem dX6_line_141 : decode cX6_line 141 = .ok (.aload_n 0, 1) := by decide +kernel
theorem dX6_line_142 : decode cX6_line 142 = .ok (.getfield 25, 3) := by decide +kernel
theorem dX6_line_145 : decode cX6_line 145 = .ok (.iload 14, 2) := by decide +kernel
theorem dX6_line_147 : decode cX6_line 147 = .ok (.iaload, 1) := by decide +kernel
theorem dX6_line_148 : decode cX6_line 148 = .ok (.iload 10, 2) := by decide +kernel
theorem dX6_line_150 : decode cX6_line 150 = .ok (.aload_n 0, 1) := by decide +kernel
theorem dX6_line_151 : decode cX6_line 151 = .ok (.getfield 39, 3) := by decide +kernel
theorem dX6_line_154 : decode cX6_line 154 = .ok (.iload 14, 2) := by decide +kernel
theorem dX6_line_156 : decode cX6_line 156 = .ok (.iaload, 1) := by decide +kernel
theorem dX6_line_157 : decode cX6_line 157 = .ok (.isub, 1) := by decide +kernel
theorem dX6_line_158 : decode cX6_line 158 = .ok (.invokestatic 138, 3) := by decide +kernel
theorem dX6_line_161 : decode cX6_line 161 = .ok (.laload, 1) := by decide +kernel
theorem dX6_line_162 : decode cX6_line 162 = .ok (.goto 4, 3) := by decide +kernel
theorem dX6_line_165 : decode cX6_line 165 = .ok (.lconst 0, 1) := by decide +kernel
theorem dX6_line_166 : decode cX6_line 166 = .ok (.lstore 16, 2) := by decide +kernel
theorem dX6_line_168 : decode cX6_line 168 = .ok (.lload 11, 2) := by decide +kernel
theorem dX6_line_170 : decode cX6_line 170 = .ok (.lload 16, 2) := by decide +kernel
theorem dX6_line_172 : decode cX6_line 172 = .ok (.lcmp, 1) := by decide +kernel
theorem dX6_line_173 : decode cX6_line 173 = .ok (.ifCond .ge 7, 3) := by decide +kernel
theorem dX6_line_176 : decode cX6_line 176 = .ok (.iconst 1, 1) := by decide +kernel
theorem dX6_line_177 : decode cX6_line 177 = .ok (.goto 4, 3) := by decide +kernel
theorem dX6_line_180 : decode cX6_line 180 = .ok (.iconst 0, 1) := by decide +kernel
theorem dX6_line_181 : decode cX6_line 181 = .ok (.istore 15, 2) := by decide +kernel
theorem dX6_line_183 : decode cX6_line 183 = .ok (.iload 15, 2) := by decide +kernel
theorem dX6_line_185 : decode cX6_line 185 = .ok (.ifCond .ne 13, 3) := by decide +kernel
theorem dX6_line_188 : decode cX6_line 188 = .ok (.lload 11, 2) := by decide +kernel
theorem dX6_line_190 : decode cX6_line 190 = .ok (.lload 16, 2) := by decide +kernel
theorem dX6_line_192 : decode cX6_line 192 = .ok (.lsub, 1) := by decide +kernel
theorem dX6_line_193 : decode cX6_line 193 = .ok (.lstore 11, 2) := by decide +kernel
theorem dX6_line_195 : decode cX6_line 195 = .ok (.iinc 14 1, 3) := by decide +kernel
theorem dX6_line_198 : decode cX6_line 198 = .ok (.goto (-111), 3) := by decide +kernel
theorem dX6_line_201 : decode cX6_line 201 = .ok (.iload 13, 2) := by decide +kernel
theorem dX6_line_203 : decode cX6_line 203 = .ok (.iload 7, 2) := by decide +kernel
theorem dX6_line_205 : decode cX6_line 205 = .ok (.if_icmp .ne 6, 3) := by decide +kernel
theorem dX6_line_208 : decode cX6_line 208 = .ok (.iload 14, 2) := by decide +kernel
theorem dX6_line_210 : decode cX6_line 210 = .ok (.ireturn, 1) := by decide +kernel
theorem dX6_line_211 : decode cX6_line 211 = .ok (.iload 8, 2) := by decide +kernel
theorem dX6_line_213 : decode cX6_line 213 = .ok (.aload_n 0, 1) := by decide +kernel
theorem dX6_line_214 : decode cX6_line 214 = .ok (.getfield 22, 3) := by decide +kernel
theorem dX6_line_217 : decode cX6_line 217 = .ok (.iload 14, 2) := by decide +kernel
theorem dX6_line_219 : decode cX6_line 219 = .ok (.iaload, 1) := by decide +kernel
theorem dX6_line_220 : decode cX6_line 220 = .ok (.isub, 1) := by decide +kernel
theorem dX6_line_221 : decode cX6_line 221 = .ok (.istore 8, 2) := by decide +kernel
theorem dX6_line_223 : decode cX6_line 223 = .ok (.iload 10, 2) := by decide +kernel
theorem dX6_line_225 : decode cX6_line 225 = .ok (.aload_n 0, 1) := by decide +kernel
theorem dX6_line_226 : decode cX6_line 226 = .ok (.getfield 39, 3) := by decide +kernel
theorem dX6_line_229 : decode cX6_line 229 = .ok (.iload 14, 2) := by decide +kernel
theorem dX6_line_231 : decode cX6_line 231 = .ok (.iaload, 1) := by decide +kernel
theorem dX6_line_232 : decode cX6_line 232 = .ok (.isub, 1) := by decide +kernel
theorem dX6_line_233 : decode cX6_line 233 = .ok (.istore 10, 2) := by decide +kernel
theorem dX6_line_235 : decode cX6_line 235 = .ok (.aload_n 0, 1) := by decide +kernel
theorem dX6_line_236 : decode cX6_line 236 = .ok (.getfield 25, 3) := by decide +kernel
theorem dX6_line_239 : decode cX6_line 239 = .ok (.iload 14, 2) := by decide +kernel
theorem dX6_line_241 : decode cX6_line 241 = .ok (.iaload, 1) := by decide +kernel
theorem dX6_line_242 : decode cX6_line 242 = .ok (.istore 9, 2) := by decide +kernel
theorem dX6_line_244 : decode cX6_line 244 = .ok (.iinc 13 1, 3) := by decide +kernel
theorem dX6_line_247 : decode cX6_line 247 = .ok (.goto (-171), 3) := by decide +kernel
theorem dX6_line_250 : decode cX6_line 250 = .ok (.bipush (-9), 2) := by decide +kernel
theorem dX6_line_252 : decode cX6_line 252 = .ok (.ireturn, 1) := by decide +kernel
set_option maxRecDepth 20000 in
theorem ggX6_doubles_X6_in : GoodIn wsX6_doubles wsX6_in := goodIn_r _ [15] (by decide +kernel) (by decide +kernel)
set_option maxRecDepth 20000 in
theorem gX6_doubles_X6_in : GoodIn wsX6_doubles (va_wsS RX6 73 yX6_in wsX6_in) := goodIn_app (goodIn_of _ (by decide +kernel)) ggX6_doubles_X6_in
set_option maxRecDepth 20000 in
theorem ggX6_doubles_X6_isWay : GoodIn wsX6_doubles wsX6_isWay := goodIn_r _ [18, 19, 4, 12, 13, 14, 15] (by decide +kernel) (by decide +kernel)
set_option maxRecDepth 20000 in
theorem gX6_doubles_X6_isWay : GoodIn wsX6_doubles (va_wsS RX6 97 yX6_isWay wsX6_isWay) := goodIn_app (goodIn_of _ (by decide +kernel)) ggX6_doubles_X6_isWay
set_option maxRecDepth 20000 in
theorem ggX6_doubles_X6_owns : GoodIn wsX6_doubles wsX6_owns := goodIn_r _ [23, 9, 24, 25, 26, 27, 28, 14, 29, 30, 31, 32, 33, 34, 35, 12, 13, 15, 36, 37, 38, 39, 40, 46, 47, 48, 49, 50, 51, 52, 53, 54, 55, 56, 57, 58, 59, 60, 61, 62, 63, 64, 65, 66, 67, 68] (by decide +kernel) (by decide +kernel)
set_option maxRecDepth 20000 in
theorem gX6_doubles_X6_owns : GoodIn wsX6_doubles (wsV RX6 134 RX6 yX6_owns wsX6_owns) := goodIn_app (goodIn_of _ (by decide +kernel)) ggX6_doubles_X6_owns
set_option maxRecDepth 20000 in
theorem ggX6_doubles_X6_isAfter : GoodIn wsX6_doubles wsX6_isAfter := goodIn_r _ [44, 45, 11, 46, 47, 48, 49, 50, 51, 52, 53, 54, 55, 56, 57, 58, 59, 60, 61, 62, 63, 64, 65, 66, 67, 68] (by decide +kernel) (by decide +kernel)
set_option maxRecDepth 20000 in
theorem gX6_doubles_X6_isAfter : GoodIn wsX6_doubles (wsV RX6 131 RX6 yX6_isAfter wsX6_isAfter) := goodIn_app (goodIn_of _ (by decide +kernel)) ggX6_doubles_X6_isAfter
theorem dX6_doubles_0 : decode cX6_doubles 0 = .ok (.aload_n 0, 1) := by decide +kernel
theorem dX6_doubles_1 : decode cX6_doubles 1 = .ok (.iconst 0, 1) := by decide +kernel
theorem dX6_doubles_2 : decode cX6_doubles 2 = .ok (.putfield 67, 3) := by decide +kernel
theorem dX6_doubles_5 : decode cX6_doubles 5 = .ok (.iload_n 1, 1) := by decide +kernel
theorem dX6_doubles_6 : decode cX6_doubles 6 = .ok (.i2l, 1) := by decide +kernel
theorem dX6_doubles_7 : decode cX6_doubles 7 = .ok (.lconst 1, 1) := by decide +kernel
theorem dX6_doubles_8 : decode cX6_doubles 8 = .ok (.ldc2_w 152, 3) := by decide +kernel
theorem dX6_doubles_11 : decode cX6_doubles 11 = .ok (.invokestatic 73, 3) := by decide +kernel
theorem dX6_doubles_14 : decode cX6_doubles 14 = .ok (.ifCond .eq 50, 3) := by decide +kernel
theorem dX6_doubles_17 : decode cX6_doubles 17 = .ok (.iload_n 2, 1) := by decide +kernel
theorem dX6_doubles_18 : decode cX6_doubles 18 = .ok (.i2l, 1) := by decide +kernel
theorem dX6_doubles_19 : decode cX6_doubles 19 = .ok (.lconst 0, 1) := by decide +kernel
theorem dX6_doubles_20 : decode cX6_doubles 20 = .ok (.ldc2_w 142, 3) := by decide +kernel
theorem dX6_doubles_23 : decode cX6_doubles 23 = .ok (.invokestatic 73, 3) := by decide +kernel
theorem dX6_doubles_26 : decode cX6_doubles 26 = .ok (.ifCond .eq 38, 3) := by decide +kernel
theorem dX6_doubles_29 : decode cX6_doubles 29 = .ok (.iload_n 3, 1) := by decide +kernel
theorem dX6_doubles_30 : decode cX6_doubles 30 = .ok (.i2l, 1) := by decide +kernel
theorem dX6_doubles_31 : decode cX6_doubles 31 = .ok (.lconst 0, 1) := by decide +kernel
theorem dX6_doubles_32 : decode cX6_doubles 32 = .ok (.ldc2_w 142, 3) := by decide +kernel
theorem dX6_doubles_35 : decode cX6_doubles 35 = .ok (.invokestatic 73, 3) := by decide +kernel
theorem dX6_doubles_38 : decode cX6_doubles 38 = .ok (.ifCond .eq 26, 3) := by decide +kernel
theorem dX6_doubles_41 : decode cX6_doubles 41 = .ok (.iload 4, 2) := by decide +kernel
theorem dX6_doubles_43 : decode cX6_doubles 43 = .ok (.iload 5, 2) := by decide +kernel
theorem dX6_doubles_45 : decode cX6_doubles 45 = .ok (.invokestatic 97, 3) := by decide +kernel
theorem dX6_doubles_48 : decode cX6_doubles 48 = .ok (.ifCond .eq 16, 3) := by decide +kernel
theorem dX6_doubles_51 : decode cX6_doubles 51 = .ok (.iload 6, 2) := by decide +kernel
theorem dX6_doubles_53 : decode cX6_doubles 53 = .ok (.i2l, 1) := by decide +kernel
theorem dX6_doubles_54 : decode cX6_doubles 54 = .ok (.lconst 0, 1) := by decide +kernel
theorem dX6_doubles_55 : decode cX6_doubles 55 = .ok (.ldc2_w 71, 3) := by decide +kernel
theorem dX6_doubles_58 : decode cX6_doubles 58 = .ok (.invokestatic 73, 3) := by decide +kernel
theorem dX6_doubles_61 : decode cX6_doubles 61 = .ok (.ifCond .ne 7, 3) := by decide +kernel
theorem dX6_doubles_64 : decode cX6_doubles 64 = .ok (.ldc2_w 129, 3) := by decide +kernel
theorem dX6_doubles_67 : decode cX6_doubles 67 = .ok (.lreturn, 1) := by decide +kernel
theorem dX6_doubles_68 : decode cX6_doubles 68 = .ok (.aload_n 0, 1) := by decide +kernel
theorem dX6_doubles_69 : decode cX6_doubles 69 = .ok (.iload 4, 2) := by decide +kernel
theorem dX6_doubles_71 : decode cX6_doubles 71 = .ok (.iload 5, 2) := by decide +kernel
theorem dX6_doubles_73 : decode cX6_doubles 73 = .ok (.aload_n 0, 1) := by decide +kernel
theorem dX6_doubles_74 : decode cX6_doubles 74 = .ok (.getfield 39, 3) := by decide +kernel
theorem dX6_doubles_77 : decode cX6_doubles 77 = .ok (.invokevirtual 134, 3) := by decide +kernel
theorem dX6_doubles_80 : decode cX6_doubles 80 = .ok (.aload_n 0, 1) := by decide +kernel
theorem dX6_doubles_81 : decode cX6_doubles 81 = .ok (.iload 4, 2) := by decide +kernel
theorem dX6_doubles_83 : decode cX6_doubles 83 = .ok (.iload 6, 2) := by decide +kernel
theorem dX6_doubles_85 : decode cX6_doubles 85 = .ok (.aload_n 0, 1) := by decide +kernel
theorem dX6_doubles_86 : decode cX6_doubles 86 = .ok (.getfield 42, 3) := by decide +kernel
theorem dX6_doubles_89 : decode cX6_doubles 89 = .ok (.invokevirtual 134, 3) := by decide +kernel
theorem dX6_doubles_92 : decode cX6_doubles 92 = .ok (.lconst 0, 1) := by decide +kernel
theorem dX6_doubles_93 : decode cX6_doubles 93 = .ok (.lstore 7, 2) := by decide +kernel
theorem dX6_doubles_95 : decode cX6_doubles 95 = .ok (.iconst 1, 1) := by decide +kernel
theorem dX6_doubles_96 : decode cX6_doubles 96 = .ok (.istore 9, 2) := by decide +kernel
theorem dX6_doubles_98 : decode cX6_doubles 98 = .ok (.aload_n 0, 1) := by decide +kernel
theorem dX6_doubles_99 : decode cX6_doubles 99 = .ok (.getfield 45, 3) := by decide +kernel
theorem dX6_doubles_102 : decode cX6_doubles 102 = .ok (.iconst 0, 1) := by decide +kernel
theorem dX6_doubles_103 : decode cX6_doubles 103 = .ok (.iconst 0, 1) := by decide +kernel
theorem dX6_doubles_104 : decode cX6_doubles 104 = .ok (.iastore, 1) := by decide +kernel
theorem dX6_doubles_105 : decode cX6_doubles 105 = .ok (.iconst 0, 1) := by decide +kernel
theorem dX6_doubles_106 : decode cX6_doubles 106 = .ok (.istore 10, 2) := by decide +kernel
theorem dX6_doubles_108 : decode cX6_doubles 108 = .ok (.iconst 0, 1) := by decide +kernel
theorem dX6_doubles_109 : decode cX6_doubles 109 = .ok (.istore 11, 2) := by decide +kernel
theorem dX6_doubles_111 : decode cX6_doubles 111 = .ok (.iconst 0, 1) := by decide +kernel
theorem dX6_doubles_112 : decode cX6_doubles 112 = .ok (.istore 12, 2) := by decide +kernel
theorem dX6_doubles_114 : decode cX6_doubles 114 = .ok (.iload 9, 2) := by decide +kernel
theorem dX6_doubles_116 : decode cX6_doubles 116 = .ok (.ifCond .le 308, 3) := by decide +kernel
theorem dX6_doubles_119 : decode cX6_doubles 119 = .ok (.aload_n 0, 1) := by decide +kernel
theorem dX6_doubles_120 : decode cX6_doubles 120 = .ok (.getfield 45, 3) := by decide +kernel
theorem dX6_doubles_123 : decode cX6_doubles 123 = .ok (.iload 9, 2) := by decide +kernel
theorem dX6_doubles_125 : decode cX6_doubles 125 = .ok (.iconst 1, 1) := by decide +kernel
theorem dX6_doubles_126 : decode cX6_doubles 126 = .ok (.isub, 1) := by decide +kernel
theorem dX6_doubles_127 : decode cX6_doubles 127 = .ok (.iaload, 1) := by decide +kernel
theorem dX6_doubles_128 : decode cX6_doubles 128 = .ok (.istore 13, 2) := by decide +kernel
theorem dX6_doubles_130 : decode cX6_doubles 130 = .ok (.iload 13, 2) := by decide +kernel
theorem dX6_doubles_132 : decode cX6_doubles 132 = .ok (.aload_n 0, 1) := by decide +kernel
theorem dX6_doubles_133 : decode cX6_doubles 133 = .ok (.getfield 124, 3) := by decide +kernel
theorem dX6_doubles_136 : decode cX6_doubles 136 = .ok (.if_icmp .ne 74, 3) := by decide +kernel
theorem dX6_doubles_139 : decode cX6_doubles 139 = .ok (.iinc 9 (-1), 3) := by decide +kernel
theorem dX6_doubles_142 : decode cX6_doubles 142 = .ok (.iload 9, 2) := by decide +kernel
theorem dX6_doubles_144 : decode cX6_doubles 144 = .ok (.ifCond .le (-30), 3) := by decide +kernel
theorem dX6_doubles_147 : decode cX6_doubles 147 = .ok (.aload_n 0, 1) := by decide +kernel
theorem dX6_doubles_148 : decode cX6_doubles 148 = .ok (.getfield 45, 3) := by decide +kernel
theorem dX6_doubles_151 : decode cX6_doubles 151 = .ok (.iload 9, 2) := by decide +kernel
theorem dX6_doubles_153 : decode cX6_doubles 153 = .ok (.iconst 1, 1) := by decide +kernel
theorem dX6_doubles_154 : decode cX6_doubles 154 = .ok (.isub, 1) := by decide +kernel
theorem dX6_doubles_155 : decode cX6_doubles 155 = .ok (.iaload, 1) := by decide +kernel
theorem dX6_doubles_156 : decode cX6_doubles 156 = .ok (.istore 13, 2) := by decide +kernel
theorem dX6_doubles_158 : decode cX6_doubles 158 = .ok (.iload 10, 2) := by decide +kernel
theorem dX6_doubles_160 : decode cX6_doubles 160 = .ok (.aload_n 0, 1) := by decide +kernel
theorem dX6_doubles_161 : decode cX6_doubles 161 = .ok (.getfield 22, 3) := by decide +kernel
theorem dX6_doubles_164 : decode cX6_doubles 164 = .ok (.iload 13, 2) := by decide +kernel
theorem dX6_doubles_166 : decode cX6_doubles 166 = .ok (.iaload, 1) := by decide +kernel
theorem dX6_doubles_167 : decode cX6_doubles 167 = .ok (.isub, 1) := by decide +kernel
theorem dX6_doubles_168 : decode cX6_doubles 168 = .ok (.istore 10, 2) := by decide +kernel
theorem dX6_doubles_170 : decode cX6_doubles 170 = .ok (.iload 11, 2) := by decide +kernel
theorem dX6_doubles_172 : decode cX6_doubles 172 = .ok (.aload_n 0, 1) := by decide +kernel
theorem dX6_doubles_173 : decode cX6_doubles 173 = .ok (.getfield 39, 3) := by decide +kernel
theorem dX6_doubles_176 : decode cX6_doubles 176 = .ok (.iload 13, 2) := by decide +kernel
theorem dX6_doubles_178 : decode cX6_doubles 178 = .ok (.iaload, 1) := by decide +kernel
theorem dX6_doubles_179 : decode cX6_doubles 179 = .ok (.isub, 1) := by decide +kernel
theorem dX6_doubles_180 : decode cX6_doubles 180 = .ok (.istore 11, 2) := by decide +kernel
theorem dX6_doubles_182 : decode cX6_doubles 182 = .ok (.iload 12, 2) := by decide +kernel
theorem dX6_doubles_184 : decode cX6_doubles 184 = .ok (.aload_n 0, 1) := by decide +kernel
theorem dX6_doubles_185 : decode cX6_doubles 185 = .ok (.getfield 42, 3) := by decide +kernel
theorem dX6_doubles_188 : decode cX6_doubles 188 = .ok (.iload 13, 2) := by decide +kernel
theorem dX6_doubles_190 : decode cX6_doubles 190 = .ok (.iaload, 1) := by decide +kernel
theorem dX6_doubles_191 : decode cX6_doubles 191 = .ok (.isub, 1) := by decide +kernel
theorem dX6_doubles_192 : decode cX6_doubles 192 = .ok (.istore 12, 2) := by decide +kernel
theorem dX6_doubles_194 : decode cX6_doubles 194 = .ok (.aload_n 0, 1) := by decide +kernel
theorem dX6_doubles_195 : decode cX6_doubles 195 = .ok (.getfield 45, 3) := by decide +kernel
theorem dX6_doubles_198 : decode cX6_doubles 198 = .ok (.iload 9, 2) := by decide +kernel
theorem dX6_doubles_200 : decode cX6_doubles 200 = .ok (.iconst 1, 1) := by decide +kernel
theorem dX6_doubles_201 : decode cX6_doubles 201 = .ok (.isub, 1) := by decide +kernel
theorem dX6_doubles_202 : decode cX6_doubles 202 = .ok (.dup2, 1) := by decide +kernel
theorem dX6_doubles_203 : decode cX6_doubles 203 = .ok (.iaload, 1) := by decide +kernel
theorem dX6_doubles_204 : decode cX6_doubles 204 = .ok (.iconst 1, 1) := by decide +kernel
theorem dX6_doubles_205 : decode cX6_doubles 205 = .ok (.iadd, 1) := by decide +kernel
theorem dX6_doubles_206 : decode cX6_doubles 206 = .ok (.iastore, 1) := by decide +kernel
theorem dX6_doubles_207 : decode cX6_doubles 207 = .ok (.goto (-93), 3) := by decide +kernel
theorem dX6_doubles_210 : decode cX6_doubles 210 = .ok (.iload 9, 2) := by decide +kernel
theorem dX6_doubles_212 : decode cX6_doubles 212 = .ok (.iconst 1, 1) := by decide +kernel
theorem dX6_doubles_213 : decode cX6_doubles 213 = .ok (.if_icmp .ne 7, 3) := by decide +kernel
theorem dX6_doubles_216 : decode cX6_doubles 216 = .ok (.iconst 3, 1) := by decide +kernel
theorem dX6_doubles_217 : decode cX6_doubles 217 = .ok (.goto 17, 3) := by decide +kernel
theorem dX6_doubles_220 : decode cX6_doubles 220 = .ok (.aload_n 0, 1) := by decide +kernel
theorem dX6_doubles_221 : decode cX6_doubles 221 = .ok (.getfield 25, 3) := by decide +kernel
theorem dX6_doubles_224 : decode cX6_doubles 224 = .ok (.aload_n 0, 1) := by decide +kernel
theorem dX6_doubles_225 : decode cX6_doubles 225 = .ok (.getfield 45, 3) := by decide +kernel
theorem dX6_doubles_228 : decode cX6_doubles 228 = .ok (.iload 9, 2) := by decide +kernel
theorem dX6_doubles_230 : decode cX6_doubles 230 = .ok (.iconst 2, 1) := by decide +kernel
theorem dX6_doubles_231 : decode cX6_doubles 231 = .ok (.isub, 1) := by decide +kernel
theorem dX6_doubles_232 : decode cX6_doubles 232 = .ok (.iaload, 1) := by decide +kernel
theorem dX6_doubles_233 : decode cX6_doubles 233 = .ok (.iaload, 1) := by decide +kernel
theorem dX6_doubles_234 : decode cX6_doubles 234 = .ok (.istore 14, 2) := by decide +kernel
theorem dX6_doubles_236 : decode cX6_doubles 236 = .ok (.aload_n 0, 1) := by decide +kernel
theorem dX6_doubles_237 : decode cX6_doubles 237 = .ok (.iload 14, 2) := by decide +kernel
theorem dX6_doubles_239 : decode cX6_doubles 239 = .ok (.iload 13, 2) := by decide +kernel
theorem dX6_doubles_241 : decode cX6_doubles 241 = .ok (.invokevirtual 131, 3) := by decide +kernel
theorem dX6_doubles_244 : decode cX6_doubles 244 = .ok (.ifCond .eq 49, 3) := by decide +kernel
theorem dX6_doubles_247 : decode cX6_doubles 247 = .ok (.iload 10, 2) := by decide +kernel
theorem dX6_doubles_249 : decode cX6_doubles 249 = .ok (.aload_n 0, 1) := by decide +kernel
theorem dX6_doubles_250 : decode cX6_doubles 250 = .ok (.getfield 22, 3) := by decide +kernel
theorem dX6_doubles_253 : decode cX6_doubles 253 = .ok (.iload 13, 2) := by decide +kernel
theorem dX6_doubles_255 : decode cX6_doubles 255 = .ok (.iaload, 1) := by decide +kernel
theorem dX6_doubles_256 : decode cX6_doubles 256 = .ok (.iadd, 1) := by decide +kernel
theorem dX6_doubles_257 : decode cX6_doubles 257 = .ok (.iload_n 1, 1) := by decide +kernel
theorem dX6_doubles_258 : decode cX6_doubles 258 = .ok (.if_icmp .gt 35, 3) := by decide +kernel
theorem dX6_doubles_261 : decode cX6_doubles 261 = .ok (.iload 11, 2) := by decide +kernel
theorem dX6_doubles_263 : decode cX6_doubles 263 = .ok (.aload_n 0, 1) := by decide +kernel
theorem dX6_doubles_264 : decode cX6_doubles 264 = .ok (.getfield 39, 3) := by decide +kernel
theorem dX6_doubles_267 : decode cX6_doubles 267 = .ok (.iload 13, 2) := by decide +kernel
theorem dX6_doubles_269 : decode cX6_doubles 269 = .ok (.iaload, 1) := by decide +kernel
theorem dX6_doubles_270 : decode cX6_doubles 270 = .ok (.iadd, 1) := by decide +kernel
theorem dX6_doubles_271 : decode cX6_doubles 271 = .ok (.iload_n 2, 1) := by decide +kernel
theorem dX6_doubles_272 : decode cX6_doubles 272 = .ok (.if_icmp .gt 21, 3) := by decide +kernel
theorem dX6_doubles_275 : decode cX6_doubles 275 = .ok (.iload 12, 2) := by decide +kernel
theorem dX6_doubles_277 : decode cX6_doubles 277 = .ok (.aload_n 0, 1) := by decide +kernel
theorem dX6_doubles_278 : decode cX6_doubles 278 = .ok (.getfield 42, 3) := by decide +kernel
theorem dX6_doubles_281 : decode cX6_doubles 281 = .ok (.iload 13, 2) := by decide +kernel
theorem dX6_doubles_283 : decode cX6_doubles 283 = .ok (.iaload, 1) := by decide +kernel
theorem dX6_doubles_284 : decode cX6_doubles 284 = .ok (.iadd, 1) := by decide +kernel
theorem dX6_doubles_285 : decode cX6_doubles 285 = .ok (.iload_n 3, 1) := by decide +kernel
theorem dX6_doubles_286 : decode cX6_doubles 286 = .ok (.if_icmp .gt 7, 3) := by decide +kernel
theorem dX6_doubles_289 : decode cX6_doubles 289 = .ok (.iconst 1, 1) := by decide +kernel
theorem dX6_doubles_290 : decode cX6_doubles 290 = .ok (.goto 4, 3) := by decide +kernel
theorem dX6_doubles_293 : decode cX6_doubles 293 = .ok (.iconst 0, 1) := by decide +kernel
theorem dX6_doubles_294 : decode cX6_doubles 294 = .ok (.istore 15, 2) := by decide +kernel
theorem dX6_doubles_296 : decode cX6_doubles 296 = .ok (.iload 15, 2) := by decide +kernel
theorem dX6_doubles_298 : decode cX6_doubles 298 = .ok (.ifCond .eq 67, 3) := by decide +kernel
theorem dX6_doubles_301 : decode cX6_doubles 301 = .ok (.iload 10, 2) := by decide +kernel
theorem dX6_doubles_303 : decode cX6_doubles 303 = .ok (.aload_n 0, 1) := by decide +kernel
theorem dX6_doubles_304 : decode cX6_doubles 304 = .ok (.getfield 22, 3) := by decide +kernel
theorem dX6_doubles_307 : decode cX6_doubles 307 = .ok (.iload 13, 2) := by decide +kernel
theorem dX6_doubles_309 : decode cX6_doubles 309 = .ok (.iaload, 1) := by decide +kernel
theorem dX6_doubles_310 : decode cX6_doubles 310 = .ok (.iadd, 1) := by decide +kernel
theorem dX6_doubles_311 : decode cX6_doubles 311 = .ok (.iload_n 1, 1) := by decide +kernel
theorem dX6_doubles_312 : decode cX6_doubles 312 = .ok (.if_icmp .ge 53, 3) := by decide +kernel
theorem dX6_doubles_315 : decode cX6_doubles 315 = .ok (.iload 10, 2) := by decide +kernel
theorem dX6_doubles_317 : decode cX6_doubles 317 = .ok (.aload_n 0, 1) := by decide +kernel
theorem dX6_doubles_318 : decode cX6_doubles 318 = .ok (.getfield 22, 3) := by decide +kernel
theorem dX6_doubles_321 : decode cX6_doubles 321 = .ok (.iload 13, 2) := by decide +kernel
theorem dX6_doubles_323 : decode cX6_doubles 323 = .ok (.iaload, 1) := by decide +kernel
theorem dX6_doubles_324 : decode cX6_doubles 324 = .ok (.iadd, 1) := by decide +kernel
theorem dX6_doubles_325 : decode cX6_doubles 325 = .ok (.istore 10, 2) := by decide +kernel
theorem dX6_doubles_327 : decode cX6_doubles 327 = .ok (.iload 11, 2) := by decide +kernel
theorem dX6_doubles_329 : decode cX6_doubles 329 = .ok (.aload_n 0, 1) := by decide +kernel
theorem dX6_doubles_330 : decode cX6_doubles 330 = .ok (.getfield 39, 3) := by decide +kernel
theorem dX6_doubles_333 : decode cX6_doubles 333 = .ok (.iload 13, 2) := by decide +kernel
theorem dX6_doubles_335 : decode cX6_doubles 335 = .ok (.iaload, 1) := by decide +kernel
theorem dX6_doubles_336 : decode cX6_doubles 336 = .ok (.iadd, 1) := by decide +kernel
theorem dX6_doubles_337 : decode cX6_doubles 337 = .ok (.istore 11, 2) := by decide +kernel
theorem dX6_doubles_339 : decode cX6_doubles 339 = .ok (.iload 12, 2) := by decide +kernel
theorem dX6_doubles_341 : decode cX6_doubles 341 = .ok (.aload_n 0, 1) := by decide +kernel
theorem dX6_doubles_342 : decode cX6_doubles 342 = .ok (.getfield 42, 3) := by decide +kernel
theorem dX6_doubles_345 : decode cX6_doubles 345 = .ok (.iload 13, 2) := by decide +kernel
theorem dX6_doubles_347 : decode cX6_doubles 347 = .ok (.iaload, 1) := by decide +kernel
theorem dX6_doubles_348 : decode cX6_doubles 348 = .ok (.iadd, 1) := by decide +kernel
theorem dX6_doubles_349 : decode cX6_doubles 349 = .ok (.istore 12, 2) := by decide +kernel
theorem dX6_doubles_351 : decode cX6_doubles 351 = .ok (.aload_n 0, 1) := by decide +kernel
theorem dX6_doubles_352 : decode cX6_doubles 352 = .ok (.getfield 45, 3) := by decide +kernel
theorem dX6_doubles_355 : decode cX6_doubles 355 = .ok (.iload 9, 2) := by decide +kernel
theorem dX6_doubles_357 : decode cX6_doubles 357 = .ok (.iconst 0, 1) := by decide +kernel
theorem dX6_doubles_358 : decode cX6_doubles 358 = .ok (.iastore, 1) := by decide +kernel
theorem dX6_doubles_359 : decode cX6_doubles 359 = .ok (.iinc 9 1, 3) := by decide +kernel
theorem dX6_doubles_362 : decode cX6_doubles 362 = .ok (.goto 59, 3) := by decide +kernel
theorem dX6_doubles_365 : decode cX6_doubles 365 = .ok (.lload 7, 2) := by decide +kernel
theorem dX6_doubles_367 : decode cX6_doubles 367 = .ok (.iload 15, 2) := by decide +kernel
theorem dX6_doubles_369 : decode cX6_doubles 369 = .ok (.ifCond .eq 35, 3) := by decide +kernel
theorem dX6_doubles_372 : decode cX6_doubles 372 = .ok (.iload 11, 2) := by decide +kernel
theorem dX6_doubles_374 : decode cX6_doubles 374 = .ok (.aload_n 0, 1) := by decide +kernel
theorem dX6_doubles_375 : decode cX6_doubles 375 = .ok (.getfield 39, 3) := by decide +kernel
theorem dX6_doubles_378 : decode cX6_doubles 378 = .ok (.iload 13, 2) := by decide +kernel
theorem dX6_doubles_380 : decode cX6_doubles 380 = .ok (.iaload, 1) := by decide +kernel
theorem dX6_doubles_381 : decode cX6_doubles 381 = .ok (.iadd, 1) := by decide +kernel
theorem dX6_doubles_382 : decode cX6_doubles 382 = .ok (.iload_n 2, 1) := by decide +kernel
theorem dX6_doubles_383 : decode cX6_doubles 383 = .ok (.if_icmp .ne 21, 3) := by decide +kernel
theorem dX6_doubles_386 : decode cX6_doubles 386 = .ok (.iload 12, 2) := by decide +kernel
theorem dX6_doubles_388 : decode cX6_doubles 388 = .ok (.aload_n 0, 1) := by decide +kernel
theorem dX6_doubles_389 : decode cX6_doubles 389 = .ok (.getfield 42, 3) := by decide +kernel
theorem dX6_doubles_392 : decode cX6_doubles 392 = .ok (.iload 13, 2) := by decide +kernel
theorem dX6_doubles_394 : decode cX6_doubles 394 = .ok (.iaload, 1) := by decide +kernel
theorem dX6_doubles_395 : decode cX6_doubles 395 = .ok (.iadd, 1) := by decide +kernel
theorem dX6_doubles_396 : decode cX6_doubles 396 = .ok (.iload_n 3, 1) := by decide +kernel
theorem dX6_doubles_397 : decode cX6_doubles 397 = .ok (.if_icmp .ne 7, 3) := by decide +kernel
theorem dX6_doubles_400 : decode cX6_doubles 400 = .ok (.lconst 1, 1) := by decide +kernel
theorem dX6_doubles_401 : decode cX6_doubles 401 = .ok (.goto 4, 3) := by decide +kernel
theorem dX6_doubles_404 : decode cX6_doubles 404 = .ok (.lconst 0, 1) := by decide +kernel
theorem dX6_doubles_405 : decode cX6_doubles 405 = .ok (.ladd, 1) := by decide +kernel
theorem dX6_doubles_406 : decode cX6_doubles 406 = .ok (.lstore 7, 2) := by decide +kernel
theorem dX6_doubles_408 : decode cX6_doubles 408 = .ok (.aload_n 0, 1) := by decide +kernel
theorem dX6_doubles_409 : decode cX6_doubles 409 = .ok (.getfield 45, 3) := by decide +kernel
theorem dX6_doubles_412 : decode cX6_doubles 412 = .ok (.iload 9, 2) := by decide +kernel
theorem dX6_doubles_414 : decode cX6_doubles 414 = .ok (.iconst 1, 1) := by decide +kernel
theorem dX6_doubles_415 : decode cX6_doubles 415 = .ok (.isub, 1) := by decide +kernel
theorem dX6_doubles_416 : decode cX6_doubles 416 = .ok (.dup2, 1) := by decide +kernel
theorem dX6_doubles_417 : decode cX6_doubles 417 = .ok (.iaload, 1) := by decide +kernel
theorem dX6_doubles_418 : decode cX6_doubles 418 = .ok (.iconst 1, 1) := by decide +kernel
theorem dX6_doubles_419 : decode cX6_doubles 419 = .ok (.iadd, 1) := by decide +kernel
theorem dX6_doubles_420 : decode cX6_doubles 420 = .ok (.iastore, 1) := by decide +kernel
theorem dX6_doubles_421 : decode cX6_doubles 421 = .ok (.goto (-307), 3) := by decide +kernel
theorem dX6_doubles_424 : decode cX6_doubles 424 = .ok (.lload 7, 2) := by decide +kernel
theorem dX6_doubles_426 : decode cX6_doubles 426 = .ok (.lreturn, 1) := by decide +kernel
theorem dX6_parts_0 : decode cX6_parts 0 = .ok (.aload_n 0, 1) := by decide +kernel
theorem dX6_parts_1 : decode cX6_parts 1 = .ok (.iconst 0, 1) := by decide +kernel
theorem dX6_parts_2 : decode cX6_parts 2 = .ok (.putfield 154, 3) := by decide +kernel
theorem dX6_parts_5 : decode cX6_parts 5 = .ok (.iconst 0, 1) := by decide +kernel
theorem dX6_parts_6 : decode cX6_parts 6 = .ok (.istore_n 1, 1) := by decide +kernel
theorem dX6_parts_7 : decode cX6_parts 7 = .ok (.iload_n 1, 1) := by decide +kernel
theorem dX6_parts_8 : decode cX6_parts 8 = .ok (.aload_n 0, 1) := by decide +kernel
theorem dX6_parts_9 : decode cX6_parts 9 = .ok (.getfield 117, 3) := by decide +kernel
theorem dX6_parts_12 : decode cX6_parts 12 = .ok (.if_icmp .ge 82, 3) := by decide +kernel
theorem dX6_parts_15 : decode cX6_parts 15 = .ok (.aload_n 0, 1) := by decide +kernel
theorem dX6_parts_16 : decode cX6_parts 16 = .ok (.getfield 13, 3) := by decide +kernel
theorem dX6_parts_19 : decode cX6_parts 19 = .ok (.iload_n 1, 1) := by decide +kernel
theorem dX6_parts_20 : decode cX6_parts 20 = .ok (.iaload, 1) := by decide +kernel
theorem dX6_parts_21 : decode cX6_parts 21 = .ok (.bipush 32, 2) := by decide +kernel
theorem dX6_parts_23 : decode cX6_parts 23 = .ok (.if_icmp .eq 65, 3) := by decide +kernel
theorem dX6_parts_26 : decode cX6_parts 26 = .ok (.iload_n 1, 1) := by decide +kernel
theorem dX6_parts_27 : decode cX6_parts 27 = .ok (.ifCond .eq 16, 3) := by decide +kernel
theorem dX6_parts_30 : decode cX6_parts 30 = .ok (.aload_n 0, 1) := by decide +kernel
theorem dX6_parts_31 : decode cX6_parts 31 = .ok (.getfield 13, 3) := by decide +kernel
theorem dX6_parts_34 : decode cX6_parts 34 = .ok (.iload_n 1, 1) := by decide +kernel
theorem dX6_parts_35 : decode cX6_parts 35 = .ok (.iconst 1, 1) := by decide +kernel
theorem dX6_parts_36 : decode cX6_parts 36 = .ok (.isub, 1) := by decide +kernel
theorem dX6_parts_37 : decode cX6_parts 37 = .ok (.iaload, 1) := by decide +kernel
theorem dX6_parts_38 : decode cX6_parts 38 = .ok (.bipush 32, 2) := by decide +kernel
theorem dX6_parts_40 : decode cX6_parts 40 = .ok (.if_icmp .ne 33, 3) := by decide +kernel
theorem dX6_parts_43 : decode cX6_parts 43 = .ok (.aload_n 0, 1) := by decide +kernel
theorem dX6_parts_44 : decode cX6_parts 44 = .ok (.getfield 48, 3) := by decide +kernel
theorem dX6_parts_47 : decode cX6_parts 47 = .ok (.aload_n 0, 1) := by decide +kernel
theorem dX6_parts_48 : decode cX6_parts 48 = .ok (.getfield 154, 3) := by decide +kernel
theorem dX6_parts_51 : decode cX6_parts 51 = .ok (.iload_n 1, 1) := by decide +kernel
theorem dX6_parts_52 : decode cX6_parts 52 = .ok (.iastore, 1) := by decide +kernel
theorem dX6_parts_53 : decode cX6_parts 53 = .ok (.aload_n 0, 1) := by decide +kernel
theorem dX6_parts_54 : decode cX6_parts 54 = .ok (.getfield 51, 3) := by decide +kernel
theorem dX6_parts_57 : decode cX6_parts 57 = .ok (.aload_n 0, 1) := by decide +kernel
theorem dX6_parts_58 : decode cX6_parts 58 = .ok (.getfield 154, 3) := by decide +kernel
theorem dX6_parts_61 : decode cX6_parts 61 = .ok (.iconst 0, 1) := by decide +kernel
theorem dX6_parts_62 : decode cX6_parts 62 = .ok (.iastore, 1) := by decide +kernel
theorem dX6_parts_63 : decode cX6_parts 63 = .ok (.aload_n 0, 1) := by decide +kernel
theorem dX6_parts_64 : decode cX6_parts 64 = .ok (.dup, 1) := by decide +kernel
theorem dX6_parts_65 : decode cX6_parts 65 = .ok (.getfield 154, 3) := by decide +kernel
theorem dX6_parts_68 : decode cX6_parts 68 = .ok (.iconst 1, 1) := by decide +kernel
theorem dX6_parts_69 : decode cX6_parts 69 = .ok (.iadd, 1) := by decide +kernel
theorem dX6_parts_70 : decode cX6_parts 70 = .ok (.putfield 154, 3) := by decide +kernel
theorem dX6_parts_73 : decode cX6_parts 73 = .ok (.aload_n 0, 1) := by decide +kernel
theorem dX6_parts_74 : decode cX6_parts 74 = .ok (.getfield 51, 3) := by decide +kernel
theorem dX6_parts_77 : decode cX6_parts 77 = .ok (.aload_n 0, 1) := by decide +kernel
theorem dX6_parts_78 : decode cX6_parts 78 = .ok (.getfield 154, 3) := by decide +kernel
theorem dX6_parts_81 : decode cX6_parts 81 = .ok (.iconst 1, 1) := by decide +kernel
theorem dX6_parts_82 : decode cX6_parts 82 = .ok (.isub, 1) := by decide +kernel
theorem dX6_parts_83 : decode cX6_parts 83 = .ok (.dup2, 1) := by decide +kernel
theorem dX6_parts_84 : decode cX6_parts 84 = .ok (.iaload, 1) := by decide +kernel
theorem dX6_parts_85 : decode cX6_parts 85 = .ok (.iconst 1, 1) := by decide +kernel
theorem dX6_parts_86 : decode cX6_parts 86 = .ok (.iadd, 1) := by decide +kernel
theorem dX6_parts_87 : decode cX6_parts 87 = .ok (.iastore, 1) := by decide +kernel
theorem dX6_parts_88 : decode cX6_parts 88 = .ok (.iinc 1 1, 3) := by decide +kernel
theorem dX6_parts_91 : decode cX6_parts 91 = .ok (.goto (-84), 3) := by decide +kernel
theorem dX6_parts_94 : decode cX6_parts 94 = .ok (.return_, 1) := by decide +kernel
theorem dX6_isFit_0 : decode cX6_isFit 0 = .ok (.aload_n 0, 1) := by decide +kernel
theorem dX6_isFit_1 : decode cX6_isFit 1 = .ok (.getfield 19, 3) := by decide +kernel
theorem dX6_isFit_4 : decode cX6_isFit 4 = .ok (.iload_n 1, 1) := by decide +kernel
theorem dX6_isFit_5 : decode cX6_isFit 5 = .ok (.iaload, 1) := by decide +kernel
theorem dX6_isFit_6 : decode cX6_isFit 6 = .ok (.aload_n 0, 1) := by decide +kernel
theorem dX6_isFit_7 : decode cX6_isFit 7 = .ok (.getfield 51, 3) := by decide +kernel
theorem dX6_isFit_10 : decode cX6_isFit 10 = .ok (.iload_n 2, 1) := by decide +kernel
theorem dX6_isFit_11 : decode cX6_isFit 11 = .ok (.iaload, 1) := by decide +kernel
theorem dX6_isFit_12 : decode cX6_isFit 12 = .ok (.if_icmp .ne 7, 3) := by decide +kernel
theorem dX6_isFit_15 : decode cX6_isFit 15 = .ok (.iconst 1, 1) := by decide +kernel
theorem dX6_isFit_16 : decode cX6_isFit 16 = .ok (.goto 4, 3) := by decide +kernel
theorem dX6_isFit_19 : decode cX6_isFit 19 = .ok (.iconst 0, 1) := by decide +kernel
theorem dX6_isFit_20 : decode cX6_isFit 20 = .ok (.istore_n 3, 1) := by decide +kernel
theorem dX6_isFit_21 : decode cX6_isFit 21 = .ok (.iconst 0, 1) := by decide +kernel
theorem dX6_isFit_22 : decode cX6_isFit 22 = .ok (.istore 4, 2) := by decide +kernel
theorem dX6_isFit_24 : decode cX6_isFit 24 = .ok (.iload 4, 2) := by decide +kernel
theorem dX6_isFit_26 : decode cX6_isFit 26 = .ok (.aload_n 0, 1) := by decide +kernel
theorem dX6_isFit_27 : decode cX6_isFit 27 = .ok (.getfield 19, 3) := by decide +kernel
theorem dX6_isFit_30 : decode cX6_isFit 30 = .ok (.iload_n 1, 1) := by decide +kernel
theorem dX6_isFit_31 : decode cX6_isFit 31 = .ok (.iaload, 1) := by decide +kernel
theorem dX6_isFit_32 : decode cX6_isFit 32 = .ok (.if_icmp .ge 59, 3) := by decide +kernel
theorem dX6_isFit_35 : decode cX6_isFit 35 = .ok (.iload_n 3, 1) := by decide +kernel
theorem dX6_isFit_36 : decode cX6_isFit 36 = .ok (.ifCond .eq 55, 3) := by decide +kernel
theorem dX6_isFit_39 : decode cX6_isFit 39 = .ok (.aload_n 0, 1) := by decide +kernel
theorem dX6_isFit_40 : decode cX6_isFit 40 = .ok (.getfield 13, 3) := by decide +kernel
theorem dX6_isFit_43 : decode cX6_isFit 43 = .ok (.aload_n 0, 1) := by decide +kernel
theorem dX6_isFit_44 : decode cX6_isFit 44 = .ok (.getfield 48, 3) := by decide +kernel
theorem dX6_isFit_47 : decode cX6_isFit 47 = .ok (.iload_n 2, 1) := by decide +kernel
theorem dX6_isFit_48 : decode cX6_isFit 48 = .ok (.iaload, 1) := by decide +kernel
theorem dX6_isFit_49 : decode cX6_isFit 49 = .ok (.iload 4, 2) := by decide +kernel
theorem dX6_isFit_51 : decode cX6_isFit 51 = .ok (.iadd, 1) := by decide +kernel
theorem dX6_isFit_52 : decode cX6_isFit 52 = .ok (.iaload, 1) := by decide +kernel
theorem dX6_isFit_53 : decode cX6_isFit 53 = .ok (.istore 5, 2) := by decide +kernel
theorem dX6_isFit_55 : decode cX6_isFit 55 = .ok (.iload 5, 2) := by decide +kernel
theorem dX6_isFit_57 : decode cX6_isFit 57 = .ok (.bipush 63, 2) := by decide +kernel
theorem dX6_isFit_59 : decode cX6_isFit 59 = .ok (.if_icmp .eq 20, 3) := by decide +kernel
theorem dX6_isFit_62 : decode cX6_isFit 62 = .ok (.iload 5, 2) := by decide +kernel
theorem dX6_isFit_64 : decode cX6_isFit 64 = .ok (.aload_n 0, 1) := by decide +kernel
theorem dX6_isFit_65 : decode cX6_isFit 65 = .ok (.getfield 16, 3) := by decide +kernel
theorem dX6_isFit_68 : decode cX6_isFit 68 = .ok (.bipush 8, 2) := by decide +kernel
theorem dX6_isFit_70 : decode cX6_isFit 70 = .ok (.iload_n 1, 1) := by decide +kernel
theorem dX6_isFit_71 : decode cX6_isFit 71 = .ok (.imul, 1) := by decide +kernel
theorem dX6_isFit_72 : decode cX6_isFit 72 = .ok (.iload 4, 2) := by decide +kernel
theorem dX6_isFit_74 : decode cX6_isFit 74 = .ok (.iadd, 1) := by decide +kernel
theorem dX6_isFit_75 : decode cX6_isFit 75 = .ok (.iaload, 1) := by decide +kernel
theorem dX6_isFit_76 : decode cX6_isFit 76 = .ok (.if_icmp .ne 7, 3) := by decide +kernel
theorem dX6_isFit_79 : decode cX6_isFit 79 = .ok (.iconst 1, 1) := by decide +kernel
theorem dX6_isFit_80 : decode cX6_isFit 80 = .ok (.goto 4, 3) := by decide +kernel
theorem dX6_isFit_83 : decode cX6_isFit 83 = .ok (.iconst 0, 1) := by decide +kernel
theorem dX6_isFit_84 : decode cX6_isFit 84 = .ok (.istore_n 3, 1) := by decide +kernel
theorem dX6_isFit_85 : decode cX6_isFit 85 = .ok (.iinc 4 1, 3) := by decide +kernel
theorem dX6_isFit_88 : decode cX6_isFit 88 = .ok (.goto (-64), 3) := by decide +kernel
theorem dX6_isFit_91 : decode cX6_isFit 91 = .ok (.iload_n 3, 1) := by decide +kernel
theorem dX6_isFit_92 : decode cX6_isFit 92 = .ok (.ireturn, 1) := by decide +kernel
set_option maxRecDepth 20000 in
theorem ggX6_fit_X6_parts : GoodIn wsX6_fit wsX6_parts := goodIn_r _ [8, 2, 9, 10, 11, 12, 22, 23, 24, 25, 26, 27, 28, 29, 30, 31, 32, 33, 34, 35, 36, 37, 38, 39, 40, 41, 42, 43, 44] (by decide +kernel) (by decide +kernel)
set_option maxRecDepth 20000 in
theorem gX6_fit_X6_parts : GoodIn wsX6_fit (wsV RX6 157 RX6 yX6_parts wsX6_parts) := goodIn_app (goodIn_of _ (by decide +kernel)) ggX6_fit_X6_parts
set_option maxRecDepth 20000 in
theorem ggX6_fit_X6_in : GoodIn wsX6_fit wsX6_in := goodIn_r _ [15] (by decide +kernel) (by decide +kernel)
set_option maxRecDepth 20000 in
theorem gX6_fit_X6_in : GoodIn wsX6_fit (va_wsS RX6 73 yX6_in wsX6_in) := goodIn_app (goodIn_of _ (by decide +kernel)) ggX6_fit_X6_in
set_option maxRecDepth 20000 in
theorem ggX6_fit_X6_isFit : GoodIn wsX6_fit wsX6_isFit := goodIn_r _ [19, 20, 12, 10, 11, 21, 22, 23, 24, 25, 26, 27, 28, 29, 30, 31, 32, 33, 34, 35, 36, 37, 38, 39, 40, 41, 42, 43, 44] (by decide +kernel) (by decide +kernel)
set_option maxRecDepth 20000 in
theorem gX6_fit_X6_isFit : GoodIn wsX6_fit (wsV RX6 159 RX6 yX6_isFit wsX6_isFit) := goodIn_app (goodIn_of _ (by decide +kernel)) ggX6_fit_X6_isFit
theorem dX6_fit_0 : decode cX6_fit 0 = .ok (.aload_n 0, 1) := by decide +kernel
theorem dX6_fit_1 : decode cX6_fit 1 = .ok (.iconst 0, 1) := by decide +kernel
theorem dX6_fit_2 : decode cX6_fit 2 = .ok (.putfield 67, 3) := by decide +kernel
theorem dX6_fit_5 : decode cX6_fit 5 = .ok (.aload_n 0, 1) := by decide +kernel
theorem dX6_fit_6 : decode cX6_fit 6 = .ok (.invokevirtual 157, 3) := by decide +kernel
theorem dX6_fit_9 : decode cX6_fit 9 = .ok (.iload_n 1, 1) := by decide +kernel
theorem dX6_fit_10 : decode cX6_fit 10 = .ok (.i2l, 1) := by decide +kernel
theorem dX6_fit_11 : decode cX6_fit 11 = .ok (.lconst 0, 1) := by decide +kernel
theorem dX6_fit_12 : decode cX6_fit 12 = .ok (.aload_n 0, 1) := by decide +kernel
theorem dX6_fit_13 : decode cX6_fit 13 = .ok (.getfield 154, 3) := by decide +kernel
theorem dX6_fit_16 : decode cX6_fit 16 = .ok (.iconst 1, 1) := by decide +kernel
theorem dX6_fit_17 : decode cX6_fit 17 = .ok (.isub, 1) := by decide +kernel
theorem dX6_fit_18 : decode cX6_fit 18 = .ok (.i2l, 1) := by decide +kernel
theorem dX6_fit_19 : decode cX6_fit 19 = .ok (.invokestatic 73, 3) := by decide +kernel
theorem dX6_fit_22 : decode cX6_fit 22 = .ok (.ifCond .ne 5, 3) := by decide +kernel
theorem dX6_fit_25 : decode cX6_fit 25 = .ok (.iconst (-1), 1) := by decide +kernel
theorem dX6_fit_26 : decode cX6_fit 26 = .ok (.ireturn, 1) := by decide +kernel
theorem dX6_fit_27 : decode cX6_fit 27 = .ok (.iconst 0, 1) := by decide +kernel
theorem dX6_fit_28 : decode cX6_fit 28 = .ok (.istore_n 2, 1) := by decide +kernel
theorem dX6_fit_29 : decode cX6_fit 29 = .ok (.iconst 0, 1) := by decide +kernel
theorem dX6_fit_30 : decode cX6_fit 30 = .ok (.istore_n 3, 1) := by decide +kernel
theorem dX6_fit_31 : decode cX6_fit 31 = .ok (.iload_n 3, 1) := by decide +kernel
theorem dX6_fit_32 : decode cX6_fit 32 = .ok (.aload_n 0, 1) := by decide +kernel
theorem dX6_fit_33 : decode cX6_fit 33 = .ok (.getfield 124, 3) := by decide +kernel
theorem dX6_fit_36 : decode cX6_fit 36 = .ok (.if_icmp .ge 26, 3) := by decide +kernel
theorem dX6_fit_39 : decode cX6_fit 39 = .ok (.iload_n 2, 1) := by decide +kernel
theorem dX6_fit_40 : decode cX6_fit 40 = .ok (.aload_n 0, 1) := by decide +kernel
theorem dX6_fit_41 : decode cX6_fit 41 = .ok (.iload_n 3, 1) := by decide +kernel
theorem dX6_fit_42 : decode cX6_fit 42 = .ok (.iload_n 1, 1) := by decide +kernel
theorem dX6_fit_43 : decode cX6_fit 43 = .ok (.invokevirtual 159, 3) := by decide +kernel
theorem dX6_fit_46 : decode cX6_fit 46 = .ok (.ifCond .eq 7, 3) := by decide +kernel
theorem dX6_fit_49 : decode cX6_fit 49 = .ok (.iconst 1, 1) := by decide +kernel
theorem dX6_fit_50 : decode cX6_fit 50 = .ok (.goto 4, 3) := by decide +kernel
theorem dX6_fit_53 : decode cX6_fit 53 = .ok (.iconst 0, 1) := by decide +kernel
theorem dX6_fit_54 : decode cX6_fit 54 = .ok (.iadd, 1) := by decide +kernel
theorem dX6_fit_55 : decode cX6_fit 55 = .ok (.istore_n 2, 1) := by decide +kernel
theorem dX6_fit_56 : decode cX6_fit 56 = .ok (.iinc 3 1, 3) := by decide +kernel
theorem dX6_fit_59 : decode cX6_fit 59 = .ok (.goto (-28), 3) := by decide +kernel
theorem dX6_fit_62 : decode cX6_fit 62 = .ok (.iload_n 2, 1) := by decide +kernel
theorem dX6_fit_63 : decode cX6_fit 63 = .ok (.ireturn, 1) := by decide +kernel
set_option maxRecDepth 20000 in
theorem ggX6_readings_X6_parts : GoodIn wsX6_readings wsX6_parts := goodIn_r _ [13, 2, 14, 15, 16, 17, 29, 30, 31, 32, 33, 34, 35, 36, 37, 38, 39, 40, 41, 42, 43, 44, 45, 46, 47, 48, 49, 50, 51] (by decide +kernel) (by decide +kernel)
set_option maxRecDepth 20000 in
theorem gX6_readings_X6_parts : GoodIn wsX6_readings (wsV RX6 157 RX6 yX6_parts wsX6_parts) := goodIn_app (goodIn_of _ (by decide +kernel)) ggX6_readings_X6_parts
set_option maxRecDepth 20000 in
theorem ggX6_readings_X6_isFit : GoodIn wsX6_readings wsX6_isFit := goodIn_r _ [21, 22, 17, 15, 16, 23, 29, 30, 31, 32, 33, 34, 35, 36, 37, 38, 39, 40, 41, 42, 43, 44, 45, 46, 47, 48, 49, 50, 51] (by decide +kernel) (by decide +kernel)
set_option maxRecDepth 20000 in
theorem gX6_readings_X6_isFit : GoodIn wsX6_readings (wsV RX6 159 RX6 yX6_isFit wsX6_isFit) := goodIn_app (goodIn_of _ (by decide +kernel)) ggX6_readings_X6_isFit
set_option maxRecDepth 20000 in
theorem ggX6_readings_X6_isAfter : GoodIn wsX6_readings wsX6_isAfter := goodIn_r _ [27, 28, 6, 29, 30, 31, 32, 33, 34, 35, 36, 37, 38, 39, 40, 41, 42, 43, 44, 45, 46, 47, 48, 49, 50, 51] (by decide +kernel) (by decide +kernel)
set_option maxRecDepth 20000 in
theorem gX6_readings_X6_isAfter : GoodIn wsX6_readings (wsV RX6 131 RX6 yX6_isAfter wsX6_isAfter) := goodIn_app (goodIn_of _ (by decide +kernel)) ggX6_readings_X6_isAfter
theorem dX6_readings_0 : decode cX6_readings 0 = .ok (.aload_n 0, 1) := by decide +kernel
theorem dX6_readings_1 : decode cX6_readings 1 = .ok (.iconst 0, 1) := by decide +kernel
theorem dX6_readings_2 : decode cX6_readings 2 = .ok (.putfield 67, 3) := by decide +kernel
theorem dX6_readings_5 : decode cX6_readings 5 = .ok (.aload_n 0, 1) := by decide +kernel
theorem dX6_readings_6 : decode cX6_readings 6 = .ok (.invokevirtual 157, 3) := by decide +kernel
theorem dX6_readings_9 : decode cX6_readings 9 = .ok (.aload_n 0, 1) := by decide +kernel
theorem dX6_readings_10 : decode cX6_readings 10 = .ok (.getfield 154, 3) := by decide +kernel
theorem dX6_readings_13 : decode cX6_readings 13 = .ok (.ifCond .ne 6, 3) := by decide +kernel
theorem dX6_readings_16 : decode cX6_readings 16 = .ok (.bipush (-2), 2) := by decide +kernel
theorem dX6_readings_18 : decode cX6_readings 18 = .ok (.ireturn, 1) := by decide +kernel
theorem dX6_readings_19 : decode cX6_readings 19 = .ok (.iconst 0, 1) := by decide +kernel
theorem dX6_readings_20 : decode cX6_readings 20 = .ok (.istore_n 1, 1) := by decide +kernel
theorem dX6_readings_21 : decode cX6_readings 21 = .ok (.iload_n 1, 1) := by decide +kernel
theorem dX6_readings_22 : decode cX6_readings 22 = .ok (.iconst 4, 1) := by decide +kernel
theorem dX6_readings_23 : decode cX6_readings 23 = .ok (.if_icmp .ge 25, 3) := by decide +kernel
theorem dX6_readings_26 : decode cX6_readings 26 = .ok (.aload_n 0, 1) := by decide +kernel
theorem dX6_readings_27 : decode cX6_readings 27 = .ok (.getfield 61, 3) := by decide +kernel
theorem dX6_readings_30 : decode cX6_readings 30 = .ok (.iload_n 1, 1) := by decide +kernel
theorem dX6_readings_31 : decode cX6_readings 31 = .ok (.iload_n 1, 1) := by decide +kernel
theorem dX6_readings_32 : decode cX6_readings 32 = .ok (.iconst 3, 1) := by decide +kernel
theorem dX6_readings_33 : decode cX6_readings 33 = .ok (.if_icmp .ne 7, 3) := by decide +kernel
theorem dX6_readings_36 : decode cX6_readings 36 = .ok (.lconst 1, 1) := by decide +kernel
theorem dX6_readings_37 : decode cX6_readings 37 = .ok (.goto 4, 3) := by decide +kernel
theorem dX6_readings_40 : decode cX6_readings 40 = .ok (.lconst 0, 1) := by decide +kernel
theorem dX6_readings_41 : decode cX6_readings 41 = .ok (.lastore, 1) := by decide +kernel
theorem dX6_readings_42 : decode cX6_readings 42 = .ok (.iinc 1 1, 3) := by decide +kernel
theorem dX6_readings_45 : decode cX6_readings 45 = .ok (.goto (-24), 3) := by decide +kernel
theorem dX6_readings_48 : decode cX6_readings 48 = .ok (.iconst 0, 1) := by decide +kernel
theorem dX6_readings_49 : decode cX6_readings 49 = .ok (.istore_n 1, 1) := by decide +kernel
theorem dX6_readings_50 : decode cX6_readings 50 = .ok (.iload_n 1, 1) := by decide +kernel
theorem dX6_readings_51 : decode cX6_readings 51 = .ok (.aload_n 0, 1) := by decide +kernel
theorem dX6_readings_52 : decode cX6_readings 52 = .ok (.getfield 154, 3) := by decide +kernel
theorem dX6_readings_55 : decode cX6_readings 55 = .ok (.if_icmp .ge 144, 3) := by decide +kernel
theorem dX6_readings_58 : decode cX6_readings 58 = .ok (.iconst 0, 1) := by decide +kernel
theorem dX6_readings_59 : decode cX6_readings 59 = .ok (.istore_n 2, 1) := by decide +kernel
theorem dX6_readings_60 : decode cX6_readings 60 = .ok (.iload_n 2, 1) := by decide +kernel
theorem dX6_readings_61 : decode cX6_readings 61 = .ok (.iconst 4, 1) := by decide +kernel
theorem dX6_readings_62 : decode cX6_readings 62 = .ok (.if_icmp .ge 16, 3) := by decide +kernel
theorem dX6_readings_65 : decode cX6_readings 65 = .ok (.aload_n 0, 1) := by decide +kernel
theorem dX6_readings_66 : decode cX6_readings 66 = .ok (.getfield 64, 3) := by decide +kernel
theorem dX6_readings_69 : decode cX6_readings 69 = .ok (.iload_n 2, 1) := by decide +kernel
theorem dX6_readings_70 : decode cX6_readings 70 = .ok (.lconst 0, 1) := by decide +kernel
theorem dX6_readings_71 : decode cX6_readings 71 = .ok (.lastore, 1) := by decide +kernel
theorem dX6_readings_72 : decode cX6_readings 72 = .ok (.iinc 2 1, 3) := by decide +kernel
theorem dX6_readings_75 : decode cX6_readings 75 = .ok (.goto (-15), 3) := by decide +kernel
theorem dX6_readings_78 : decode cX6_readings 78 = .ok (.iconst 0, 1) := by decide +kernel
theorem dX6_readings_79 : decode cX6_readings 79 = .ok (.istore_n 2, 1) := by decide +kernel
theorem dX6_readings_80 : decode cX6_readings 80 = .ok (.iload_n 2, 1) := by decide +kernel
theorem dX6_readings_81 : decode cX6_readings 81 = .ok (.aload_n 0, 1) := by decide +kernel
theorem dX6_readings_82 : decode cX6_readings 82 = .ok (.getfield 124, 3) := by decide +kernel
theorem dX6_readings_85 : decode cX6_readings 85 = .ok (.if_icmp .ge 64, 3) := by decide +kernel
theorem dX6_readings_88 : decode cX6_readings 88 = .ok (.iconst 0, 1) := by decide +kernel
theorem dX6_readings_89 : decode cX6_readings 89 = .ok (.istore_n 3, 1) := by decide +kernel
theorem dX6_readings_90 : decode cX6_readings 90 = .ok (.iload_n 3, 1) := by decide +kernel
theorem dX6_readings_91 : decode cX6_readings 91 = .ok (.iconst 4, 1) := by decide +kernel
theorem dX6_readings_92 : decode cX6_readings 92 = .ok (.if_icmp .ge 51, 3) := by decide +kernel
theorem dX6_readings_95 : decode cX6_readings 95 = .ok (.aload_n 0, 1) := by decide +kernel
theorem dX6_readings_96 : decode cX6_readings 96 = .ok (.iload_n 2, 1) := by decide +kernel
theorem dX6_readings_97 : decode cX6_readings 97 = .ok (.iload_n 1, 1) := by decide +kernel
theorem dX6_readings_98 : decode cX6_readings 98 = .ok (.invokevirtual 159, 3) := by decide +kernel
theorem dX6_readings_101 : decode cX6_readings 101 = .ok (.ifCond .eq 42, 3) := by decide +kernel
theorem dX6_readings_104 : decode cX6_readings 104 = .ok (.aload_n 0, 1) := by decide +kernel
theorem dX6_readings_105 : decode cX6_readings 105 = .ok (.getfield 64, 3) := by decide +kernel
theorem dX6_readings_108 : decode cX6_readings 108 = .ok (.aload_n 0, 1) := by decide +kernel
theorem dX6_readings_109 : decode cX6_readings 109 = .ok (.getfield 25, 3) := by decide +kernel
theorem dX6_readings_112 : decode cX6_readings 112 = .ok (.iload_n 2, 1) := by decide +kernel
theorem dX6_readings_113 : decode cX6_readings 113 = .ok (.iaload, 1) := by decide +kernel
theorem dX6_readings_114 : decode cX6_readings 114 = .ok (.dup2, 1) := by decide +kernel
theorem dX6_readings_115 : decode cX6_readings 115 = .ok (.laload, 1) := by decide +kernel
theorem dX6_readings_116 : decode cX6_readings 116 = .ok (.aload_n 0, 1) := by decide +kernel
theorem dX6_readings_117 : decode cX6_readings 117 = .ok (.iload_n 3, 1) := by decide +kernel
theorem dX6_readings_118 : decode cX6_readings 118 = .ok (.iload_n 2, 1) := by decide +kernel
theorem dX6_readings_119 : decode cX6_readings 119 = .ok (.invokevirtual 131, 3) := by decide +kernel
theorem dX6_readings_122 : decode cX6_readings 122 = .ok (.ifCond .eq 12, 3) := by decide +kernel
theorem dX6_readings_125 : decode cX6_readings 125 = .ok (.aload_n 0, 1) := by decide +kernel
theorem dX6_readings_126 : decode cX6_readings 126 = .ok (.getfield 61, 3) := by decide +kernel
theorem dX6_readings_129 : decode cX6_readings 129 = .ok (.iload_n 3, 1) := by decide +kernel
theorem dX6_readings_130 : decode cX6_readings 130 = .ok (.laload, 1) := by decide +kernel
theorem dX6_readings_131 : decode cX6_readings 131 = .ok (.goto 4, 3) := by decide +kernel
theorem dX6_readings_134 : decode cX6_readings 134 = .ok (.lconst 0, 1) := by decide +kernel
theorem dX6_readings_135 : decode cX6_readings 135 = .ok (.ladd, 1) := by decide +kernel
theorem dX6_readings_136 : decode cX6_readings 136 = .ok (.lastore, 1) := by decide +kernel
theorem dX6_readings_137 : decode cX6_readings 137 = .ok (.iinc 3 1, 3) := by decide +kernel
theorem dX6_readings_140 : decode cX6_readings 140 = .ok (.goto (-50), 3) := by decide +kernel
theorem dX6_readings_143 : decode cX6_readings 143 = .ok (.iinc 2 1, 3) := by decide +kernel
theorem dX6_readings_146 : decode cX6_readings 146 = .ok (.goto (-66), 3) := by decide +kernel
theorem dX6_readings_149 : decode cX6_readings 149 = .ok (.iconst 0, 1) := by decide +kernel
theorem dX6_readings_150 : decode cX6_readings 150 = .ok (.istore_n 2, 1) := by decide +kernel
theorem dX6_readings_151 : decode cX6_readings 151 = .ok (.iload_n 2, 1) := by decide +kernel
theorem dX6_readings_152 : decode cX6_readings 152 = .ok (.iconst 4, 1) := by decide +kernel
theorem dX6_readings_153 : decode cX6_readings 153 = .ok (.if_icmp .ge 40, 3) := by decide +kernel
theorem dX6_readings_156 : decode cX6_readings 156 = .ok (.aload_n 0, 1) := by decide +kernel
theorem dX6_readings_157 : decode cX6_readings 157 = .ok (.getfield 61, 3) := by decide +kernel
theorem dX6_readings_160 : decode cX6_readings 160 = .ok (.iload_n 2, 1) := by decide +kernel
theorem dX6_readings_161 : decode cX6_readings 161 = .ok (.aload_n 0, 1) := by decide +kernel
theorem dX6_readings_162 : decode cX6_readings 162 = .ok (.getfield 64, 3) := by decide +kernel
theorem dX6_readings_165 : decode cX6_readings 165 = .ok (.iload_n 2, 1) := by decide +kernel
theorem dX6_readings_166 : decode cX6_readings 166 = .ok (.laload, 1) := by decide +kernel
theorem dX6_readings_167 : decode cX6_readings 167 = .ok (.ldc2_w 162, 3) := by decide +kernel
theorem dX6_readings_170 : decode cX6_readings 170 = .ok (.lcmp, 1) := by decide +kernel
theorem dX6_readings_171 : decode cX6_readings 171 = .ok (.ifCond .le 9, 3) := by decide +kernel
theorem dX6_readings_174 : decode cX6_readings 174 = .ok (.ldc2_w 162, 3) := by decide +kernel
theorem dX6_readings_177 : decode cX6_readings 177 = .ok (.goto 9, 3) := by decide +kernel
theorem dX6_readings_180 : decode cX6_readings 180 = .ok (.aload_n 0, 1) := by decide +kernel
theorem dX6_readings_181 : decode cX6_readings 181 = .ok (.getfield 64, 3) := by decide +kernel
theorem dX6_readings_184 : decode cX6_readings 184 = .ok (.iload_n 2, 1) := by decide +kernel
theorem dX6_readings_185 : decode cX6_readings 185 = .ok (.laload, 1) := by decide +kernel
theorem dX6_readings_186 : decode cX6_readings 186 = .ok (.lastore, 1) := by decide +kernel
theorem dX6_readings_187 : decode cX6_readings 187 = .ok (.iinc 2 1, 3) := by decide +kernel
theorem dX6_readings_190 : decode cX6_readings 190 = .ok (.goto (-39), 3) := by decide +kernel
theorem dX6_readings_193 : decode cX6_readings 193 = .ok (.iinc 1 1, 3) := by decide +kernel
theorem dX6_readings_196 : decode cX6_readings 196 = .ok (.goto (-146), 3) := by decide +kernel
theorem dX6_readings_199 : decode cX6_readings 199 = .ok (.aload_n 0, 1) := by decide +kernel
theorem dX6_readings_200 : decode cX6_readings 200 = .ok (.getfield 61, 3) := by decide +kernel
theorem dX6_readings_203 : decode cX6_readings 203 = .ok (.iconst 0, 1) := by decide +kernel
theorem dX6_readings_204 : decode cX6_readings 204 = .ok (.laload, 1) := by decide +kernel
theorem dX6_readings_205 : decode cX6_readings 205 = .ok (.aload_n 0, 1) := by decide +kernel
theorem dX6_readings_206 : decode cX6_readings 206 = .ok (.getfield 61, 3) := by decide +kernel
theorem dX6_readings_209 : decode cX6_readings 209 = .ok (.iconst 1, 1) := by decide +kernel
theorem dX6_readings_210 : decode cX6_readings 210 = .ok (.laload, 1) := by decide +kernel
theorem dX6_readings_211 : decode cX6_readings 211 = .ok (.ladd, 1) := by decide +kernel
theorem dX6_readings_212 : decode cX6_readings 212 = .ok (.aload_n 0, 1) := by decide +kernel
theorem dX6_readings_213 : decode cX6_readings 213 = .ok (.getfield 61, 3) := by decide +kernel
theorem dX6_readings_216 : decode cX6_readings 216 = .ok (.iconst 2, 1) := by decide +kernel
theorem dX6_readings_217 : decode cX6_readings 217 = .ok (.laload, 1) := by decide +kernel
theorem dX6_readings_218 : decode cX6_readings 218 = .ok (.ladd, 1) := by decide +kernel
theorem dX6_readings_219 : decode cX6_readings 219 = .ok (.lstore_n 1, 1) := by decide +kernel
theorem dX6_readings_220 : decode cX6_readings 220 = .ok (.lload_n 1, 1) := by decide +kernel
theorem dX6_readings_221 : decode cX6_readings 221 = .ok (.ldc2_w 162, 3) := by decide +kernel
theorem dX6_readings_224 : decode cX6_readings 224 = .ok (.lcmp, 1) := by decide +kernel
theorem dX6_readings_225 : decode cX6_readings 225 = .ok (.ifCond .le 8, 3) := by decide +kernel
theorem dX6_readings_228 : decode cX6_readings 228 = .ok (.ldc 164, 2) := by decide +kernel
theorem dX6_readings_230 : decode cX6_readings 230 = .ok (.goto 5, 3) := by decide +kernel
theorem dX6_readings_233 : decode cX6_readings 233 = .ok (.lload_n 1, 1) := by decide +kernel
theorem dX6_readings_234 : decode cX6_readings 234 = .ok (.l2i, 1) := by decide +kernel
theorem dX6_readings_235 : decode cX6_readings 235 = .ok (.ireturn, 1) := by decide +kernel
set_option maxRecDepth 20000 in
theorem ggX6_yearsOf_X6_owns : GoodIn wsX6_yearsOf wsX6_owns := goodIn_r _ [11, 4, 12, 13, 14, 15, 16, 10, 17, 18, 19, 20, 21, 22, 23, 24, 25, 26, 27, 28, 29, 30, 31, 44, 45, 46, 47, 48, 49, 50, 51, 52, 53, 54, 55, 56, 57, 58, 59, 60, 61, 62, 63, 64, 65, 66] (by decide +kernel) (by decide +kernel)
set_option maxRecDepth 20000 in
theorem gX6_yearsOf_X6_owns : GoodIn wsX6_yearsOf (wsV RX6 134 RX6 yX6_owns wsX6_owns) := goodIn_app (goodIn_of _ (by decide +kernel)) ggX6_yearsOf_X6_owns
set_option maxRecDepth 20000 in
theorem ggX6_yearsOf_X6_isFit : GoodIn wsX6_yearsOf wsX6_isFit := goodIn_r _ [35, 12, 36, 37, 38, 13, 44, 45, 46, 47, 48, 49, 50, 51, 52, 53, 54, 55, 56, 57, 58, 59, 60, 61, 62, 63, 64, 65, 66] (by decide +kernel) (by decide +kernel)
set_option maxRecDepth 20000 in
theorem gX6_yearsOf_X6_isFit : GoodIn wsX6_yearsOf (wsV RX6 159 RX6 yX6_isFit wsX6_isFit) := goodIn_app (goodIn_of _ (by decide +kernel)) ggX6_yearsOf_X6_isFit
set_option maxRecDepth 20000 in
theorem ggX6_yearsOf_X6_isAfter : GoodIn wsX6_yearsOf wsX6_isAfter := goodIn_r _ [42, 43, 5, 44, 45, 46, 47, 48, 49, 50, 51, 52, 53, 54, 55, 56, 57, 58, 59, 60, 61, 62, 63, 64, 65, 66] (by decide +kernel) (by decide +kernel)
set_option maxRecDepth 20000 in
theorem gX6_yearsOf_X6_isAfter : GoodIn wsX6_yearsOf (wsV RX6 131 RX6 yX6_isAfter wsX6_isAfter) := goodIn_app (goodIn_of _ (by decide +kernel)) ggX6_yearsOf_X6_isAfter
theorem dX6_yearsOf_0 : decode cX6_yearsOf 0 = .ok (.aload_n 0, 1) := by decide +kernel
theorem dX6_yearsOf_1 : decode cX6_yearsOf 1 = .ok (.iload_n 1, 1) := by decide +kernel
theorem dX6_yearsOf_2 : decode cX6_yearsOf 2 = .ok (.iload_n 2, 1) := by decide +kernel
theorem dX6_yearsOf_3 : decode cX6_yearsOf 3 = .ok (.aload_n 0, 1) := by decide +kernel
theorem dX6_yearsOf_4 : decode cX6_yearsOf 4 = .ok (.getfield 39, 3) := by decide +kernel
theorem dX6_yearsOf_7 : decode cX6_yearsOf 7 = .ok (.invokevirtual 134, 3) := by decide +kernel
theorem dX6_yearsOf_10 : decode cX6_yearsOf 10 = .ok (.iconst 0, 1) := by decide +kernel
theorem dX6_yearsOf_11 : decode cX6_yearsOf 11 = .ok (.istore_n 3, 1) := by decide +kernel
theorem dX6_yearsOf_12 : decode cX6_yearsOf 12 = .ok (.iload_n 3, 1) := by decide +kernel
theorem dX6_yearsOf_13 : decode cX6_yearsOf 13 = .ok (.aload_n 0, 1) := by decide +kernel
theorem dX6_yearsOf_14 : decode cX6_yearsOf 14 = .ok (.getfield 154, 3) := by decide +kernel
theorem dX6_yearsOf_17 : decode cX6_yearsOf 17 = .ok (.if_icmp .ge 238, 3) := by decide +kernel
theorem dX6_yearsOf_20 : decode cX6_yearsOf 20 = .ok (.iconst 0, 1) := by decide +kernel
theorem dX6_yearsOf_21 : decode cX6_yearsOf 21 = .ok (.istore 4, 2) := by decide +kernel
theorem dX6_yearsOf_23 : decode cX6_yearsOf 23 = .ok (.iload 4, 2) := by decide +kernel
theorem dX6_yearsOf_25 : decode cX6_yearsOf 25 = .ok (.sipush 9003, 3) := by decide +kernel
theorem dX6_yearsOf_28 : decode cX6_yearsOf 28 = .ok (.if_icmp .ge 17, 3) := by decide +kernel
theorem dX6_yearsOf_31 : decode cX6_yearsOf 31 = .ok (.aload_n 0, 1) := by decide +kernel
theorem dX6_yearsOf_32 : decode cX6_yearsOf 32 = .ok (.getfield 58, 3) := by decide +kernel
theorem dX6_yearsOf_35 : decode cX6_yearsOf 35 = .ok (.iload 4, 2) := by decide +kernel
theorem dX6_yearsOf_37 : decode cX6_yearsOf 37 = .ok (.iconst 0, 1) := by decide +kernel
theorem dX6_yearsOf_38 : decode cX6_yearsOf 38 = .ok (.bastore, 1) := by decide +kernel
theorem dX6_yearsOf_39 : decode cX6_yearsOf 39 = .ok (.iinc 4 1, 3) := by decide +kernel
theorem dX6_yearsOf_42 : decode cX6_yearsOf 42 = .ok (.goto (-19), 3) := by decide +kernel
theorem dX6_yearsOf_45 : decode cX6_yearsOf 45 = .ok (.iconst 0, 1) := by decide +kernel
theorem dX6_yearsOf_46 : decode cX6_yearsOf 46 = .ok (.istore 4, 2) := by decide +kernel
theorem dX6_yearsOf_48 : decode cX6_yearsOf 48 = .ok (.iload 4, 2) := by decide +kernel
theorem dX6_yearsOf_50 : decode cX6_yearsOf 50 = .ok (.aload_n 0, 1) := by decide +kernel
theorem dX6_yearsOf_51 : decode cX6_yearsOf 51 = .ok (.getfield 124, 3) := by decide +kernel
theorem dX6_yearsOf_54 : decode cX6_yearsOf 54 = .ok (.if_icmp .ge 164, 3) := by decide +kernel
theorem dX6_yearsOf_57 : decode cX6_yearsOf 57 = .ok (.aload_n 0, 1) := by decide +kernel
theorem dX6_yearsOf_58 : decode cX6_yearsOf 58 = .ok (.iload 4, 2) := by decide +kernel
theorem dX6_yearsOf_60 : decode cX6_yearsOf 60 = .ok (.iload_n 3, 1) := by decide +kernel
theorem dX6_yearsOf_61 : decode cX6_yearsOf 61 = .ok (.invokevirtual 159, 3) := by decide +kernel
theorem dX6_yearsOf_64 : decode cX6_yearsOf 64 = .ok (.ifCond .eq 148, 3) := by decide +kernel
theorem dX6_yearsOf_67 : decode cX6_yearsOf 67 = .ok (.iconst 0, 1) := by decide +kernel
theorem dX6_yearsOf_68 : decode cX6_yearsOf 68 = .ok (.istore 5, 2) := by decide +kernel
theorem dX6_yearsOf_70 : decode cX6_yearsOf 70 = .ok (.iload 5, 2) := by decide +kernel
theorem dX6_yearsOf_72 : decode cX6_yearsOf 72 = .ok (.iconst 4, 1) := by decide +kernel
theorem dX6_yearsOf_73 : decode cX6_yearsOf 73 = .ok (.if_icmp .ge 139, 3) := by decide +kernel
theorem dX6_yearsOf_76 : decode cX6_yearsOf 76 = .ok (.iload_n 3, 1) := by decide +kernel
theorem dX6_yearsOf_77 : decode cX6_yearsOf 77 = .ok (.ifCond .ne 7, 3) := by decide +kernel
theorem dX6_yearsOf_80 : decode cX6_yearsOf 80 = .ok (.iconst 1, 1) := by decide +kernel
theorem dX6_yearsOf_81 : decode cX6_yearsOf 81 = .ok (.goto 4, 3) := by decide +kernel
theorem dX6_yearsOf_84 : decode cX6_yearsOf 84 = .ok (.iconst 0, 1) := by decide +kernel
theorem dX6_yearsOf_85 : decode cX6_yearsOf 85 = .ok (.istore 6, 2) := by decide +kernel
theorem dX6_yearsOf_87 : decode cX6_yearsOf 87 = .ok (.aload_n 0, 1) := by decide +kernel
theorem dX6_yearsOf_88 : decode cX6_yearsOf 88 = .ok (.iload 5, 2) := by decide +kernel
theorem dX6_yearsOf_90 : decode cX6_yearsOf 90 = .ok (.iload 4, 2) := by decide +kernel
theorem dX6_yearsOf_92 : decode cX6_yearsOf 92 = .ok (.invokevirtual 131, 3) := by decide +kernel
theorem dX6_yearsOf_95 : decode cX6_yearsOf 95 = .ok (.ifCond .eq 111, 3) := by decide +kernel
theorem dX6_yearsOf_98 : decode cX6_yearsOf 98 = .ok (.iload 5, 2) := by decide +kernel
theorem dX6_yearsOf_100 : decode cX6_yearsOf 100 = .ok (.iconst 3, 1) := by decide +kernel
theorem dX6_yearsOf_101 : decode cX6_yearsOf 101 = .ok (.if_icmp .ne 7, 3) := by decide +kernel
theorem dX6_yearsOf_104 : decode cX6_yearsOf 104 = .ok (.iconst 1, 1) := by decide +kernel
theorem dX6_yearsOf_105 : decode cX6_yearsOf 105 = .ok (.goto 4, 3) := by decide +kernel
theorem dX6_yearsOf_108 : decode cX6_yearsOf 108 = .ok (.iconst 0, 1) := by decide +kernel
theorem dX6_yearsOf_109 : decode cX6_yearsOf 109 = .ok (.iload 6, 2) := by decide +kernel
theorem dX6_yearsOf_111 : decode cX6_yearsOf 111 = .ok (.if_icmp .ne 95, 3) := by decide +kernel
theorem dX6_yearsOf_114 : decode cX6_yearsOf 114 = .ok (.aload_n 0, 1) := by decide +kernel
theorem dX6_yearsOf_115 : decode cX6_yearsOf 115 = .ok (.getfield 39, 3) := by decide +kernel
theorem dX6_yearsOf_118 : decode cX6_yearsOf 118 = .ok (.iload 4, 2) := by decide +kernel
theorem dX6_yearsOf_120 : decode cX6_yearsOf 120 = .ok (.iaload, 1) := by decide +kernel
theorem dX6_yearsOf_121 : decode cX6_yearsOf 121 = .ok (.istore 7, 2) := by decide +kernel
theorem dX6_yearsOf_123 : decode cX6_yearsOf 123 = .ok (.iload 7, 2) := by decide +kernel
theorem dX6_yearsOf_125 : decode cX6_yearsOf 125 = .ok (.sipush 3000, 3) := by decide +kernel
theorem dX6_yearsOf_128 : decode cX6_yearsOf 128 = .ok (.if_icmp .gt 78, 3) := by decide +kernel
theorem dX6_yearsOf_131 : decode cX6_yearsOf 131 = .ok (.aload_n 0, 1) := by decide +kernel
theorem dX6_yearsOf_132 : decode cX6_yearsOf 132 = .ok (.getfield 58, 3) := by decide +kernel
theorem dX6_yearsOf_135 : decode cX6_yearsOf 135 = .ok (.sipush 3001, 3) := by decide +kernel
theorem dX6_yearsOf_138 : decode cX6_yearsOf 138 = .ok (.aload_n 0, 1) := by decide +kernel
theorem dX6_yearsOf_139 : decode cX6_yearsOf 139 = .ok (.getfield 25, 3) := by decide +kernel
theorem dX6_yearsOf_142 : decode cX6_yearsOf 142 = .ok (.iload 4, 2) := by decide +kernel
theorem dX6_yearsOf_144 : decode cX6_yearsOf 144 = .ok (.iaload, 1) := by decide +kernel
theorem dX6_yearsOf_145 : decode cX6_yearsOf 145 = .ok (.imul, 1) := by decide +kernel
theorem dX6_yearsOf_146 : decode cX6_yearsOf 146 = .ok (.iload 7, 2) := by decide +kernel
theorem dX6_yearsOf_148 : decode cX6_yearsOf 148 = .ok (.iadd, 1) := by decide +kernel
theorem dX6_yearsOf_149 : decode cX6_yearsOf 149 = .ok (.dup2, 1) := by decide +kernel
theorem dX6_yearsOf_150 : decode cX6_yearsOf 150 = .ok (.baload, 1) := by decide +kernel
theorem dX6_yearsOf_151 : decode cX6_yearsOf 151 = .ok (.iload 6, 2) := by decide +kernel
theorem dX6_yearsOf_153 : decode cX6_yearsOf 153 = .ok (.ifCond .eq 23, 3) := by decide +kernel
theorem dX6_yearsOf_156 : decode cX6_yearsOf 156 = .ok (.iload 7, 2) := by decide +kernel
theorem dX6_yearsOf_158 : decode cX6_yearsOf 158 = .ok (.aload_n 0, 1) := by decide +kernel
theorem dX6_yearsOf_159 : decode cX6_yearsOf 159 = .ok (.getfield 39, 3) := by decide +kernel
theorem dX6_yearsOf_162 : decode cX6_yearsOf 162 = .ok (.iload 4, 2) := by decide +kernel
theorem dX6_yearsOf_164 : decode cX6_yearsOf 164 = .ok (.iaload, 1) := by decide +kernel
theorem dX6_yearsOf_165 : decode cX6_yearsOf 165 = .ok (.if_icmp .ne 7, 3) := by decide +kernel
theorem dX6_yearsOf_168 : decode cX6_yearsOf 168 = .ok (.iconst 1, 1) := by decide +kernel
theorem dX6_yearsOf_169 : decode cX6_yearsOf 169 = .ok (.goto 29, 3) := by decide +kernel
theorem dX6_yearsOf_172 : decode cX6_yearsOf 172 = .ok (.iconst 0, 1) := by decide +kernel
theorem dX6_yearsOf_173 : decode cX6_yearsOf 173 = .ok (.goto 25, 3) := by decide +kernel
theorem dX6_yearsOf_176 : decode cX6_yearsOf 176 = .ok (.aload_n 0, 1) := by decide +kernel
theorem dX6_yearsOf_177 : decode cX6_yearsOf 177 = .ok (.getfield 54, 3) := by decide +kernel
theorem dX6_yearsOf_180 : decode cX6_yearsOf 180 = .ok (.sipush 3001, 3) := by decide +kernel
theorem dX6_yearsOf_183 : decode cX6_yearsOf 183 = .ok (.iload 5, 2) := by decide +kernel
theorem dX6_yearsOf_185 : decode cX6_yearsOf 185 = .ok (.imul, 1) := by decide +kernel
theorem dX6_yearsOf_186 : decode cX6_yearsOf 186 = .ok (.iload 7, 2) := by decide +kernel
theorem dX6_yearsOf_188 : decode cX6_yearsOf 188 = .ok (.iadd, 1) := by decide +kernel
theorem dX6_yearsOf_189 : decode cX6_yearsOf 189 = .ok (.aload_n 0, 1) := by decide +kernel
theorem dX6_yearsOf_190 : decode cX6_yearsOf 190 = .ok (.getfield 39, 3) := by decide +kernel
theorem dX6_yearsOf_193 : decode cX6_yearsOf 193 = .ok (.iload 4, 2) := by decide +kernel
theorem dX6_yearsOf_195 : decode cX6_yearsOf 195 = .ok (.iaload, 1) := by decide +kernel
theorem dX6_yearsOf_196 : decode cX6_yearsOf 196 = .ok (.isub, 1) := by decide +kernel
theorem dX6_yearsOf_197 : decode cX6_yearsOf 197 = .ok (.baload, 1) := by decide +kernel
theorem dX6_yearsOf_198 : decode cX6_yearsOf 198 = .ok (.ior, 1) := by decide +kernel
theorem dX6_yearsOf_199 : decode cX6_yearsOf 199 = .ok (.bastore, 1) := by decide +kernel
theorem dX6_yearsOf_200 : decode cX6_yearsOf 200 = .ok (.iinc 7 1, 3) := by decide +kernel
theorem dX6_yearsOf_203 : decode cX6_yearsOf 203 = .ok (.goto (-80), 3) := by decide +kernel
theorem dX6_yearsOf_206 : decode cX6_yearsOf 206 = .ok (.iinc 5 1, 3) := by decide +kernel
theorem dX6_yearsOf_209 : decode cX6_yearsOf 209 = .ok (.goto (-139), 3) := by decide +kernel
theorem dX6_yearsOf_212 : decode cX6_yearsOf 212 = .ok (.iinc 4 1, 3) := by decide +kernel
theorem dX6_yearsOf_215 : decode cX6_yearsOf 215 = .ok (.goto (-167), 3) := by decide +kernel
theorem dX6_yearsOf_218 : decode cX6_yearsOf 218 = .ok (.iconst 0, 1) := by decide +kernel
theorem dX6_yearsOf_219 : decode cX6_yearsOf 219 = .ok (.istore 4, 2) := by decide +kernel
theorem dX6_yearsOf_221 : decode cX6_yearsOf 221 = .ok (.iload 4, 2) := by decide +kernel
theorem dX6_yearsOf_223 : decode cX6_yearsOf 223 = .ok (.sipush 9003, 3) := by decide +kernel
theorem dX6_yearsOf_226 : decode cX6_yearsOf 226 = .ok (.if_icmp .ge 23, 3) := by decide +kernel
theorem dX6_yearsOf_229 : decode cX6_yearsOf 229 = .ok (.aload_n 0, 1) := by decide +kernel
theorem dX6_yearsOf_230 : decode cX6_yearsOf 230 = .ok (.getfield 54, 3) := by decide +kernel
theorem dX6_yearsOf_233 : decode cX6_yearsOf 233 = .ok (.iload 4, 2) := by decide +kernel
theorem dX6_yearsOf_235 : decode cX6_yearsOf 235 = .ok (.aload_n 0, 1) := by decide +kernel
theorem dX6_yearsOf_236 : decode cX6_yearsOf 236 = .ok (.getfield 58, 3) := by decide +kernel
theorem dX6_yearsOf_239 : decode cX6_yearsOf 239 = .ok (.iload 4, 2) := by decide +kernel
theorem dX6_yearsOf_241 : decode cX6_yearsOf 241 = .ok (.baload, 1) := by decide +kernel
theorem dX6_yearsOf_242 : decode cX6_yearsOf 242 = .ok (.bastore, 1) := by decide +kernel
theorem dX6_yearsOf_243 : decode cX6_yearsOf 243 = .ok (.iinc 4 1, 3) := by decide +kernel
theorem dX6_yearsOf_246 : decode cX6_yearsOf 246 = .ok (.goto (-25), 3) := by decide +kernel
theorem dX6_yearsOf_249 : decode cX6_yearsOf 249 = .ok (.iinc 3 1, 3) := by decide +kernel
theorem dX6_yearsOf_252 : decode cX6_yearsOf 252 = .ok (.goto (-240), 3) := by decide +kernel
theorem dX6_yearsOf_255 : decode cX6_yearsOf 255 = .ok (.return_, 1) := by decide +kernel
set_option maxRecDepth 20000 in
theorem ggX6_years_X6_isWay : GoodIn wsX6_years wsX6_isWay := goodIn_r _ [8, 9, 2, 10, 11, 7, 12] (by decide +kernel) (by decide +kernel)
set_option maxRecDepth 20000 in
theorem gX6_years_X6_isWay : GoodIn wsX6_years (va_wsS RX6 97 yX6_isWay wsX6_isWay) := goodIn_app (goodIn_of _ (by decide +kernel)) ggX6_years_X6_isWay
set_option maxRecDepth 20000 in
theorem ggX6_years_X6_in : GoodIn wsX6_years wsX6_in := goodIn_r _ [12] (by decide +kernel) (by decide +kernel)
set_option maxRecDepth 20000 in
theorem gX6_years_X6_in : GoodIn wsX6_years (va_wsS RX6 73 yX6_in wsX6_in) := goodIn_app (goodIn_of _ (by decide +kernel)) ggX6_years_X6_in
set_option maxRecDepth 20000 in
theorem ggX6_years_X6_parts : GoodIn wsX6_years wsX6_parts := goodIn_r _ [16, 3, 17, 18, 19, 20, 59, 60, 61, 62, 63, 64, 65, 66, 67, 68, 69, 70, 71, 72, 73, 74, 75, 76, 77, 78, 79, 80, 81] (by decide +kernel) (by decide +kernel)
set_option maxRecDepth 20000 in
theorem gX6_years_X6_parts : GoodIn wsX6_years (wsV RX6 157 RX6 yX6_parts wsX6_parts) := goodIn_app (goodIn_of _ (by decide +kernel)) ggX6_years_X6_parts
set_option maxRecDepth 20000 in
theorem ggX6_years_X6_yearsOf : GoodIn wsX6_years wsX6_yearsOf := goodIn_r _ [24, 25, 3, 26, 27, 28, 4, 29, 30, 31, 7, 32, 33, 34, 35, 36, 37, 38, 39, 40, 41, 42, 43, 44, 10, 11, 12, 45, 46, 47, 48, 49, 50, 51, 52, 53, 20, 18, 19, 54, 55, 56, 57, 58, 59, 60, 61, 62, 63, 64, 65, 66, 67, 68, 69, 70, 71, 72, 73, 74, 75, 76, 77, 78, 79, 80, 81] (by decide +kernel) (by decide +kernel)
set_option maxRecDepth 20000 in
theorem gX6_years_X6_yearsOf : GoodIn wsX6_years (wsV RX6 165 RX6 yX6_yearsOf wsX6_yearsOf) := goodIn_app (goodIn_of _ (by decide +kernel)) ggX6_years_X6_yearsOf
theorem dX6_years_0 : decode cX6_years 0 = .ok (.aload_n 0, 1) := by decide +kernel
theorem dX6_years_1 : decode cX6_years 1 = .ok (.iconst 0, 1) := by decide +kernel
theorem dX6_years_2 : decode cX6_years 2 = .ok (.putfield 67, 3) := by decide +kernel
theorem dX6_years_5 : decode cX6_years 5 = .ok (.iload_n 1, 1) := by decide +kernel
theorem dX6_years_6 : decode cX6_years 6 = .ok (.iload_n 2, 1) := by decide +kernel
theorem dX6_years_7 : decode cX6_years 7 = .ok (.invokestatic 97, 3) := by decide +kernel
theorem dX6_years_10 : decode cX6_years 10 = .ok (.ifCond .eq 15, 3) := by decide +kernel
theorem dX6_years_13 : decode cX6_years 13 = .ok (.iload_n 3, 1) := by decide +kernel
theorem dX6_years_14 : decode cX6_years 14 = .ok (.i2l, 1) := by decide +kernel
theorem dX6_years_15 : decode cX6_years 15 = .ok (.lconst 0, 1) := by decide +kernel
theorem dX6_years_16 : decode cX6_years 16 = .ok (.ldc2_w 71, 3) := by decide +kernel
theorem dX6_years_19 : decode cX6_years 19 = .ok (.invokestatic 73, 3) := by decide +kernel
theorem dX6_years_22 : decode cX6_years 22 = .ok (.ifCond .ne 5, 3) := by decide +kernel
theorem dX6_years_25 : decode cX6_years 25 = .ok (.iconst (-1), 1) := by decide +kernel
theorem dX6_years_26 : decode cX6_years 26 = .ok (.ireturn, 1) := by decide +kernel
theorem dX6_years_27 : decode cX6_years 27 = .ok (.aload_n 0, 1) := by decide +kernel
theorem dX6_years_28 : decode cX6_years 28 = .ok (.invokevirtual 157, 3) := by decide +kernel
theorem dX6_years_31 : decode cX6_years 31 = .ok (.aload_n 0, 1) := by decide +kernel
theorem dX6_years_32 : decode cX6_years 32 = .ok (.getfield 154, 3) := by decide +kernel
theorem dX6_years_35 : decode cX6_years 35 = .ok (.ifCond .ne 6, 3) := by decide +kernel
theorem dX6_years_38 : decode cX6_years 38 = .ok (.bipush (-2), 2) := by decide +kernel
theorem dX6_years_40 : decode cX6_years 40 = .ok (.ireturn, 1) := by decide +kernel
theorem dX6_years_41 : decode cX6_years 41 = .ok (.aload_n 0, 1) := by decide +kernel
theorem dX6_years_42 : decode cX6_years 42 = .ok (.iload_n 1, 1) := by decide +kernel
theorem dX6_years_43 : decode cX6_years 43 = .ok (.iload_n 2, 1) := by decide +kernel
theorem dX6_years_44 : decode cX6_years 44 = .ok (.invokevirtual 165, 3) := by decide +kernel
theorem dX6_years_47 : decode cX6_years 47 = .ok (.iconst 0, 1) := by decide +kernel
theorem dX6_years_48 : decode cX6_years 48 = .ok (.istore 4, 2) := by decide +kernel
theorem dX6_years_50 : decode cX6_years 50 = .ok (.bipush (-9), 2) := by decide +kernel
theorem dX6_years_52 : decode cX6_years 52 = .ok (.istore 5, 2) := by decide +kernel
theorem dX6_years_54 : decode cX6_years 54 = .ok (.bipush (-9), 2) := by decide +kernel
theorem dX6_years_56 : decode cX6_years 56 = .ok (.istore 6, 2) := by decide +kernel
theorem dX6_years_58 : decode cX6_years 58 = .ok (.iconst 0, 1) := by decide +kernel
theorem dX6_years_59 : decode cX6_years 59 = .ok (.istore 7, 2) := by decide +kernel
theorem dX6_years_61 : decode cX6_years 61 = .ok (.iload 7, 2) := by decide +kernel
theorem dX6_years_63 : decode cX6_years 63 = .ok (.sipush 3000, 3) := by decide +kernel
theorem dX6_years_66 : decode cX6_years 66 = .ok (.if_icmp .gt 70, 3) := by decide +kernel
theorem dX6_years_69 : decode cX6_years 69 = .ok (.aload_n 0, 1) := by decide +kernel
theorem dX6_years_70 : decode cX6_years 70 = .ok (.getfield 54, 3) := by decide +kernel
theorem dX6_years_73 : decode cX6_years 73 = .ok (.iload 7, 2) := by decide +kernel
theorem dX6_years_75 : decode cX6_years 75 = .ok (.baload, 1) := by decide +kernel
theorem dX6_years_76 : decode cX6_years 76 = .ok (.ifCond .ne 31, 3) := by decide +kernel
theorem dX6_years_79 : decode cX6_years 79 = .ok (.aload_n 0, 1) := by decide +kernel
theorem dX6_years_80 : decode cX6_years 80 = .ok (.getfield 54, 3) := by decide +kernel
theorem dX6_years_83 : decode cX6_years 83 = .ok (.sipush 3001, 3) := by decide +kernel
theorem dX6_years_86 : decode cX6_years 86 = .ok (.iload 7, 2) := by decide +kernel
theorem dX6_years_88 : decode cX6_years 88 = .ok (.iadd, 1) := by decide +kernel
theorem dX6_years_89 : decode cX6_years 89 = .ok (.baload, 1) := by decide +kernel
theorem dX6_years_90 : decode cX6_years 90 = .ok (.ifCond .ne 17, 3) := by decide +kernel
theorem dX6_years_93 : decode cX6_years 93 = .ok (.aload_n 0, 1) := by decide +kernel
theorem dX6_years_94 : decode cX6_years 94 = .ok (.getfield 54, 3) := by decide +kernel
theorem dX6_years_97 : decode cX6_years 97 = .ok (.sipush 6002, 3) := by decide +kernel
theorem dX6_years_100 : decode cX6_years 100 = .ok (.iload 7, 2) := by decide +kernel
theorem dX6_years_102 : decode cX6_years 102 = .ok (.iadd, 1) := by decide +kernel
theorem dX6_years_103 : decode cX6_years 103 = .ok (.baload, 1) := by decide +kernel
theorem dX6_years_104 : decode cX6_years 104 = .ok (.ifCond .eq 26, 3) := by decide +kernel
theorem dX6_years_107 : decode cX6_years 107 = .ok (.iinc 4 1, 3) := by decide +kernel
theorem dX6_years_110 : decode cX6_years 110 = .ok (.iload 5, 2) := by decide +kernel
theorem dX6_years_112 : decode cX6_years 112 = .ok (.bipush (-9), 2) := by decide +kernel
theorem dX6_years_114 : decode cX6_years 114 = .ok (.if_icmp .ne 8, 3) := by decide +kernel
theorem dX6_years_117 : decode cX6_years 117 = .ok (.iload 7, 2) := by decide +kernel
theorem dX6_years_119 : decode cX6_years 119 = .ok (.goto 5, 3) := by decide +kernel
theorem dX6_years_122 : decode cX6_years 122 = .ok (.iload 5, 2) := by decide +kernel
theorem dX6_years_124 : decode cX6_years 124 = .ok (.istore 5, 2) := by decide +kernel
theorem dX6_years_126 : decode cX6_years 126 = .ok (.iload 7, 2) := by decide +kernel
theorem dX6_years_128 : decode cX6_years 128 = .ok (.istore 6, 2) := by decide +kernel
theorem dX6_years_130 : decode cX6_years 130 = .ok (.iinc 7 1, 3) := by decide +kernel
theorem dX6_years_133 : decode cX6_years 133 = .ok (.goto (-72), 3) := by decide +kernel
theorem dX6_years_136 : decode cX6_years 136 = .ok (.iload_n 3, 1) := by decide +kernel
theorem dX6_years_137 : decode cX6_years 137 = .ok (.ifCond .ne 8, 3) := by decide +kernel
theorem dX6_years_140 : decode cX6_years 140 = .ok (.iload 4, 2) := by decide +kernel
theorem dX6_years_142 : decode cX6_years 142 = .ok (.goto 34, 3) := by decide +kernel
theorem dX6_years_145 : decode cX6_years 145 = .ok (.iload_n 3, 1) := by decide +kernel
theorem dX6_years_146 : decode cX6_years 146 = .ok (.iconst 1, 1) := by decide +kernel
theorem dX6_years_147 : decode cX6_years 147 = .ok (.if_icmp .ne 8, 3) := by decide +kernel
theorem dX6_years_150 : decode cX6_years 150 = .ok (.iload 5, 2) := by decide +kernel
theorem dX6_years_152 : decode cX6_years 152 = .ok (.goto 24, 3) := by decide +kernel
theorem dX6_years_155 : decode cX6_years 155 = .ok (.iload_n 3, 1) := by decide +kernel
theorem dX6_years_156 : decode cX6_years 156 = .ok (.iconst 2, 1) := by decide +kernel
theorem dX6_years_157 : decode cX6_years 157 = .ok (.if_icmp .ne 8, 3) := by decide +kernel
theorem dX6_years_160 : decode cX6_years 160 = .ok (.iload 6, 2) := by decide +kernel
theorem dX6_years_162 : decode cX6_years 162 = .ok (.goto 14, 3) := by decide +kernel
theorem dX6_years_165 : decode cX6_years 165 = .ok (.iload 4, 2) := by decide +kernel
theorem dX6_years_167 : decode cX6_years 167 = .ok (.iconst 1, 1) := by decide +kernel
theorem dX6_years_168 : decode cX6_years 168 = .ok (.if_icmp .ne 7, 3) := by decide +kernel
theorem dX6_years_171 : decode cX6_years 171 = .ok (.iconst 1, 1) := by decide +kernel
theorem dX6_years_172 : decode cX6_years 172 = .ok (.goto 4, 3) := by decide +kernel
theorem dX6_years_175 : decode cX6_years 175 = .ok (.iconst 0, 1) := by decide +kernel
theorem dX6_years_176 : decode cX6_years 176 = .ok (.ireturn, 1) := by decide +kernel
set_option maxRecDepth 20000 in
theorem ggX6_borne_X6_in : GoodIn wsX6_borne wsX6_in := goodIn_r _ [6] (by decide +kernel) (by decide +kernel)
set_option maxRecDepth 20000 in
theorem gX6_borne_X6_in : GoodIn wsX6_borne (va_wsS RX6 73 yX6_in wsX6_in) := goodIn_app (goodIn_of _ (by decide +kernel)) ggX6_borne_X6_in
set_option maxRecDepth 20000 in
theorem ggX6_borne_X6_sumOf : GoodIn wsX6_borne wsX6_sumOf := goodIn_r _ [10, 11, 12, 13, 14, 15, 5, 16, 17, 18, 19, 20, 21, 22, 3, 4, 6, 23, 24, 25, 26, 27, 28, 29, 30, 31, 32, 33, 34, 35, 36, 37, 38, 39, 40, 41, 42, 43, 44, 45, 46, 47, 48, 49, 50] (by decide +kernel) (by decide +kernel)
set_option maxRecDepth 20000 in
theorem gX6_borne_X6_sumOf : GoodIn wsX6_borne (wsV RX6 120 RX6 yX6_sumOf wsX6_sumOf) := goodIn_app (goodIn_of _ (by decide +kernel)) ggX6_borne_X6_sumOf
theorem dX6_borne_0 : decode cX6_borne 0 = .ok (.aload_n 0, 1) := by decide +kernel
theorem dX6_borne_1 : decode cX6_borne 1 = .ok (.iconst 0, 1) := by decide +kernel
theorem dX6_borne_2 : decode cX6_borne 2 = .ok (.putfield 67, 3) := by decide +kernel
theorem dX6_borne_5 : decode cX6_borne 5 = .ok (.iload_n 1, 1) := by decide +kernel
theorem dX6_borne_6 : decode cX6_borne 6 = .ok (.i2l, 1) := by decide +kernel
theorem dX6_borne_7 : decode cX6_borne 7 = .ok (.lconst 0, 1) := by decide +kernel
theorem dX6_borne_8 : decode cX6_borne 8 = .ok (.ldc2_w 169, 3) := by decide +kernel
theorem dX6_borne_11 : decode cX6_borne 11 = .ok (.invokestatic 73, 3) := by decide +kernel
theorem dX6_borne_14 : decode cX6_borne 14 = .ok (.ifCond .ne 5, 3) := by decide +kernel
theorem dX6_borne_17 : decode cX6_borne 17 = .ok (.iconst (-1), 1) := by decide +kernel
theorem dX6_borne_18 : decode cX6_borne 18 = .ok (.ireturn, 1) := by decide +kernel
theorem dX6_borne_19 : decode cX6_borne 19 = .ok (.iconst 0, 1) := by decide +kernel
theorem dX6_borne_20 : decode cX6_borne 20 = .ok (.istore_n 2, 1) := by decide +kernel
theorem dX6_borne_21 : decode cX6_borne 21 = .ok (.iconst 0, 1) := by decide +kernel
theorem dX6_borne_22 : decode cX6_borne 22 = .ok (.istore_n 3, 1) := by decide +kernel
theorem dX6_borne_23 : decode cX6_borne 23 = .ok (.iload_n 3, 1) := by decide +kernel
theorem dX6_borne_24 : decode cX6_borne 24 = .ok (.iconst 4, 1) := by decide +kernel
theorem dX6_borne_25 : decode cX6_borne 25 = .ok (.if_icmp .ge 50, 3) := by decide +kernel
theorem dX6_borne_28 : decode cX6_borne 28 = .ok (.iconst 0, 1) := by decide +kernel
theorem dX6_borne_29 : decode cX6_borne 29 = .ok (.istore 4, 2) := by decide +kernel
theorem dX6_borne_31 : decode cX6_borne 31 = .ok (.iload 4, 2) := by decide +kernel
theorem dX6_borne_33 : decode cX6_borne 33 = .ok (.iconst 3, 1) := by decide +kernel
theorem dX6_borne_34 : decode cX6_borne 34 = .ok (.if_icmp .ge 35, 3) := by decide +kernel
theorem dX6_borne_37 : decode cX6_borne 37 = .ok (.iload_n 2, 1) := by decide +kernel
theorem dX6_borne_38 : decode cX6_borne 38 = .ok (.aload_n 0, 1) := by decide +kernel
theorem dX6_borne_39 : decode cX6_borne 39 = .ok (.iload 4, 2) := by decide +kernel
theorem dX6_borne_41 : decode cX6_borne 41 = .ok (.iload_n 3, 1) := by decide +kernel
theorem dX6_borne_42 : decode cX6_borne 42 = .ok (.invokevirtual 120, 3) := by decide +kernel
theorem dX6_borne_45 : decode cX6_borne 45 = .ok (.iload_n 1, 1) := by decide +kernel
theorem dX6_borne_46 : decode cX6_borne 46 = .ok (.if_icmp .ne 14, 3) := by decide +kernel
theorem dX6_borne_49 : decode cX6_borne 49 = .ok (.iconst 1, 1) := by decide +kernel
theorem dX6_borne_50 : decode cX6_borne 50 = .ok (.iconst 3, 1) := by decide +kernel
theorem dX6_borne_51 : decode cX6_borne 51 = .ok (.iload_n 3, 1) := by decide +kernel
theorem dX6_borne_52 : decode cX6_borne 52 = .ok (.imul, 1) := by decide +kernel
theorem dX6_borne_53 : decode cX6_borne 53 = .ok (.iload 4, 2) := by decide +kernel
theorem dX6_borne_55 : decode cX6_borne 55 = .ok (.iadd, 1) := by decide +kernel
theorem dX6_borne_56 : decode cX6_borne 56 = .ok (.ishl, 1) := by decide +kernel
theorem dX6_borne_57 : decode cX6_borne 57 = .ok (.goto 4, 3) := by decide +kernel
theorem dX6_borne_60 : decode cX6_borne 60 = .ok (.iconst 0, 1) := by decide +kernel
theorem dX6_borne_61 : decode cX6_borne 61 = .ok (.ior, 1) := by decide +kernel
theorem dX6_borne_62 : decode cX6_borne 62 = .ok (.istore_n 2, 1) := by decide +kernel
theorem dX6_borne_63 : decode cX6_borne 63 = .ok (.iinc 4 1, 3) := by decide +kernel
theorem dX6_borne_66 : decode cX6_borne 66 = .ok (.goto (-35), 3) := by decide +kernel
theorem dX6_borne_69 : decode cX6_borne 69 = .ok (.iinc 3 1, 3) := by decide +kernel
theorem dX6_borne_72 : decode cX6_borne 72 = .ok (.goto (-49), 3) := by decide +kernel
theorem dX6_borne_75 : decode cX6_borne 75 = .ok (.iload_n 2, 1) := by decide +kernel
theorem dX6_borne_76 : decode cX6_borne 76 = .ok (.ireturn, 1) := by decide +kernel
set_option maxRecDepth 20000 in
theorem ggX6_count_X6_parts : GoodIn wsX6_count wsX6_parts := goodIn_r _ [10, 5, 2, 3, 11, 12, 13, 14, 15, 16, 17, 18, 19, 20, 21, 22, 23, 24, 25, 26, 27, 28, 29, 30, 31, 32, 33, 34, 35] (by decide +kernel) (by decide +kernel)
set_option maxRecDepth 20000 in
theorem gX6_count_X6_parts : GoodIn wsX6_count (wsV RX6 157 RX6 yX6_parts wsX6_parts) := goodIn_app (goodIn_of _ (by decide +kernel)) ggX6_count_X6_parts
theorem dX6_count_0 : decode cX6_count 0 = .ok (.aload_n 0, 1) := by decide +kernel
theorem dX6_count_1 : decode cX6_count 1 = .ok (.iconst 0, 1) := by decide +kernel
theorem dX6_count_2 : decode cX6_count 2 = .ok (.putfield 67, 3) := by decide +kernel
theorem dX6_count_5 : decode cX6_count 5 = .ok (.aload_n 0, 1) := by decide +kernel
theorem dX6_count_6 : decode cX6_count 6 = .ok (.invokevirtual 157, 3) := by decide +kernel
theorem dX6_count_9 : decode cX6_count 9 = .ok (.iconst 0, 1) := by decide +kernel
theorem dX6_count_10 : decode cX6_count 10 = .ok (.istore_n 2, 1) := by decide +kernel
theorem dX6_count_11 : decode cX6_count 11 = .ok (.iconst 0, 1) := by decide +kernel
theorem dX6_count_12 : decode cX6_count 12 = .ok (.istore_n 3, 1) := by decide +kernel
theorem dX6_count_13 : decode cX6_count 13 = .ok (.iload_n 3, 1) := by decide +kernel
theorem dX6_count_14 : decode cX6_count 14 = .ok (.aload_n 0, 1) := by decide +kernel
theorem dX6_count_15 : decode cX6_count 15 = .ok (.getfield 117, 3) := by decide +kernel
theorem dX6_count_18 : decode cX6_count 18 = .ok (.if_icmp .ge 28, 3) := by decide +kernel
theorem dX6_count_21 : decode cX6_count 21 = .ok (.iload_n 2, 1) := by decide +kernel
theorem dX6_count_22 : decode cX6_count 22 = .ok (.aload_n 0, 1) := by decide +kernel
theorem dX6_count_23 : decode cX6_count 23 = .ok (.getfield 13, 3) := by decide +kernel
theorem dX6_count_26 : decode cX6_count 26 = .ok (.iload_n 3, 1) := by decide +kernel
theorem dX6_count_27 : decode cX6_count 27 = .ok (.iaload, 1) := by decide +kernel
theorem dX6_count_28 : decode cX6_count 28 = .ok (.bipush 63, 2) := by decide +kernel
theorem dX6_count_30 : decode cX6_count 30 = .ok (.if_icmp .ne 7, 3) := by decide +kernel
theorem dX6_count_33 : decode cX6_count 33 = .ok (.iconst 1, 1) := by decide +kernel
theorem dX6_count_34 : decode cX6_count 34 = .ok (.goto 4, 3) := by decide +kernel
theorem dX6_count_37 : decode cX6_count 37 = .ok (.iconst 0, 1) := by decide +kernel
theorem dX6_count_38 : decode cX6_count 38 = .ok (.iadd, 1) := by decide +kernel
theorem dX6_count_39 : decode cX6_count 39 = .ok (.istore_n 2, 1) := by decide +kernel
theorem dX6_count_40 : decode cX6_count 40 = .ok (.iinc 3 1, 3) := by decide +kernel
theorem dX6_count_43 : decode cX6_count 43 = .ok (.goto (-30), 3) := by decide +kernel
theorem dX6_count_46 : decode cX6_count 46 = .ok (.iload_n 1, 1) := by decide +kernel
theorem dX6_count_47 : decode cX6_count 47 = .ok (.ifCond .ne 10, 3) := by decide +kernel
theorem dX6_count_50 : decode cX6_count 50 = .ok (.aload_n 0, 1) := by decide +kernel
theorem dX6_count_51 : decode cX6_count 51 = .ok (.getfield 124, 3) := by decide +kernel
theorem dX6_count_54 : decode cX6_count 54 = .ok (.goto 37, 3) := by decide +kernel
theorem dX6_count_57 : decode cX6_count 57 = .ok (.iload_n 1, 1) := by decide +kernel
theorem dX6_count_58 : decode cX6_count 58 = .ok (.iconst 1, 1) := by decide +kernel
theorem dX6_count_59 : decode cX6_count 59 = .ok (.if_icmp .ne 10, 3) := by decide +kernel
theorem dX6_count_62 : decode cX6_count 62 = .ok (.aload_n 0, 1) := by decide +kernel
theorem dX6_count_63 : decode cX6_count 63 = .ok (.getfield 117, 3) := by decide +kernel
theorem dX6_count_66 : decode cX6_count 66 = .ok (.goto 25, 3) := by decide +kernel
theorem dX6_count_69 : decode cX6_count 69 = .ok (.iload_n 1, 1) := by decide +kernel
theorem dX6_count_70 : decode cX6_count 70 = .ok (.iconst 2, 1) := by decide +kernel
theorem dX6_count_71 : decode cX6_count 71 = .ok (.if_icmp .ne 10, 3) := by decide +kernel
theorem dX6_count_74 : decode cX6_count 74 = .ok (.aload_n 0, 1) := by decide +kernel
theorem dX6_count_75 : decode cX6_count 75 = .ok (.getfield 154, 3) := by decide +kernel
theorem dX6_count_78 : decode cX6_count 78 = .ok (.goto 13, 3) := by decide +kernel
theorem dX6_count_81 : decode cX6_count 81 = .ok (.iload_n 1, 1) := by decide +kernel
theorem dX6_count_82 : decode cX6_count 82 = .ok (.iconst 3, 1) := by decide +kernel
theorem dX6_count_83 : decode cX6_count 83 = .ok (.if_icmp .ne 7, 3) := by decide +kernel
theorem dX6_count_86 : decode cX6_count 86 = .ok (.iload_n 2, 1) := by decide +kernel
theorem dX6_count_87 : decode cX6_count 87 = .ok (.goto 4, 3) := by decide +kernel
theorem dX6_count_90 : decode cX6_count 90 = .ok (.iconst (-1), 1) := by decide +kernel
theorem dX6_count_91 : decode cX6_count 91 = .ok (.ireturn, 1) := by decide +kernel
theorem dX6_trace_0 : decode cX6_trace 0 = .ok (.aload_n 0, 1) := by decide +kernel
theorem dX6_trace_1 : decode cX6_trace 1 = .ok (.iconst 0, 1) := by decide +kernel
theorem dX6_trace_2 : decode cX6_trace 2 = .ok (.putfield 67, 3) := by decide +kernel
theorem dX6_trace_5 : decode cX6_trace 5 = .ok (.aload_n 0, 1) := by decide +kernel
theorem dX6_trace_6 : decode cX6_trace 6 = .ok (.getfield 103, 3) := by decide +kernel
theorem dX6_trace_9 : decode cX6_trace 9 = .ok (.lreturn, 1) := by decide +kernel
theorem dJ9_min_f86c9_0 : decode cJ9_min_f86c9 0 = .ok (.lload_n 0, 1) := by decide +kernel
theorem dJ9_min_f86c9_1 : decode cJ9_min_f86c9 1 = .ok (.lload_n 2, 1) := by decide +kernel
theorem dJ9_min_f86c9_2 : decode cJ9_min_f86c9 2 = .ok (.lcmp, 1) := by decide +kernel
theorem dJ9_min_f86c9_3 : decode cJ9_min_f86c9 3 = .ok (.ifCond .gt 7, 3) := by decide +kernel
theorem dJ9_min_f86c9_6 : decode cJ9_min_f86c9 6 = .ok (.lload_n 0, 1) := by decide +kernel
theorem dJ9_min_f86c9_7 : decode cJ9_min_f86c9 7 = .ok (.goto 4, 3) := by decide +kernel
theorem dJ9_min_f86c9_10 : decode cJ9_min_f86c9 10 = .ok (.lload_n 2, 1) := by decide +kernel
theorem dJ9_min_f86c9_11 : decode cJ9_min_f86c9 11 = .ok (.lreturn, 1) := by decide +kernel
theorem dJ7_fill_d0a16_0 : decode cJ7_fill_d0a16 0 = .ok (.iconst 0, 1) := by decide +kernel
theorem dJ7_fill_d0a16_1 : decode cJ7_fill_d0a16 1 = .ok (.istore_n 3, 1) := by decide +kernel
theorem dJ7_fill_d0a16_2 : decode cJ7_fill_d0a16 2 = .ok (.aload_n 0, 1) := by decide +kernel
theorem dJ7_fill_d0a16_3 : decode cJ7_fill_d0a16 3 = .ok (.arraylength, 1) := by decide +kernel
theorem dJ7_fill_d0a16_4 : decode cJ7_fill_d0a16 4 = .ok (.istore 4, 2) := by decide +kernel
theorem dJ7_fill_d0a16_6 : decode cJ7_fill_d0a16 6 = .ok (.iload_n 3, 1) := by decide +kernel
theorem dJ7_fill_d0a16_7 : decode cJ7_fill_d0a16 7 = .ok (.iload 4, 2) := by decide +kernel
theorem dJ7_fill_d0a16_9 : decode cJ7_fill_d0a16 9 = .ok (.if_icmp .ge 13, 3) := by decide +kernel
theorem dJ7_fill_d0a16_12 : decode cJ7_fill_d0a16 12 = .ok (.aload_n 0, 1) := by decide +kernel
theorem dJ7_fill_d0a16_13 : decode cJ7_fill_d0a16 13 = .ok (.iload_n 3, 1) := by decide +kernel
theorem dJ7_fill_d0a16_14 : decode cJ7_fill_d0a16 14 = .ok (.lload_n 1, 1) := by decide +kernel
theorem dJ7_fill_d0a16_15 : decode cJ7_fill_d0a16 15 = .ok (.lastore, 1) := by decide +kernel
theorem dJ7_fill_d0a16_16 : decode cJ7_fill_d0a16 16 = .ok (.iinc 3 1, 3) := by decide +kernel
theorem dJ7_fill_d0a16_19 : decode cJ7_fill_d0a16 19 = .ok (.goto (-13), 3) := by decide +kernel
theorem dJ7_fill_d0a16_22 : decode cJ7_fill_d0a16 22 = .ok (.return_, 1) := by decide +kernel
theorem dJ7_fill_53178_0 : decode cJ7_fill_53178 0 = .ok (.iconst 0, 1) := by decide +kernel
theorem dJ7_fill_53178_1 : decode cJ7_fill_53178 1 = .ok (.istore_n 2, 1) := by decide +kernel
theorem dJ7_fill_53178_2 : decode cJ7_fill_53178 2 = .ok (.aload_n 0, 1) := by decide +kernel
theorem dJ7_fill_53178_3 : decode cJ7_fill_53178 3 = .ok (.arraylength, 1) := by decide +kernel
theorem dJ7_fill_53178_4 : decode cJ7_fill_53178 4 = .ok (.istore_n 3, 1) := by decide +kernel
theorem dJ7_fill_53178_5 : decode cJ7_fill_53178 5 = .ok (.iload_n 2, 1) := by decide +kernel
theorem dJ7_fill_53178_6 : decode cJ7_fill_53178 6 = .ok (.iload_n 3, 1) := by decide +kernel
theorem dJ7_fill_53178_7 : decode cJ7_fill_53178 7 = .ok (.if_icmp .ge 13, 3) := by decide +kernel
theorem dJ7_fill_53178_10 : decode cJ7_fill_53178 10 = .ok (.aload_n 0, 1) := by decide +kernel
theorem dJ7_fill_53178_11 : decode cJ7_fill_53178 11 = .ok (.iload_n 2, 1) := by decide +kernel
theorem dJ7_fill_53178_12 : decode cJ7_fill_53178 12 = .ok (.iload_n 1, 1) := by decide +kernel
theorem dJ7_fill_53178_13 : decode cJ7_fill_53178 13 = .ok (.iastore, 1) := by decide +kernel
theorem dJ7_fill_53178_14 : decode cJ7_fill_53178 14 = .ok (.iinc 2 1, 3) := by decide +kernel
theorem dJ7_fill_53178_17 : decode cJ7_fill_53178 17 = .ok (.goto (-12), 3) := by decide +kernel
theorem dJ7_fill_53178_20 : decode cJ7_fill_53178 20 = .ok (.return_, 1) := by decide +kernel
end
section
/-! ===== short rows over the kit's: natural numbers for indices, worlds that keep their addresses ===== -/
def ro_Q (v : Value) : Array Value → State → Outcome → State → Prop := fun _ st o t => o = .returned (some v) ∧ t.heap = st.heap
/-- the cells of a side, and all that come from sz on -/
def aW (n : Nat) (ad : Nat → Nat) (sz : Nat) : Nat → Prop := fun q => (∃ k, k < n ∧ q = ad k) ∨ sz ≤ q
def dW (n : Nat) (ad : Nat → Nat) : Prop := ∀ i j, i < n → j < n → ad i = ad j → i = j
theorem aW_le {n : Nat} {ad : Nat → Nat} {a b : Nat} (h : a ≤ b) {q : Nat} (hq : aW n ad b q) : aW n ad a q := hq.elim Or.inl (fun z => Or.inr (Nat.le_trans h z))
theorem aW_ge {n : Nat} {ad : Nat → Nat} {a q : Nat} (h : a ≤ q) : aW n ad a q := Or.inr h
theorem dW_D {n : Nat} {ad : Nat → Nat} {ws : va_W} {sz : Nat} (hd : dW n ad) (hw : ws.map Prod.fst = (List.range n).map ad) : va_D (aW n ad sz) ws := by
  have key : ∀ (i : Nat) (q : Nat × va_E), ws[i]? = some q → i < n ∧ q.1 = ad i := by
    intro i q h
    have h1 : (ws.map Prod.fst)[i]? = some q.1 := by rw [List.getElem?_map, h]; rfl
    rw [hw, List.getElem?_map] at h1
    by_cases hi : i < n
    · rw [List.getElem?_range hi] at h1
      exact ⟨hi, (Option.some.inj h1).symm⟩
    · rw [List.getElem?_eq_none (by simpa using hi)] at h1
      cases h1
  refine ⟨fun i j x y hx hy hxy => ?_, fun k q hk => ?_⟩
  · obtain ⟨h1, h2⟩ := key i x hx
    obtain ⟨h3, h4⟩ := key j y hy
    exact hd i j h1 h3 (by rw [← h2, ← h4]; exact hxy)
  · obtain ⟨h1, h2⟩ := key k q hk
    exact Or.inl ⟨k, h1, h2⟩
section BB
variable {p : Program} {l : Launch} {e : Env} {R : Room} {s : State} {m : MethodId} {args : Array Value} {below : List Frame} {meth : Method} {c : Code} {H : Heap} {locs : List Loc} {cells slots : Nat} {Q : State → Prop} {cc : ByteArray} {pc : Nat} {ls : Array Slot} {rest st0 : List Value} {a : Array Value}
theorem ln_toi {x y : Int32} (h : x = y) (k : W p l e R s m args below meth c H locs cells slots Q (F0 m pc ls (.int y :: rest))) : W p l e R s m args below meth c H locs cells slots Q (F0 m pc ls (.int x :: rest)) := by rw [h]; exact k
theorem ln_tol {x y : Int64} (h : x = y) (k : W p l e R s m args below meth c H locs cells slots Q (F0 m pc ls (.long y :: rest))) : W p l e R s m args below meth c H locs cells slots Q (F0 m pc ls (.long x :: rest)) := by rw [h]; exact k
theorem ln_iadd (hexec : p.tables.exec = Jvm.exec) (hb : c.code = cc) {x y : Nat} (hdg : decode cc pc = .ok (.iadd, 1)) (k : W p l e R s m args below meth c H locs cells slots Q (F0 m (pc + 1) ls (.int (nI (x + y)) :: rest))) : W p l e R s m args below meth c H locs cells slots Q (F0 m pc ls (.int (nI y) :: .int (nI x) :: rest)) := lv_iadd hexec hb hdg (ln_toi (nI_add x y) k)
theorem ln_imul (hexec : p.tables.exec = Jvm.exec) (hb : c.code = cc) {x y : Nat} (hdg : decode cc pc = .ok (.imul, 1)) (k : W p l e R s m args below meth c H locs cells slots Q (F0 m (pc + 1) ls (.int (nI (x * y)) :: rest))) : W p l e R s m args below meth c H locs cells slots Q (F0 m pc ls (.int (nI y) :: .int (nI x) :: rest)) := lv_imul hexec hb hdg (ln_toi (pk_mul x y) k)
theorem ln_isub (hexec : p.tables.exec = Jvm.exec) (hb : c.code = cc) {x y : Nat} (h : y ≤ x) (hdg : decode cc pc = .ok (.isub, 1)) (k : W p l e R s m args below meth c H locs cells slots Q (F0 m (pc + 1) ls (.int (nI (x - y)) :: rest))) : W p l e R s m args below meth c H locs cells slots Q (F0 m pc ls (.int (nI y) :: .int (nI x) :: rest)) := lv_isub hexec hb hdg (ln_toi (pk_sub h) k)
theorem ln_ladd (hexec : p.tables.exec = Jvm.exec) (hb : c.code = cc) {x y : Nat} (hdg : decode cc pc = .ok (.ladd, 1)) (k : W p l e R s m args below meth c H locs cells slots Q (F0 m (pc + 1) ls (.long (lN (x + y)) :: rest))) : W p l e R s m args below meth c H locs cells slots Q (F0 m pc ls (.long (lN y) :: .long (lN x) :: rest)) := lv_ladd hexec hb hdg (ln_tol (lN_add x y) k)
theorem ln_lsub (hexec : p.tables.exec = Jvm.exec) (hb : c.code = cc) {x y : Nat} (h : y ≤ x) (hdg : decode cc pc = .ok (.lsub, 1)) (k : W p l e R s m args below meth c H locs cells slots Q (F0 m (pc + 1) ls (.long (lN (x - y)) :: rest))) : W p l e R s m args below meth c H locs cells slots Q (F0 m pc ls (.long (lN y) :: .long (lN x) :: rest)) := lv_lsub hexec hb hdg (ln_tol (lN_sub h) k)
theorem ro_call {v : Value} (hr : va_Run p l e R s m args below meth c H locs cells slots 0 0 (F0 m pc ls st0) rest (ro_Q v a) (fun _ => False)) (kk : W p l e R s m args below meth c H locs cells slots Q (F0 m (pc + 3) ls (v :: rest))) : W p l e R s m args below meth c H locs cells slots Q (F0 m pc ls st0) := by
  intro T hT X
  obtain ⟨v', st₀, t, T', L, h0, X', hL, e1, e2, ⟨hv, hh⟩, st⟩ := hr T hT X
  cases hv
  obtain ⟨t2, a1, b1⟩ := kk T' (by rw [e1, hh, h0]) (Stand.forget X' (fun q h => (hL q h).elim))
  exact ⟨t2, st t2 a1, b1⟩
theorem ro_iret {v r : Int32} (hexec : p.tables.exec = Jvm.exec) (hb : c.code = cc) (hr : meth.sig.returnType = some .int) (hlocks : meth.locks = false) (hv : v = r) (hdg : decode cc pc = .ok (.ireturn, 1)) : W p l e R s m args below meth c s.heap [] 0 0 (MQ below (ro_Q (.int r)) args s 0 0 (fun _ => False)) (F0 m pc ls [.int v]) := by
  subst hv
  exact W.iret hexec hb hr (fun t ht _ => ⟨rfl, ht⟩) (fun _ h => by cases h) hdg hlocks
theorem ro_zret {v r : Int32} (hexec : p.tables.exec = Jvm.exec) (hb : c.code = cc) (hr : meth.sig.returnType = some .boolean) (hlocks : meth.locks = false) (hn : narrow .boolean (.int v) = .int v) (hv : v = r) (hdg : decode cc pc = .ok (.ireturn, 1)) : W p l e R s m args below meth c s.heap [] 0 0 (MQ below (ro_Q (.int r)) args s 0 0 (fun _ => False)) (F0 m pc ls [.int v]) := by
  subst hv
  exact W.zret hexec hb hr hn (fun t ht _ => ⟨rfl, ht⟩) (fun _ h => by cases h) hdg hlocks
theorem ro_lret {v r : Int64} (hexec : p.tables.exec = Jvm.exec) (hb : c.code = cc) (hr : meth.sig.returnType = some .long) (hlocks : meth.locks = false) (hv : v = r) (hdg : decode cc pc = .ok (.lreturn, 1)) : W p l e R s m args below meth c s.heap [] 0 0 (MQ below (ro_Q (.long r)) args s 0 0 (fun _ => False)) (F0 m pc ls [.long v]) := by
  subst hv
  exact W.lret hexec hb hr (fun t ht _ => ⟨rfl, ht⟩) (fun _ h => by cases h) hdg hlocks
theorem wr_iret {S : Type} {post : Int32 → S → Prop} {B : S → State → Prop} {A : Nat → Prop} {v : Int32} (u : S) (hexec : p.tables.exec = Jvm.exec) (hb : c.code = cc) (hr : meth.sig.returnType = some .int) (hlocks : meth.locks = false) (hp : post v u) (hB : ∀ t : State, t.heap = H → B u t) (hS : va_S A s.heap H locs) (hdg : decode cc pc = .ok (.ireturn, 1)) : W p l e R s m args below meth c H locs cells slots (MQ below (va_Qi post B A) args s cells slots A) (F0 m pc ls [.int v]) := W.iret hexec hb hr (fun t ht _ => ⟨⟨v, u, rfl, hp, hB t ht⟩, hS.F ht⟩) hS.2.2 hdg hlocks
theorem wr_lret {S : Type} {post : Int64 → S → Prop} {B : S → State → Prop} {A : Nat → Prop} {v : Int64} (u : S) (hexec : p.tables.exec = Jvm.exec) (hb : c.code = cc) (hr : meth.sig.returnType = some .long) (hlocks : meth.locks = false) (hp : post v u) (hB : ∀ t : State, t.heap = H → B u t) (hS : va_S A s.heap H locs) (hdg : decode cc pc = .ok (.lreturn, 1)) : W p l e R s m args below meth c H locs cells slots (MQ below (va_Ql post B A) args s cells slots A) (F0 m pc ls [.long v]) := W.lret hexec hb hr (fun t ht _ => ⟨⟨v, u, rfl, hp, hB t ht⟩, hS.F ht⟩) hS.2.2 hdg hlocks
theorem wr_vret {S : Type} {post : S → Prop} {B : S → State → Prop} {A : Nat → Prop} (u : S) (hexec : p.tables.exec = Jvm.exec) (hb : c.code = cc) (hr : meth.sig.returnType = none) (hlocks : meth.locks = false) (hp : post u) (hB : ∀ t : State, t.heap = H → B u t) (hS : va_S A s.heap H locs) (hdg : decode cc pc = .ok (.return_, 1)) : W p l e R s m args below meth c H locs cells slots (MQ below (va_Qv post B A) args s cells slots A) (F0 m pc ls []) := W.vret hexec hb hr (fun t ht _ => ⟨⟨u, rfl, hp, hB t ht⟩, hS.F ht⟩) hS.2.2 hdg hlocks
theorem wr_calli {S : Type} {post : Int32 → S → Prop} {D : va_G} {cl : List vw_C} {w : S → va_W} {n : Nat} {ad : Nat → Nat} (hr : va_Run p l e R s m args below meth c H locs cells slots 0 0 (F0 m pc ls st0) rest (va_Qi post (fun u t => va_P D cl (w u) t.heap) (aW n ad H.size) a) (aW n ad H.size)) (hS : va_S (aW n ad s.heap.size) s.heap H locs)
    (kk : ∀ (r : Int32) (u : S) (H1 : Heap) (locs1 : List Loc), post r u → va_P D cl (w u) H1 → va_S (aW n ad s.heap.size) s.heap H1 locs1 → W p l e R s m args below meth c H1 locs1 cells slots Q (F0 m (pc + 3) ls (.int r :: rest))) : W p l e R s m args below meth c H locs cells slots Q (F0 m pc ls st0) :=
  va_calli hr hS (fun _ _ h => aW_le hS.1 h) (fun _ h => aW_le hS.1 h) (fun r u _ H1 locs1 ht _ hp hB _ _ hS1 => kk r u H1 locs1 hp (by rw [← ht]; exact hB) hS1)
theorem wr_calll {S : Type} {post : Int64 → S → Prop} {D : va_G} {cl : List vw_C} {w : S → va_W} {n : Nat} {ad : Nat → Nat} (hr : va_Run p l e R s m args below meth c H locs cells slots 0 0 (F0 m pc ls st0) rest (va_Ql post (fun u t => va_P D cl (w u) t.heap) (aW n ad H.size) a) (aW n ad H.size)) (hS : va_S (aW n ad s.heap.size) s.heap H locs)
    (kk : ∀ (r : Int64) (u : S) (H1 : Heap) (locs1 : List Loc), post r u → va_P D cl (w u) H1 → va_S (aW n ad s.heap.size) s.heap H1 locs1 → W p l e R s m args below meth c H1 locs1 cells slots Q (F0 m (pc + 3) ls (.long r :: rest))) : W p l e R s m args below meth c H locs cells slots Q (F0 m pc ls st0) :=
  va_calll hr hS (fun _ _ h => aW_le hS.1 h) (fun _ h => aW_le hS.1 h) (fun r u _ H1 locs1 ht _ hp hB _ _ hS1 => kk r u H1 locs1 hp (by rw [← ht]; exact hB) hS1)
theorem wr_callv {S : Type} {post : S → Prop} {D : va_G} {cl : List vw_C} {w : S → va_W} {n : Nat} {ad : Nat → Nat} (hr : va_Run p l e R s m args below meth c H locs cells slots 0 0 (F0 m pc ls st0) rest (va_Qv post (fun u t => va_P D cl (w u) t.heap) (aW n ad H.size) a) (aW n ad H.size)) (hS : va_S (aW n ad s.heap.size) s.heap H locs)
    (kk : ∀ (u : S) (H1 : Heap) (locs1 : List Loc), post u → va_P D cl (w u) H1 → va_S (aW n ad s.heap.size) s.heap H1 locs1 → W p l e R s m args below meth c H1 locs1 cells slots Q (F0 m (pc + 3) ls rest)) : W p l e R s m args below meth c H locs cells slots Q (F0 m pc ls st0) :=
  va_callv hr hS (fun _ _ h => aW_le hS.1 h) (fun _ h => aW_le hS.1 h) (fun u _ H1 locs1 ht _ hp hB _ _ hS1 => kk u H1 locs1 hp (by rw [← ht]; exact hB) hS1)
theorem pre_S {As : List Value} {P : State → Prop} (hbl : ∀ (U : State) (g : JFrame) (mk : MethodId) (a : Array Value), P U → P (U.calling g mk a)) (h : ∀ U : State, U.heap = H → s.WarmedH U.vm → P U) : PreS s H (va_Pc As P) As := ⟨fun _ _ _ _ q => ⟨q.1, hbl _ _ _ _ q.2⟩, fun U hU hW => ⟨rfl, h U hU hW⟩⟩
theorem pre_0 {As : List Value} : PreS s H (va_Pc As (fun _ => True)) As := pre_S (fun _ _ _ _ h => h) (fun _ _ _ => trivial)
theorem pre_V {C : String} {b : Addr} {As : List Value} {P : State → Prop} (hbl : ∀ (U : State) (g : JFrame) (mk : MethodId) (a : Array Value), P U → P (U.calling g mk a)) (hrec : ∃ cellB : Cell, H[b]? = some cellB ∧ cellB.vm.isStatics = false ∧ s.vm.findClass C = some cellB.cls) (h : ∀ U : State, U.heap = H → s.WarmedH U.vm → P U) : PreV s H C b (va_Pc (.ref b :: As) P) As := ⟨fun _ _ _ _ q => ⟨q.1, hbl _ _ _ _ q.2⟩, hrec, fun U hU hW => ⟨rfl, h U hU hW⟩⟩
variable {D : va_G} {cl : List vw_C} {A : Nat → Prop} {b : Nat} {tys : List (ClassId × FieldType)} {ws ws' : va_W} {H0 : Heap}
theorem an_iald (hexec : p.tables.exec = Jvm.exec) (hb : c.code = cc) (hK : va_K D cl tys s) (hP : va_P D cl ws H) (q0 t0 : Nat) {cA : ClassId} {n : Nat} {f : Nat → Int32} (ha : ws[q0]? = some (b, .inl (cA, n, .inl f))) (ht : tys[t0]? = some (cA, .int)) {i : Nat} (hn : n < 2 ^ 31) (hin : i < n) (hdg : decode cc pc = .ok (.iaload, 1))
    (kk : W p l e R s m args below meth c H locs cells slots Q (F0 m (pc + 1) ls (.int (f i) :: rest))) : W p l e R s m args below meth c H locs cells slots Q (F0 m pc ls (.int (nI i) :: .ref b :: rest)) :=
  va_iald hexec hb hK hP q0 t0 ha ht (vp_in_nI hin hn) hdg (by rw [nI_clamp (Nat.lt_trans hin hn)]; exact kk)
theorem an_zald (hexec : p.tables.exec = Jvm.exec) (hb : c.code = cc) (hK : va_K D cl tys s) (hP : va_P D cl ws H) (q0 t0 : Nat) {cA : ClassId} {n : Nat} {f : Nat → Int32} (ha : ws[q0]? = some (b, .inl (cA, n, .inl f))) (ht : tys[t0]? = some (cA, .boolean)) {i : Nat} (hn : n < 2 ^ 31) (hin : i < n) (hdg : decode cc pc = .ok (.baload, 1))
    (kk : W p l e R s m args below meth c H locs cells slots Q (F0 m (pc + 1) ls (.int (f i) :: rest))) : W p l e R s m args below meth c H locs cells slots Q (F0 m pc ls (.int (nI i) :: .ref b :: rest)) :=
  va_zald hexec hb hK hP q0 t0 ha ht (vp_in_nI hin hn) hdg (by rw [nI_clamp (Nat.lt_trans hin hn)]; exact kk)
theorem an_lald (hexec : p.tables.exec = Jvm.exec) (hb : c.code = cc) (hK : va_K D cl tys s) (hP : va_P D cl ws H) (q0 t0 : Nat) {cA : ClassId} {n : Nat} {f : Nat → Int64} (ha : ws[q0]? = some (b, .inl (cA, n, .inr (.inl f)))) (ht : tys[t0]? = some (cA, .long)) {i : Nat} (hn : n < 2 ^ 31) (hin : i < n) (hdg : decode cc pc = .ok (.laload, 1))
    (kk : W p l e R s m args below meth c H locs cells slots Q (F0 m (pc + 1) ls (.long (f i) :: rest))) : W p l e R s m args below meth c H locs cells slots Q (F0 m pc ls (.int (nI i) :: .ref b :: rest)) :=
  va_lald hexec hb hK hP q0 t0 ha ht (vp_in_nI hin hn) hdg (by rw [nI_clamp (Nat.lt_trans hin hn)]; exact kk)
theorem an_iast (hexec : p.tables.exec = Jvm.exec) (hb : c.code = cc) (hK : va_K D cl tys s) (hP : va_P D cl ws H) (hD : va_D A ws) (hS : va_S A H0 H locs) (q0 t0 : Nat) {cA : ClassId} {n : Nat} {f : Nat → Int32} (ha : ws[q0]? = some (b, .inl (cA, n, .inl f))) (ht : tys[t0]? = some (cA, .int)) {i : Nat} {x : Int32} (hn : n < 2 ^ 31) (hin : i < n) (hw : ws.set q0 (b, .inl (cA, n, .inl (upd f i x))) = ws') (hdg : decode cc pc = .ok (.iastore, 1))
    (kk : ∀ (H1 : Heap) (locs1 : List Loc), va_P D cl ws' H1 → va_S A H0 H1 locs1 → W p l e R s m args below meth c H1 locs1 cells slots Q (F0 m (pc + 1) ls rest)) : W p l e R s m args below meth c H locs cells slots Q (F0 m pc ls (.int x :: .int (nI i) :: .ref b :: rest)) :=
  va_iast hexec hb hK hP hD hS q0 t0 ha ht (vp_in_nI hin hn) hdg (fun H1 locs1 h1 _ h3 => kk H1 locs1 (by rw [nI_clamp (Nat.lt_trans hin hn), hw] at h1; exact h1) h3)
theorem an_zast (hexec : p.tables.exec = Jvm.exec) (hb : c.code = cc) (hK : va_K D cl tys s) (hP : va_P D cl ws H) (hD : va_D A ws) (hS : va_S A H0 H locs) (q0 t0 : Nat) {cA : ClassId} {n : Nat} {f : Nat → Int32} (ha : ws[q0]? = some (b, .inl (cA, n, .inl f))) (ht : tys[t0]? = some (cA, .boolean)) {i : Nat} {x : Int32} (hx1 : vp_nar .boolean x = x) (hn : n < 2 ^ 31) (hin : i < n) (hw : ws.set q0 (b, .inl (cA, n, .inl (upd f i x))) = ws') (hdg : decode cc pc = .ok (.bastore, 1))
    (kk : ∀ (H1 : Heap) (locs1 : List Loc), va_P D cl ws' H1 → va_S A H0 H1 locs1 → W p l e R s m args below meth c H1 locs1 cells slots Q (F0 m (pc + 1) ls rest)) : W p l e R s m args below meth c H locs cells slots Q (F0 m pc ls (.int x :: .int (nI i) :: .ref b :: rest)) :=
  va_zast hexec hb hK hP hD hS q0 t0 ha ht (vp_in_nI hin hn) hdg (fun H1 locs1 h1 _ h3 => kk H1 locs1 (by rw [hx1, nI_clamp (Nat.lt_trans hin hn), hw] at h1; exact h1) h3)
theorem an_last (hexec : p.tables.exec = Jvm.exec) (hb : c.code = cc) (hK : va_K D cl tys s) (hP : va_P D cl ws H) (hD : va_D A ws) (hS : va_S A H0 H locs) (q0 t0 : Nat) {cA : ClassId} {n : Nat} {f : Nat → Int64} (ha : ws[q0]? = some (b, .inl (cA, n, .inr (.inl f)))) (ht : tys[t0]? = some (cA, .long)) {i : Nat} {x : Int64} (hn : n < 2 ^ 31) (hin : i < n) (hw : ws.set q0 (b, .inl (cA, n, .inr (.inl (vp_updL f i x)))) = ws') (hdg : decode cc pc = .ok (.lastore, 1))
    (kk : ∀ (H1 : Heap) (locs1 : List Loc), va_P D cl ws' H1 → va_S A H0 H1 locs1 → W p l e R s m args below meth c H1 locs1 cells slots Q (F0 m (pc + 1) ls rest)) : W p l e R s m args below meth c H locs cells slots Q (F0 m pc ls (.long x :: .int (nI i) :: .ref b :: rest)) :=
  va_last hexec hb hK hP hD hS q0 t0 ha ht (vp_in_nI hin hn) hdg (fun H1 locs1 h1 _ h3 => kk H1 locs1 (by rw [nI_clamp (Nat.lt_trans hin hn), hw] at h1; exact h1) h3)
theorem an_put (hexec : p.tables.exec = Jvm.exec) (hb : c.code = cc) {own C : String} {T : u_T} {N ci index : Nat} {Ts : List Cond} (hts : ∀ w ∈ Ts, w.before args s = true) (hin : ∀ w ∈ u_ws C T N, w ∈ Ts) (ty0 : Nat → FieldType) (hty : ∀ k, k < N → parseFieldDescriptor (T k).2.2.1 = some (ty0 k)) (hnm : ∀ a, a < N → ∀ b, b < N → a ≠ b → (T a).2.1 ≠ (T b).2.1) (hown : s.vm.findClass own = some m.cls) (hK : va_K D cl tys s) (hP : va_P D cl ws H) (hD : va_D A ws) (hS : va_S A H0 H locs) (q0 : Nat) {fs : List Value} (he : ws[q0]? = some (b, .inr (ci, fs))) (hc : cl[ci]? = some (C, T, N)) (k : Nat) (hk : k < N) (hlink : (Cond.fieldLink own index (T k).1 (T k).2.1 (T k).2.2.1).before args s = true) (hfin : (T k).2.2.2 = false) {ty : FieldType} {v : Value} (hd : parseFieldDescriptor (T k).2.2.1 = some ty) (hn : narrow ty v = v) (hfit : fits ty v = true) (hl : k < fs.length) (hw : ws.set q0 (b, .inr (ci, fs.set k v)) = ws')
    (hdg : decode cc pc = .ok (.putfield index, 3)) (kk : ∀ (H1 : Heap) (locs1 : List Loc), va_P D cl ws' H1 → va_S A H0 H1 locs1 → W p l e R s m args below meth c H1 locs1 cells slots Q (F0 m (pc + 3) ls rest)) : W p l e R s m args below meth c H locs cells slots Q (F0 m pc ls (v :: .ref b :: rest)) :=
  va_put hexec hb hts hin ty0 hty hnm hown hK hP hD hS q0 he hc k hk hlink (fun _ h => h) hfin hd hn hfit hl hdg (fun H1 locs1 h1 _ h3 => kk H1 locs1 (hw ▸ h1) h3)
theorem an_get (hexec : p.tables.exec = Jvm.exec) (hb : c.code = cc) {own C : String} {T : u_T} {N ci index : Nat} {Ts : List Cond} (hts : ∀ w ∈ Ts, w.before args s = true) (hin : ∀ w ∈ u_ws C T N, w ∈ Ts) (hown : s.vm.findClass own = some m.cls) (hK : va_K D cl tys s) (hP : va_P D cl ws H) (q0 : Nat) {fs : List Value} (he : ws[q0]? = some (b, .inr (ci, fs))) (hc : cl[ci]? = some (C, T, N)) (k : Nat) (hk : k < N) (hlink : (Cond.fieldLink own index (T k).1 (T k).2.1 (T k).2.2.1).before args s = true) {v : Value} (hv : fs[k]? = some v) (hdg : decode cc pc = .ok (.getfield index, 3))
    (kk : W p l e R s m args below meth c H locs cells slots Q (F0 m (pc + 3) ls (v :: rest))) : W p l e R s m args below meth c H locs cells slots Q (F0 m pc ls (.ref b :: rest)) :=
  va_get hexec hb hts hin hown hK hP q0 he hc k hk hlink (fun _ h => h) hv hdg kk
end BB
theorem nar_if {P : Prop} [Decidable P] : narrow .boolean (.int (if P then 1 else 0)) = .int (if P then 1 else 0) := by split <;> rfl
theorem if_z {P : Prop} [Decidable P] {x : Int32} (hx : x = if P then 1 else 0) : (x = 0 ↔ ¬ P) := by subst hx; by_cases h : P <;> simp [h]
theorem if_10 {P : Prop} [Decidable P] (h : P) : (if P then (1 : Int32) else 0) = 1 := if_pos h
end
section
/-! ===== System.arraycopy, with naturals ===== -/
section BC
variable {p : Program} {l : Launch} {e : Env} {R : Room} {s : State} {m : MethodId} {args : Array Value} {below : List Frame} {meth : Method} {c : Code} {H : Heap} {locs : List Loc} {cells slots : Nat} {Q : State → Prop} {cc : ByteArray} {pc : Nat} {ls : Array Slot} {rest : List Value}
variable {D : va_G} {cl : List vw_C} {A : Nat → Prop} {b b0 : Nat} {tys : List (ClassId × FieldType)} {ws ws' : va_W} {H0 : Heap}
theorem an_copyi (hexec : p.tables.exec = Jvm.exec) (hb : c.code = cc) (hml : c.maxLocals = ls.size) {own : String} {index : Nat} (hown : s.vm.findClass own = some m.cls) (hlink : (Cond.methodLink own index arraycopyName).before args s = true) (hnat : (Cond.native arraycopyName).before args s = true) (hstat : (Cond.static arraycopyName).before args s = true) (hini : (Cond.initialized "java/lang/System").before args s = true)
    (hK : va_K D cl tys s) (hP : va_P D cl ws H) (hD : va_D A ws) (hS : va_S A H0 H locs) (q0 q1 t0 : Nat) {cA : ClassId} {n0 n1 : Nat} {f f1 : Nat → Int32} (ha0 : ws[q0]? = some (b0, .inl (cA, n0, .inl f))) (ha1 : ws[q1]? = some (b, .inl (cA, n1, .inl f1))) (ht : tys[t0]? = some (cA, .int))
    {sp dp n : Nat} (g1 : sp < 2 ^ 31) (g2 : dp < 2 ^ 31) (g3 : n < 2 ^ 31) (h4 : sp + n ≤ n0) (h5 : dp + n ≤ n1) (hw : ws.set q1 (b, .inl (cA, n1, .inl (va_cpy f f1 sp dp n))) = ws')
    (hframes : 1 ≤ R.frames) (hlocals : (rest.map fun v => v.category).sum + (nativeFrameWords "java/lang/System" "arraycopy" 5 + 11) ≤ R.locals) (hdg : decode cc pc = .ok (.invokestatic index, 3))
    (kk : ∀ (H1 : Heap) (locs1 : List Loc), va_P D cl ws' H1 → va_S A H0 H1 locs1 → W p l e R s m args below meth c H1 locs1 cells slots Q (F0 m (pc + 3) ls rest)) : W p l e R s m args below meth c H locs cells slots Q (F0 m pc ls (.int (nI n) :: .int (nI dp) :: .ref b :: .int (nI sp) :: .ref b0 :: rest)) := by
  have e1 := nI_clamp g1
  have e2 := nI_clamp g2
  have e3 := nI_clamp g3
  exact va_copyi hexec hb hml hown hlink hnat hstat hini hK hP hD hS q0 q1 t0 t0 ha0 ha1 ht ht rfl (nI_pos g1) (nI_pos g2) (nI_pos g3) (by rw [e1, e3]; exact h4) (by rw [e2, e3]; exact h5) (fun _ _ => rfl) hframes hlocals hdg (fun H1 locs1 h1 _ h3 => kk H1 locs1 (by rw [e1, e2, e3, hw] at h1; exact h1) h3)
theorem an_copyl (hexec : p.tables.exec = Jvm.exec) (hb : c.code = cc) (hml : c.maxLocals = ls.size) {own : String} {index : Nat} (hown : s.vm.findClass own = some m.cls) (hlink : (Cond.methodLink own index arraycopyName).before args s = true) (hnat : (Cond.native arraycopyName).before args s = true) (hstat : (Cond.static arraycopyName).before args s = true) (hini : (Cond.initialized "java/lang/System").before args s = true)
    (hK : va_K D cl tys s) (hP : va_P D cl ws H) (hD : va_D A ws) (hS : va_S A H0 H locs) (q0 q1 t0 : Nat) {cA : ClassId} {n0 n1 : Nat} {f f1 : Nat → Int64} (ha0 : ws[q0]? = some (b0, .inl (cA, n0, .inr (.inl f)))) (ha1 : ws[q1]? = some (b, .inl (cA, n1, .inr (.inl f1)))) (ht : tys[t0]? = some (cA, .long))
    {sp dp n : Nat} (g1 : sp < 2 ^ 31) (g2 : dp < 2 ^ 31) (g3 : n < 2 ^ 31) (h4 : sp + n ≤ n0) (h5 : dp + n ≤ n1) (hw : ws.set q1 (b, .inl (cA, n1, .inr (.inl (va_cpy f f1 sp dp n)))) = ws')
    (hframes : 1 ≤ R.frames) (hlocals : (rest.map fun v => v.category).sum + (nativeFrameWords "java/lang/System" "arraycopy" 5 + 11) ≤ R.locals) (hdg : decode cc pc = .ok (.invokestatic index, 3))
    (kk : ∀ (H1 : Heap) (locs1 : List Loc), va_P D cl ws' H1 → va_S A H0 H1 locs1 → W p l e R s m args below meth c H1 locs1 cells slots Q (F0 m (pc + 3) ls rest)) : W p l e R s m args below meth c H locs cells slots Q (F0 m pc ls (.int (nI n) :: .int (nI dp) :: .ref b :: .int (nI sp) :: .ref b0 :: rest)) := by
  have e1 := nI_clamp g1
  have e2 := nI_clamp g2
  have e3 := nI_clamp g3
  exact va_copyl hexec hb hml hown hlink hnat hstat hini hK hP hD hS q0 q1 t0 t0 ha0 ha1 ht ht rfl (nI_pos g1) (nI_pos g2) (nI_pos g3) (by rw [e1, e3]; exact h4) (by rw [e2, e3]; exact h5) (fun _ _ => rfl) hframes hlocals hdg (fun H1 locs1 h1 _ h3 => kk H1 locs1 (by rw [e1, e2, e3, hw] at h1; exact h1) h3)
end BC
end
section
/-! ===== the two sides: their states, their worlds ===== -/
abbrev vwCl : List vw_C := [(RX0, TX0, 1), (RX1, TX1, 5), (RX2, TX2, 11), (RX3, TX3, 10), (RX4, TX4, 6), (RX5, TX5, 6), (RX6, TX6, 23)]
abbrev GW : Type := va_G × (ClassId × ClassId × ClassId) × (Nat → Nat)
def tyW (g : GW) : List (ClassId × FieldType) := [(g.2.1.1, .int), (g.2.1.2.1, .long), (g.2.1.2.2, .boolean)]
def wX (g : GW) (asked : Int64) (values : Nat → Int32) (bytes : Nat → Int32) (starts : Nat → Int32) (ends : Nat → Int32) (length : Int32) (parts : Int32) (texts : Nat → Int32) (lengths : Nat → Int32) (feet : Nat → Int32) (sorts : Nat → Int32) (nxt : Nat → Int32) (size : Int32) (sums : Nat → Int32) (oneSums : Nat → Int32) (otherSums : Nat → Int32) (byFeet : Nat → Int64) (kept : Nat → Int64) (over : Int32) (rcount : Int32) (rcust : Int32) (ssums : Nat → Int32) (ways : Nat → Int64) (nextWays : Nat → Int64) (reached : Nat → Int64) (nextReached : Nat → Int64) (found : Int32) (least : Int32) (greatest : Int32) : va_W := [(g.2.2 0, .inr (5, [.ref (g.2.2 1), .ref (g.2.2 3), .ref (g.2.2 7), .ref (g.2.2 13), .ref (g.2.2 19), .long asked])), (g.2.2 1, .inr (0, [.ref (g.2.2 2)])), (g.2.2 2, .inl (g.2.1.1, 104, .inl values)), (g.2.2 3, .inr (1, [.ref (g.2.2 4), .ref (g.2.2 5), .ref (g.2.2 6), .int length, .int parts])), (g.2.2 4, .inl (g.2.1.1, 40, .inl bytes)), (g.2.2 5, .inl (g.2.1.1, 20, .inl starts)), (g.2.2 6, .inl (g.2.1.1, 20, .inl ends)), (g.2.2 7, .inr (4, [.ref (g.2.2 8), .ref (g.2.2 9), .ref (g.2.2 10), .ref (g.2.2 11), .ref (g.2.2 12), .int size])), (g.2.2 8, .inl (g.2.1.1, 80, .inl texts)), (g.2.2 9, .inl (g.2.1.1, 10, .inl lengths)), (g.2.2 10, .inl (g.2.1.1, 10, .inl feet)), (g.2.2 11, .inl (g.2.1.1, 10, .inl sorts)), (g.2.2 12, .inl (g.2.1.1, 4, .inl nxt)), (g.2.2 13, .inr (3, [.ref (g.2.2 7), .ref (g.2.2 1), .ref (g.2.2 14), .ref (g.2.2 15), .ref (g.2.2 16), .ref (g.2.2 17), .ref (g.2.2 18), .int over, .int rcount, .int rcust])), (g.2.2 14, .inl (g.2.1.1, 10, .inl sums)), (g.2.2 15, .inl (g.2.1.1, 10, .inl oneSums)), (g.2.2 16, .inl (g.2.1.1, 10, .inl otherSums)), (g.2.2 17, .inl (g.2.1.2.1, 36, .inr (.inl byFeet))), (g.2.2 18, .inl (g.2.1.2.1, 9003, .inr (.inl kept))), (g.2.2 19, .inr (2, [.ref (g.2.2 3), .ref (g.2.2 7), .ref (g.2.2 1), .ref (g.2.2 20), .ref (g.2.2 21), .ref (g.2.2 22), .ref (g.2.2 23), .ref (g.2.2 24), .int found, .int least, .int greatest])), (g.2.2 20, .inl (g.2.1.1, 10, .inl ssums)), (g.2.2 21, .inl (g.2.1.2.1, 4, .inr (.inl ways))), (g.2.2 22, .inl (g.2.1.2.1, 4, .inr (.inl nextWays))), (g.2.2 23, .inl (g.2.1.2.1, 188, .inr (.inl reached))), (g.2.2 24, .inl (g.2.1.2.1, 188, .inr (.inl nextReached)))]
theorem wX_D {g : GW} {asked : Int64} {values : Nat → Int32} {bytes : Nat → Int32} {starts : Nat → Int32} {ends : Nat → Int32} {length : Int32} {parts : Int32} {texts : Nat → Int32} {lengths : Nat → Int32} {feet : Nat → Int32} {sorts : Nat → Int32} {nxt : Nat → Int32} {size : Int32} {sums : Nat → Int32} {oneSums : Nat → Int32} {otherSums : Nat → Int32} {byFeet : Nat → Int64} {kept : Nat → Int64} {over : Int32} {rcount : Int32} {rcust : Int32} {ssums : Nat → Int32} {ways : Nat → Int64} {nextWays : Nat → Int64} {reached : Nat → Int64} {nextReached : Nat → Int64} {found : Int32} {least : Int32} {greatest : Int32} {sz : Nat} (hd : dW 25 g.2.2) : va_D (aW 25 g.2.2 sz) (wX g asked values bytes starts ends length parts texts lengths feet sorts nxt size sums oneSums otherSums byFeet kept over rcount rcust ssums ways nextWays reached nextReached found least greatest) := dW_D hd rfl
def wM (g : GW) (trace : Int64) (value : Nat → Int32) (draft : Nat → Int32) (typed : Int32) (vocables : Int32) (letter : Nat → Int32) (long1 : Nat → Int32) (feet : Nat → Int32) (sort : Nat → Int32) (order : Nat → Int32) (left : Nat → Int64) (opn : Nat → Int64) (own : Nat → Int32) (other : Nat → Int32) (pick : Nat → Int32) (parts : Int32) (frm : Nat → Int32) (size : Nat → Int32) (isYear : Nat → Int32) (isNext : Nat → Int32) (ways : Nat → Int64) (nextWays : Nat → Int64) : va_W := [(g.2.2 0, .inr (6, [.int 0, .long trace, .ref (g.2.2 1), .ref (g.2.2 2), .int typed, .int vocables, .ref (g.2.2 3), .ref (g.2.2 4), .ref (g.2.2 5), .ref (g.2.2 6), .ref (g.2.2 7), .ref (g.2.2 8), .ref (g.2.2 9), .ref (g.2.2 10), .ref (g.2.2 11), .ref (g.2.2 12), .int parts, .ref (g.2.2 13), .ref (g.2.2 14), .ref (g.2.2 15), .ref (g.2.2 16), .ref (g.2.2 17), .ref (g.2.2 18)])), (g.2.2 1, .inl (g.2.1.1, 104, .inl value)), (g.2.2 2, .inl (g.2.1.1, 40, .inl draft)), (g.2.2 3, .inl (g.2.1.1, 80, .inl letter)), (g.2.2 4, .inl (g.2.1.1, 10, .inl long1)), (g.2.2 5, .inl (g.2.1.1, 10, .inl feet)), (g.2.2 6, .inl (g.2.1.1, 10, .inl sort)), (g.2.2 7, .inl (g.2.1.1, 4, .inl order)), (g.2.2 8, .inl (g.2.1.2.1, 108036, .inr (.inl left))), (g.2.2 9, .inl (g.2.1.2.1, 36, .inr (.inl opn))), (g.2.2 10, .inl (g.2.1.1, 10, .inl own)), (g.2.2 11, .inl (g.2.1.1, 10, .inl other)), (g.2.2 12, .inl (g.2.1.1, 8, .inl pick)), (g.2.2 13, .inl (g.2.1.1, 20, .inl frm)), (g.2.2 14, .inl (g.2.1.1, 20, .inl size)), (g.2.2 15, .inl (g.2.1.2.2, 9003, .inl isYear)), (g.2.2 16, .inl (g.2.1.2.2, 9003, .inl isNext)), (g.2.2 17, .inl (g.2.1.2.1, 4, .inr (.inl ways))), (g.2.2 18, .inl (g.2.1.2.1, 4, .inr (.inl nextWays)))]
theorem wM_D {g : GW} {trace : Int64} {value : Nat → Int32} {draft : Nat → Int32} {typed : Int32} {vocables : Int32} {letter : Nat → Int32} {long1 : Nat → Int32} {feet : Nat → Int32} {sort : Nat → Int32} {order : Nat → Int32} {left : Nat → Int64} {opn : Nat → Int64} {own : Nat → Int32} {other : Nat → Int32} {pick : Nat → Int32} {parts : Int32} {frm : Nat → Int32} {size : Nat → Int32} {isYear : Nat → Int32} {isNext : Nat → Int32} {ways : Nat → Int64} {nextWays : Nat → Int64} {sz : Nat} (hd : dW 19 g.2.2) : va_D (aW 19 g.2.2 sz) (wM g trace value draft typed vocables letter long1 feet sort order left opn own other pick parts frm size isYear isNext ways nextWays) := dW_D hd rfl
def nwX (U : State) : Prop := va_Nw (.methodLinkNest RX0 24 yX5_isLetter RX5) U ∧ va_Nw (.methodLinkNest RX0 28 yX5_isCapital RX5) U ∧ va_Nw (.methodLinkNest RX1 25 yX5_byteOf RX5) U ∧ va_Nw (.methodLinkNest RX1 35 yX5_isLetter RX5) U ∧ va_Nw (.methodLinkNest RX5 18 yX1_init RX5) U
theorem nwX_call {U : State} {g : JFrame} {mk : MethodId} {a : Array Value} (h : nwX U) : nwX (U.calling g mk a) := ⟨va_Nw.same rfl rfl h.1, va_Nw.same rfl rfl h.2.1, va_Nw.same rfl rfl h.2.2.1, va_Nw.same rfl rfl h.2.2.2.1, va_Nw.same rfl rfl h.2.2.2.2⟩
theorem nwX_warm {s U : State} (hW : s.WarmedH U.vm) (h : nwX s) : nwX U := ⟨va_Nw.warmM hW h.1, va_Nw.warmM hW h.2.1, va_Nw.warmM hW h.2.2.1, va_Nw.warmM hW h.2.2.2.1, va_Nw.warmM hW h.2.2.2.2⟩
def pW (g : GW) (ws : va_W) (U : State) : Prop := va_P g.1 vwCl ws U.heap ∧ va_K g.1 vwCl (tyW g) U ∧ nwX U
def qW (g : GW) (ws : va_W) (sz : Nat) (U : State) : Prop := U.heap.size = sz ∧ pW g ws U
theorem pW_bl {g : GW} {ws : va_W} (U : State) (f : JFrame) (mk : MethodId) (a : Array Value) (h : pW g ws U) : pW g ws (U.calling f mk a) := ⟨h.1, va_K.moved (u := U) (U := U.calling f mk a) (Vm.Alike.refl U.vm) h.2.1, nwX_call h.2.2⟩
theorem pW_of {g : GW} {ws : va_W} {s U : State} {H : Heap} (hP : va_P g.1 vwCl ws H) (hK : va_K g.1 vwCl (tyW g) s) (hN : nwX s) (hU : U.heap = H) (hW : s.WarmedH U.vm) : pW g ws U := ⟨by rw [hU]; exact hP, va_K.moved hW.alike hK, nwX_warm hW hN⟩
theorem qW_bl {g : GW} {ws : va_W} {sz : Nat} (U : State) (f : JFrame) (mk : MethodId) (a : Array Value) (h : qW g ws sz U) : qW g ws sz (U.calling f mk a) := ⟨h.1, pW_bl U f mk a h.2⟩
end
section
/-! ===== facts of the machine's numbers as facts of naturals and integers ===== -/
theorem cv_le_nn {a b : Nat} (ha : a < 2 ^ 31) (hb : b < 2 ^ 31) : nI a ≤ nI b ↔ a ≤ b := nI_leI ha hb
theorem cv_lt_nn {a b : Nat} (ha : a < 2 ^ 31) (hb : b < 2 ^ 31) : nI a < nI b ↔ a < b := nI_ltI ha hb
theorem cv_eq_nn {a b : Nat} (ha : a < 2 ^ 31) (hb : b < 2 ^ 31) : nI a = nI b ↔ a = b := nI_eq ha hb
theorem cv_le_ii {x y : Int32} : x ≤ y ↔ x.toInt ≤ y.toInt := Int32.le_iff_toInt_le
theorem cv_lt_ii {x y : Int32} : x < y ↔ x.toInt < y.toInt := Int32.lt_iff_toInt_lt
theorem cv_eq_ii {x y : Int32} : x = y ↔ x.toInt = y.toInt := Int32.toInt_inj.symm
theorem cv_le_in {x : Int32} {b : Nat} (hb : b < 2 ^ 31) : x ≤ nI b ↔ x.toInt ≤ (b : Int) := by rw [cv_le_ii, nI_toInt hb]
theorem cv_lt_in {x : Int32} {b : Nat} (hb : b < 2 ^ 31) : x < nI b ↔ x.toInt < (b : Int) := by rw [cv_lt_ii, nI_toInt hb]
theorem cv_eq_in {x : Int32} {b : Nat} (hb : b < 2 ^ 31) : x = nI b ↔ x.toInt = (b : Int) := by rw [cv_eq_ii, nI_toInt hb]
theorem cv_le_ni {x : Int32} {b : Nat} (hb : b < 2 ^ 31) : nI b ≤ x ↔ (b : Int) ≤ x.toInt := by rw [cv_le_ii, nI_toInt hb]
theorem cv_lt_ni {x : Int32} {b : Nat} (hb : b < 2 ^ 31) : nI b < x ↔ (b : Int) < x.toInt := by rw [cv_lt_ii, nI_toInt hb]
theorem cv_eq_ni {x : Int32} {b : Nat} (hb : b < 2 ^ 31) : nI b = x ↔ (b : Int) = x.toInt := by rw [cv_eq_ii, nI_toInt hb]
theorem cw_3 (x y : Int64) : (lg_cmp x y = 1 ∧ y.toInt < x.toInt) ∨ (lg_cmp x y = 0 ∧ x.toInt = y.toInt) ∨ (lg_cmp x y = -1 ∧ x.toInt < y.toInt) := by
  unfold lg_cmp
  simp only [gt_iff_lt, Int64.lt_iff_toInt_lt, ← Int64.toInt_inj]
  by_cases h1 : y.toInt < x.toInt
  · left; simp [h1]
  · by_cases h2 : x.toInt = y.toInt
    · right; left; simp [h2]
    · right; right
      refine ⟨by simp [h1, h2], by omega⟩
theorem cw_lt (x y : Int64) : (lg_cmp x y < 0 → x.toInt < y.toInt) ∧ (¬ lg_cmp x y < 0 → y.toInt ≤ x.toInt) := by
  rcases cw_3 x y with ⟨h, k⟩ | ⟨h, k⟩ | ⟨h, k⟩ <;> rw [h] <;> refine ⟨fun q => ?_, fun q => ?_⟩ <;> first | omega | exact absurd q (by decide)
theorem cw_ge (x y : Int64) : (0 ≤ lg_cmp x y → y.toInt ≤ x.toInt) ∧ (¬ 0 ≤ lg_cmp x y → x.toInt < y.toInt) := by
  rcases cw_3 x y with ⟨h, k⟩ | ⟨h, k⟩ | ⟨h, k⟩ <;> rw [h] <;> refine ⟨fun q => ?_, fun q => ?_⟩ <;> first | omega | exact absurd q (by decide)
theorem cw_gt (x y : Int64) : (0 < lg_cmp x y → y.toInt < x.toInt) ∧ (¬ 0 < lg_cmp x y → x.toInt ≤ y.toInt) := by
  rcases cw_3 x y with ⟨h, k⟩ | ⟨h, k⟩ | ⟨h, k⟩ <;> rw [h] <;> refine ⟨fun q => ?_, fun q => ?_⟩ <;> first | omega | exact absurd q (by decide)
theorem cw_le (x y : Int64) : (lg_cmp x y ≤ 0 → x.toInt ≤ y.toInt) ∧ (¬ lg_cmp x y ≤ 0 → y.toInt < x.toInt) := by
  rcases cw_3 x y with ⟨h, k⟩ | ⟨h, k⟩ | ⟨h, k⟩ <;> rw [h] <;> refine ⟨fun q => ?_, fun q => ?_⟩ <;> first | omega | exact absurd q (by decide)
theorem cw_eq (x y : Int64) : (lg_cmp x y = 0 → x.toInt = y.toInt) ∧ (¬ lg_cmp x y = 0 → x.toInt ≠ y.toInt) := by
  rcases cw_3 x y with ⟨h, k⟩ | ⟨h, k⟩ | ⟨h, k⟩ <;> rw [h] <;> refine ⟨fun q => ?_, fun q => ?_⟩ <;> first | omega | exact absurd q (by decide)
theorem cw_ne (x y : Int64) : (¬ lg_cmp x y = 0 → x.toInt ≠ y.toInt) ∧ (lg_cmp x y = 0 → x.toInt = y.toInt) := ⟨(cw_eq x y).2, (cw_eq x y).1⟩
theorem cx_T {a : Nat} (h : a < 2 ^ 63) : (lN a).toInt = (a : Int) := pk_lT h
theorem cx_lt {a b : Nat} (ha : a < 2 ^ 63) (hb : b < 2 ^ 63) : (lg_cmp (lN a) (lN b) < 0 → a < b) ∧ (¬ lg_cmp (lN a) (lN b) < 0 → b ≤ a) := by
  have h := cw_lt (lN a) (lN b)
  rw [cx_T ha, cx_T hb] at h
  exact ⟨fun q => by have := h.1 q; omega, fun q => by have := h.2 q; omega⟩
theorem cx_ge {a b : Nat} (ha : a < 2 ^ 63) (hb : b < 2 ^ 63) : (0 ≤ lg_cmp (lN a) (lN b) → b ≤ a) ∧ (¬ 0 ≤ lg_cmp (lN a) (lN b) → a < b) := by
  have h := cw_ge (lN a) (lN b)
  rw [cx_T ha, cx_T hb] at h
  exact ⟨fun q => by have := h.1 q; omega, fun q => by have := h.2 q; omega⟩
theorem cx_gt {a b : Nat} (ha : a < 2 ^ 63) (hb : b < 2 ^ 63) : (0 < lg_cmp (lN a) (lN b) → b < a) ∧ (¬ 0 < lg_cmp (lN a) (lN b) → a ≤ b) := by
  have h := cw_gt (lN a) (lN b)
  rw [cx_T ha, cx_T hb] at h
  exact ⟨fun q => by have := h.1 q; omega, fun q => by have := h.2 q; omega⟩
theorem cx_le {a b : Nat} (ha : a < 2 ^ 63) (hb : b < 2 ^ 63) : (lg_cmp (lN a) (lN b) ≤ 0 → a ≤ b) ∧ (¬ lg_cmp (lN a) (lN b) ≤ 0 → b < a) := by
  have h := cw_le (lN a) (lN b)
  rw [cx_T ha, cx_T hb] at h
  exact ⟨fun q => by have := h.1 q; omega, fun q => by have := h.2 q; omega⟩
theorem cx_eq {a b : Nat} (ha : a < 2 ^ 63) (hb : b < 2 ^ 63) : (lg_cmp (lN a) (lN b) = 0 → a = b) ∧ (¬ lg_cmp (lN a) (lN b) = 0 → a ≠ b) := by
  have h := cw_eq (lN a) (lN b)
  rw [cx_T ha, cx_T hb] at h
  exact ⟨fun q => by have := h.1 q; omega, fun q => by have := h.2 q; omega⟩
theorem cx_ne {a b : Nat} (ha : a < 2 ^ 63) (hb : b < 2 ^ 63) : (¬ lg_cmp (lN a) (lN b) = 0 → a ≠ b) ∧ (lg_cmp (lN a) (lN b) = 0 → a = b) := ⟨(cx_eq ha hb).2, (cx_eq ha hb).1⟩
theorem if_n {P : Prop} [Decidable P] (h : (if P then (1 : Int32) else 0) = 0) : ¬ P := fun q => by rw [if_pos q] at h; exact absurd h (by decide)
theorem if_p {P : Prop} [Decidable P] (h : ¬ (if P then (1 : Int32) else 0) = 0) : P := Decidable.byContradiction fun q => h (by rw [if_neg q])
theorem one_if {P : Prop} [Decidable P] (h : P) : nI 1 = if P then 1 else 0 := by rw [if_pos h]; rfl
theorem zero_if {P : Prop} [Decidable P] (h : ¬ P) : nI 0 = if P then 1 else 0 := by rw [if_neg h]; rfl
theorem if_cg {P P' : Prop} [Decidable P] [Decidable P'] (h : P ↔ P') : (if P then (1 : Int32) else 0) = if P' then 1 else 0 := by by_cases q : P <;> simp [q, h.mp, h, ← h]
theorem fb_rng0 (x : Int32) : -2147483648 ≤ x.toInt ∧ x.toInt < 2147483648 := ⟨Int32.le_toInt x, Int32.toInt_lt x⟩
theorem iN_of {x : Int32} {b : Nat} (h0 : 0 ≤ x.toInt) (h1 : x.toInt < (b : Int)) : ∃ j : Nat, j < b ∧ x = nI j := by
  refine ⟨x.toInt.toNat, by omega, ?_⟩
  have hb := fb_rng0 x
  rw [cv_eq_ii, nI_toInt (by omega)]
  omega
theorem z_toInt : (0 : Int32).toInt = 0 := by decide
theorem cz_eq_i {x : Int32} : x = 0 ↔ x.toInt = 0 := by rw [cv_eq_ii, z_toInt]
theorem cz_lt_i {x : Int32} : x < 0 ↔ x.toInt < 0 := by rw [cv_lt_ii, z_toInt]
theorem cz_le_i {x : Int32} : x ≤ 0 ↔ x.toInt ≤ 0 := by rw [cv_le_ii, z_toInt]
theorem cz_ge_i {x : Int32} : 0 ≤ x ↔ 0 ≤ x.toInt := by rw [cv_le_ii, z_toInt]
theorem cz_gt_i {x : Int32} : 0 < x ↔ 0 < x.toInt := by rw [cv_lt_ii, z_toInt]
theorem cz_eq_n {a : Nat} (h : a < 2 ^ 31) : nI a = 0 ↔ a = 0 := by rw [cz_eq_i, nI_toInt h]; omega
theorem cz_lt_n {a : Nat} (h : a < 2 ^ 31) : nI a < 0 ↔ (a : Int) < 0 := by rw [cz_lt_i, nI_toInt h]
theorem cz_le_n {a : Nat} (h : a < 2 ^ 31) : nI a ≤ 0 ↔ a ≤ 0 := by rw [cz_le_i, nI_toInt h]; omega
theorem cz_ge_n {a : Nat} (h : a < 2 ^ 31) : 0 ≤ nI a ↔ 0 ≤ a := by rw [cz_ge_i, nI_toInt h]; omega
theorem cz_gt_n {a : Nat} (h : a < 2 ^ 31) : 0 < nI a ↔ 0 < a := by rw [cz_gt_i, nI_toInt h]; omega
theorem w_toInt (x : Int32) : x.toInt64.toInt = x.toInt := Int32.toInt_toInt64 x
end
section
/-! rows on bits, shifts and unsigned numbers, to paste: each family out of a closed proof of our own, whole with what it rests on; each by itself clean at Lean in its own claim (generation 39, form 5). Take a family whole -/
/-! ===== Int32 by its bits: bt x i ===== -/
def bt (x : Int32) (i : Nat) : Bool := x.toBitVec.getLsbD i
theorem b_ext {x y : Int32} (h : ∀ i, i < 32 → bt x i = bt y i) : x = y := Int32.toBitVec_inj.mp (BitVec.eq_of_getLsbD_eq (fun i hi => h i hi))
theorem b_or (x y : Int32) (i : Nat) : bt (x ||| y) i = (bt x i || bt y i) := by unfold bt; rw [Int32.toBitVec_or, BitVec.getLsbD_or]
theorem b_and (x y : Int32) (i : Nat) : bt (x &&& y) i = (bt x i && bt y i) := by unfold bt; rw [Int32.toBitVec_and, BitVec.getLsbD_and]
theorem b_xor (x y : Int32) (i : Nat) : bt (x ^^^ y) i = (bt x i ^^ bt y i) := by unfold bt; rw [Int32.toBitVec_xor, BitVec.getLsbD_xor]
theorem b_big {x : Int32} {i : Nat} (h : 32 ≤ i) : bt x i = false := BitVec.getLsbD_of_ge _ _ h
theorem b_255 (i : Nat) : bt 255 i = decide (i < 8) := by
  rcases Nat.lt_or_ge i 32 with h | h
  · exact (by decide +kernel : ∀ i, i < 32 → bt 255 i = decide (i < 8)) i h
  · rw [b_big h, decide_eq_false (by omega)]
theorem b_65535 (i : Nat) : bt 65535 i = decide (i < 16) := by
  rcases Nat.lt_or_ge i 32 with h | h
  · exact (by decide +kernel : ∀ i, i < 32 → bt 65535 i = decide (i < 16)) i h
  · rw [b_big h, decide_eq_false (by omega)]
theorem b_m1 : ∀ i, i < 32 → bt (-1) i = true := by decide +kernel
theorem b_0 (i : Nat) : bt 0 i = false := BitVec.getLsbD_zero
theorem s_l : ∀ n, n < 32 → ((nI n &&& 31).toBitVec.smod 32).toNat = n := by decide +kernel
theorem s_u : ∀ n, n < 32 → (((nI n).toUInt32 &&& Int32.toUInt32 31).toBitVec % 32).toNat = n := by decide +kernel
theorem b_shl (n : Nat) (hn : n < 32) (x : Int32) {i : Nat} (hi : i < 32) : bt (x <<< (nI n &&& 31)) i = (decide (n ≤ i) && bt x (i - n)) := by
  unfold bt
  rw [Int32.toBitVec_shiftLeft]
  show (x.toBitVec <<< ((nI n &&& 31).toBitVec.smod 32).toNat).getLsbD i = _
  rw [s_l n hn, BitVec.getLsbD_shiftLeft]
  rcases Nat.lt_or_ge i n with h | h
  · simp [h, Nat.not_le.mpr h]
  · simp [hi, h, Nat.not_lt.mpr h]
theorem b_ushr (n : Nat) (hn : n < 32) (x : Int32) (i : Nat) : bt ((x.toUInt32 >>> ((nI n).toUInt32 &&& Int32.toUInt32 31)).toInt32) i = bt x (n + i) := by
  show (x.toUInt32 >>> ((nI n).toUInt32 &&& Int32.toUInt32 31)).toBitVec.getLsbD i = x.toUInt32.toBitVec.getLsbD (n + i)
  rw [UInt32.toBitVec_shiftRight]
  show (x.toUInt32.toBitVec >>> (((nI n).toUInt32 &&& Int32.toUInt32 31).toBitVec % 32).toNat).getLsbD i = _
  rw [s_u n hn, BitVec.getLsbD_ushiftRight]
theorem b_sshr (n : Nat) (hn : n < 32) (x : Int32) {i : Nat} (hi : i < 32) : bt (x >>> (nI n &&& 31)) i = if n + i < 32 then bt x (n + i) else bt x 31 := by
  unfold bt
  rw [Int32.toBitVec_shiftRight]
  show (x.toBitVec.sshiftRight ((nI n &&& 31).toBitVec.smod 32).toNat).getLsbD i = _
  rw [s_l n hn, BitVec.getLsbD_sshiftRight, BitVec.msb_eq_getLsbD_last]
  simp [hi]
theorem b_shl8 (x : Int32) {i : Nat} (hi : i < 32) : bt (x <<< ((8 : Int32) &&& 31)) i = (decide (8 ≤ i) && bt x (i - 8)) := b_shl 8 (by omega) x hi
theorem b_shl16 (x : Int32) {i : Nat} (hi : i < 32) : bt (x <<< ((16 : Int32) &&& 31)) i = (decide (16 ≤ i) && bt x (i - 16)) := b_shl 16 (by omega) x hi
theorem b_shl24 (x : Int32) {i : Nat} (hi : i < 32) : bt (x <<< ((24 : Int32) &&& 31)) i = (decide (24 ≤ i) && bt x (i - 24)) := b_shl 24 (by omega) x hi
theorem b_sshr8 (x : Int32) {i : Nat} (hi : i < 32) : bt (x >>> ((8 : Int32) &&& 31)) i = if 8 + i < 32 then bt x (8 + i) else bt x 31 := b_sshr 8 (by omega) x hi
/-! ===== nI under and, xor, >>>, one bit, 65535 ===== -/
theorem nx_and (a b : Nat) : nI a &&& nI b = nI (a &&& b) := by
  apply Int32.toBitVec_inj.1
  show BitVec.ofNat 32 a &&& BitVec.ofNat 32 b = BitVec.ofNat 32 (a &&& b)
  apply BitVec.eq_of_getLsbD_eq
  intro i hi
  simp [hi]
theorem nx_xor (a b : Nat) : nI a ^^^ nI b = nI (a ^^^ b) := by
  apply Int32.toBitVec_inj.1
  show BitVec.ofNat 32 a ^^^ BitVec.ofNat 32 b = BitVec.ofNat 32 (a ^^^ b)
  apply BitVec.eq_of_getLsbD_eq
  intro i hi
  simp [hi]
theorem nx_cnt : ∀ j : Fin 32, (UInt32.ofNat j.val &&& Int32.toUInt32 31).toNat % 32 = j.val := by decide +kernel
theorem nx_ush {k j : Nat} (hk : k < 65536) (hj : j < 32) : ((nI k).toUInt32 >>> ((nI j).toUInt32 &&& Int32.toUInt32 31)).toInt32 = nI (k >>> j) := by
  have hs : k >>> j ≤ k := by
    rw [Nat.shiftRight_eq_div_pow]
    exact Nat.div_le_self _ _
  have e2 : UInt32.ofNat k >>> (UInt32.ofNat j &&& Int32.toUInt32 31) = UInt32.ofNat (k >>> j) := by
    apply UInt32.toNat_inj.1
    have h1 : (UInt32.ofNat k).toNat = k := Nat.mod_eq_of_lt (by omega)
    have h2 : (UInt32.ofNat (k >>> j)).toNat = k >>> j := Nat.mod_eq_of_lt (by omega)
    rw [UInt32.toNat_shiftRight, nx_cnt ⟨j, hj⟩, h1, h2]
  show (UInt32.ofNat k >>> (UInt32.ofNat j &&& Int32.toUInt32 31)).toInt32 = _
  rw [e2]
  rfl
theorem nx_bit {k j : Nat} (hk : k < 65536) (hj : j < 16) : (((nI k).toUInt32 >>> ((nI j).toUInt32 &&& Int32.toUInt32 31)).toInt32 &&& 1) = 0 ↔ k.testBit j = false := by
  rw [nx_ush hk (by omega)]
  show nI (k >>> j) &&& nI 1 = 0 ↔ _
  rw [nx_and, Nat.and_one_is_mod, ← nI_0, nI_eq (by omega) (by omega), Nat.testBit_eq_decide_div_mod_eq, Nat.shiftRight_eq_div_pow, decide_eq_false_iff_not]
  generalize k / 2 ^ j = z
  omega
theorem nx_mod (k : Nat) : nI k &&& 65535 = nI (k % 65536) := by
  show nI k &&& nI 65535 = _
  rw [nx_and, show (65535 : Nat) = 2 ^ 16 - 1 from rfl, Nat.and_two_pow_sub_one_eq_mod]
theorem nx_m16 {k : Nat} (h : k < 65536) : nI k &&& 65535 = nI k := by rw [nx_mod, Nat.mod_eq_of_lt h]
theorem nx_mask (x : Int32) : ∃ k, k < 65536 ∧ x &&& 65535 = nI k := by
  have e : x = nI x.toBitVec.toNat := by
    apply Int32.toBitVec_inj.1
    show x.toBitVec = BitVec.ofNat 32 x.toBitVec.toNat
    simp
  refine ⟨x.toBitVec.toNat % 65536, Nat.mod_lt _ (by omega), ?_⟩
  rw [← nx_mod, ← e]
/-! ===== Int32 as a set of bits: test, set ===== -/
def nf_M (m : Int32) : Nat := 4294967296 - m.toBitVec.toNat
theorem nf_sh : ∀ l, l < 32 → ((1 : Int32) <<< (nI l &&& 31)).toBitVec = BitVec.twoPow 32 l := by decide +kernel
theorem nf_sl : ∀ l, l < 32 → (((nI l).toUInt32 &&& Int32.toUInt32 31).toBitVec % 32).toNat = l := by decide +kernel
theorem nf_tp : ∀ l, l < 32 → BitVec.twoPow 32 l ≠ 0#32 := by decide +kernel
theorem nf_bit (m : Int32) (l : Nat) (hl : l < 32) : ((m.toUInt32 >>> ((nI l).toUInt32 &&& Int32.toUInt32 31)).toInt32 &&& 1) = 0 ↔ (m &&& ((1 : Int32) <<< (nI l &&& 31))) = 0 := by
  have e : ((m.toUInt32 >>> ((nI l).toUInt32 &&& Int32.toUInt32 31)).toInt32).toBitVec = m.toBitVec >>> l := by
    show m.toBitVec >>> (((nI l).toUInt32 &&& Int32.toUInt32 31).toBitVec % 32) = m.toBitVec >>> l
    rw [BitVec.ushiftRight_eq', nf_sl l hl]
  rw [← Int32.toBitVec_inj, ← Int32.toBitVec_inj, Int32.toBitVec_and, Int32.toBitVec_and, nf_sh l hl, e, BitVec.and_twoPow]
  show (m.toBitVec >>> l &&& 1#32) = 0#32 ↔ _ = 0#32
  rw [BitVec.and_one_eq_setWidth_ofBool_getLsbD, BitVec.getLsbD_ushiftRight, Nat.add_zero]
  cases hb : m.toBitVec.getLsbD l
  · exact ⟨fun _ => by simp, fun _ => by decide⟩
  · exact ⟨fun z => absurd z (by decide), fun z => absurd ((if_pos rfl).symm.trans z) (nf_tp l hl)⟩
theorem nf_gr (m k : Int32) (h : m &&& k = 0) (hk : k ≠ 0) : nf_M (m ||| k) < nf_M m := by
  have hm := m.toBitVec.isLt
  have hm' := (m ||| k).toBitVec.isLt
  have h1 : m.toBitVec.toNat ≤ (m ||| k).toBitVec.toNat := by
    rw [Int32.toBitVec_or, BitVec.toNat_or]
    exact Nat.left_le_or
  have h2 : m.toBitVec.toNat ≠ (m ||| k).toBitVec.toNat := by
    intro e
    have e2 : m = m ||| k := Int32.toBitVec_inj.mp (BitVec.eq_of_toNat_eq e)
    apply hk
    apply Int32.toBitVec_inj.mp
    show k.toBitVec = 0#32
    apply BitVec.eq_of_getLsbD_eq
    intro i hi
    have a : m.toBitVec.getLsbD i = (m.toBitVec.getLsbD i || k.toBitVec.getLsbD i) := by rw [← BitVec.getLsbD_or, ← Int32.toBitVec_or, ← e2]
    have b : (m.toBitVec.getLsbD i && k.toBitVec.getLsbD i) = false := by
      rw [← BitVec.getLsbD_and, ← Int32.toBitVec_and, h]
      exact BitVec.getLsbD_zero
    rw [BitVec.getLsbD_zero]
    revert a b
    cases m.toBitVec.getLsbD i <;> cases k.toBitVec.getLsbD i <;> simp
  unfold nf_M
  omega
/-! ===== a byte read unsigned ===== -/
theorem bp_b (x : Int32) : x.toInt8.toInt32 &&& 255 = x &&& 255 := by
  apply Int32.toBitVec_inj.mp
  rw [Int32.toBitVec_and, Int32.toBitVec_and, Int8.toBitVec_toInt32, Int32.toBitVec_toInt8]
  apply BitVec.eq_of_getLsbD_eq
  intro i hi
  rw [BitVec.getLsbD_and, BitVec.getLsbD_and]
  have hm : ∀ i < 32, 8 ≤ i → (255 : Int32).toBitVec.getLsbD i = false := by decide
  rcases Nat.lt_or_ge i 8 with z | z
  · rw [BitVec.getLsbD_signExtend, BitVec.getLsbD_signExtend, if_pos z, if_pos hi]
    simp only [z, hi, decide_true, Bool.true_and]
  · rw [hm i hi z]; simp
/-! ===== the char cast and 65535 ===== -/
/-! ===== Int64 as a set of bits: test, set, clear ===== -/
theorem ts_nf {x : Bool} (h : ¬ x = false) : x = true := by cases x <;> first | rfl | exact absurd rfl h
theorem ts_nt {x : Bool} (h : ¬ x = true) : x = false := by cases x <;> first | rfl | exact absurd rfl h
theorem ts_bit {w : Int64} {s : UInt64} {j : Nat} (hj : j < 64) (hs : s.toNat = j) : ((w.toUInt64 >>> s).toInt64 &&& 1) = 0 ↔ w.toBitVec.getLsbD j = false := by
  have e : (w.toUInt64 >>> s).toInt64.toBitVec = w.toBitVec >>> j := by
    apply BitVec.eq_of_toNat_eq
    show (w.toUInt64 >>> s).toNat = _
    rw [UInt64.toNat_shiftRight, hs, Nat.mod_eq_of_lt hj, BitVec.toNat_ushiftRight]
    rfl
  rw [← Int64.toBitVec_inj, Int64.toBitVec_and, e]
  show w.toBitVec >>> j &&& 1#64 = 0#64 ↔ _
  constructor
  · intro h
    have t := congrArg (fun x => x.getLsbD 0) h
    simpa using t
  · intro h
    apply BitVec.eq_of_getLsbD_eq
    intro i hi
    cases i with
    | zero => simp [h]
    | succ i => simp
theorem ts_or {w m : Int64} {j : Nat} (hj : j < 64) (hm : m.toBitVec = BitVec.twoPow 64 j) : (w ||| m) = w ↔ w.toBitVec.getLsbD j = true := by
  rw [← Int64.toBitVec_inj, Int64.toBitVec_or, hm]
  constructor
  · intro h
    have t := congrArg (fun x => x.getLsbD j) h
    simp only [BitVec.getLsbD_or, BitVec.getLsbD_twoPow] at t
    simpa [hj] using t.symm
  · intro h
    apply BitVec.eq_of_getLsbD_eq
    intro i hi
    rw [BitVec.getLsbD_or, BitVec.getLsbD_twoPow]
    by_cases e : j = i
    · subst e; rw [h, Bool.true_or]
    · simp [e]
theorem ts_and {w m : Int64} {j : Nat} (hj : j < 64) (hm : m.toBitVec = BitVec.twoPow 64 j) : (w &&& (m ^^^ (-1))) = w ↔ w.toBitVec.getLsbD j = false := by
  have ha : (-1 : Int64).toBitVec = BitVec.allOnes 64 := by decide
  rw [← Int64.toBitVec_inj, Int64.toBitVec_and, Int64.toBitVec_xor, hm, ha]
  constructor
  · intro h
    have t := congrArg (fun x => x.getLsbD j) h
    simp only [BitVec.getLsbD_and, BitVec.getLsbD_xor, BitVec.getLsbD_twoPow, BitVec.getLsbD_allOnes] at t
    simpa [hj] using t.symm
  · intro h
    apply BitVec.eq_of_getLsbD_eq
    intro i hi
    rw [BitVec.getLsbD_and, BitVec.getLsbD_xor, BitVec.getLsbD_twoPow, BitVec.getLsbD_allOnes]
    by_cases e : j = i
    · subst e; rw [h, Bool.false_and]
    · simp [e, hi]
/-! ===== lN n to 2^64: shifts, and, or, masks, one bit ===== -/
theorem wb_tb (n : Nat) : (lN n).toBitVec = BitVec.ofNat 64 n := rfl
theorem wb_inj {a b : Int64} (h : a.toBitVec = b.toBitVec) : a = b := Int64.toBitVec_inj.mp h
theorem wb_tn {n : Nat} (h : n < 2 ^ 64) : (lN n).toBitVec.toNat = n := by rw [wb_tb, BitVec.toNat_ofNat, Nat.mod_eq_of_lt h]
theorem wb_of (x : Int64) : ∃ n, n < 2 ^ 64 ∧ x = lN n := ⟨x.toBitVec.toNat, x.toBitVec.isLt, wb_inj (by rw [wb_tb]; simp)⟩
theorem wb_of32 (x : Int32) : ∃ n, n < 2 ^ 32 ∧ x = nI n := ⟨x.toBitVec.toNat, x.toBitVec.isLt, Int32.toBitVec_inj.mp (by show _ = BitVec.ofNat 32 _; simp)⟩
theorem wb_c : ∀ k, k < 64 → ((nI k).toInt64 &&& 63) = lN k := by decide +kernel
theorem wb_cu : ∀ k, k < 64 → ((nI k).toInt64.toUInt64 &&& Int64.toUInt64 63) = UInt64.ofNat k := by decide +kernel
theorem wb_sm : ∀ k, k < 64 → (BitVec.ofNat 64 k).smod 64 = BitVec.ofNat 64 k := by decide +kernel
theorem wb_pw {a b : Nat} (h : a ≤ b) : 2 ^ b = 2 ^ a * 2 ^ (b - a) := by rw [← Nat.pow_add]; congr 1; omega
theorem wb_lt2 {a b : Nat} (h : a < b) : 2 ^ a < 2 ^ b := Nat.pow_lt_pow_right (by decide) h
theorem wb_mod (n : Nat) : lN n = lN (n % 2 ^ 64) := wb_inj (by rw [wb_tb, wb_tb]; apply BitVec.eq_of_toNat_eq; rw [BitVec.toNat_ofNat, BitVec.toNat_ofNat, Nat.mod_mod])
theorem wb_shr {n k : Nat} (hn : n < 2 ^ 64) (hk : k < 64) : ((lN n).toUInt64 >>> ((nI k).toInt64.toUInt64 &&& Int64.toUInt64 63)).toInt64 = lN (n / 2 ^ k) := by
  rw [wb_cu k hk]
  apply wb_inj
  apply BitVec.eq_of_toNat_eq
  show ((lN n).toUInt64 >>> UInt64.ofNat k).toNat = (BitVec.ofNat 64 _).toNat
  have h1 : (UInt64.ofNat k).toNat = k := by
    show (BitVec.ofNat 64 k).toNat = k
    rw [BitVec.toNat_ofNat, Nat.mod_eq_of_lt (by omega)]
  have h2 : (lN n).toUInt64.toNat = n := wb_tn hn
  rw [UInt64.toNat_shiftRight, h1, h2, Nat.mod_eq_of_lt hk, Nat.shiftRight_eq_div_pow, BitVec.toNat_ofNat, Nat.mod_eq_of_lt (Nat.lt_of_le_of_lt (Nat.div_le_self _ _) hn)]
theorem wb_shl (n : Nat) {k : Nat} (hk : k < 64) : lN n <<< ((nI k).toInt64 &&& 63) = lN (n * 2 ^ k) := by
  rw [wb_c k hk]
  apply wb_inj
  rw [Int64.toBitVec_shiftLeft, wb_tb, wb_tb, wb_tb, wb_sm k hk]
  apply BitVec.eq_of_toNat_eq
  rw [BitVec.shiftLeft_eq', BitVec.toNat_shiftLeft, BitVec.toNat_ofNat, BitVec.toNat_ofNat, BitVec.toNat_ofNat, Nat.mod_eq_of_lt (show k < 2 ^ 64 by omega), Nat.shiftLeft_eq, Nat.mul_mod, Nat.mod_mod, ← Nat.mul_mod]
theorem wb_and {a b : Nat} (ha : a < 2 ^ 64) (hb : b < 2 ^ 64) : lN a &&& lN b = lN (a &&& b) := by
  apply wb_inj
  rw [Int64.toBitVec_and, wb_tb, wb_tb, wb_tb]
  apply BitVec.eq_of_toNat_eq
  rw [BitVec.toNat_and, BitVec.toNat_ofNat, BitVec.toNat_ofNat, BitVec.toNat_ofNat, Nat.mod_eq_of_lt ha, Nat.mod_eq_of_lt hb, Nat.mod_eq_of_lt (Nat.and_lt_two_pow _ hb)]
theorem wb_or {a b : Nat} (ha : a < 2 ^ 64) (hb : b < 2 ^ 64) : lN a ||| lN b = lN (a ||| b) := by
  apply wb_inj
  rw [Int64.toBitVec_or, wb_tb, wb_tb, wb_tb]
  apply BitVec.eq_of_toNat_eq
  rw [BitVec.toNat_or, BitVec.toNat_ofNat, BitVec.toNat_ofNat, BitVec.toNat_ofNat, Nat.mod_eq_of_lt ha, Nat.mod_eq_of_lt hb, Nat.mod_eq_of_lt (Nat.or_lt_two_pow ha hb)]
theorem wb_mask {n k : Nat} (hn : n < 2 ^ 64) (hk : k < 64) : lN n &&& lN (2 ^ k - 1) = lN (n % 2 ^ k) := by
  rw [wb_and hn (by have := wb_lt2 hk; omega), Nat.and_two_pow_sub_one_eq_mod]
theorem wb_a1 {n : Nat} (hn : n < 2 ^ 64) : lN n &&& 1 = lN (n % 2) := wb_mask (k := 1) hn (by decide)
theorem wb_bit {n k : Nat} (hn : n < 2 ^ 64) (hk : k < 64) : ((lN n).toUInt64 >>> ((nI k).toInt64.toUInt64 &&& Int64.toUInt64 63)).toInt64 &&& 1 = lN (n / 2 ^ k % 2) := by
  rw [wb_shr hn hk, wb_a1 (Nat.lt_of_le_of_lt (Nat.div_le_self _ _) hn)]
theorem wb_xor {q k : Nat} (hk : k < 63) (h : 2 ^ k ≤ q) (h2 : q < 2 ^ (k + 1)) : lN q ^^^ lN (2 ^ k) = lN (q - 2 ^ k) := by
  obtain ⟨r, rfl⟩ : ∃ r, q = 2 ^ k + r := ⟨q - 2 ^ k, by omega⟩
  have hr : r < 2 ^ k := by rw [Nat.pow_succ] at h2; omega
  have hx : (2 ^ k + r) ^^^ 2 ^ k = r := by
    apply Nat.eq_of_testBit_eq
    intro i
    rw [Nat.testBit_xor, Nat.testBit_two_pow]
    rcases Nat.lt_trichotomy i k with h | h | h
    · rw [Nat.testBit_two_pow_add_gt h]
      simp [show ¬ k = i by omega]
    · subst h
      rw [Nat.testBit_two_pow_add_eq]
      simp
    · have a1 : 2 ^ (k + 1) ≤ 2 ^ i := Nat.pow_le_pow_right (by decide) h
      rw [Nat.testBit_lt_two_pow (show 2 ^ k + r < 2 ^ i by omega), Nat.testBit_lt_two_pow (show r < 2 ^ i by omega)]
      simp [show ¬ k = i by omega]
  have b1 := wb_lt2 (show k + 1 < 64 by omega)
  have b2 := wb_lt2 (show k < 64 by omega)
  apply wb_inj
  rw [Int64.toBitVec_xor, wb_tb, wb_tb, wb_tb]
  apply BitVec.eq_of_toNat_eq
  rw [BitVec.toNat_xor, BitVec.toNat_ofNat, BitVec.toNat_ofNat, BitVec.toNat_ofNat, Nat.mod_eq_of_lt (by omega : 2 ^ k + r < 2 ^ 64), Nat.mod_eq_of_lt b2, hx, Nat.add_sub_cancel_left, Nat.mod_eq_of_lt (by omega)]
/-! ===== lN: masks, 'or' of parts that don't overlap is a sum ===== -/
theorem u_tn {n : Nat} (h : n < 2 ^ 64) : (UInt64.ofNat n).toNat = n := Nat.mod_eq_of_lt h
theorem g_and {a b c : Nat} (ha : a < 2 ^ 64) (hb : b < 2 ^ 64) (hc : a &&& b = c) : lN a &&& lN b = lN c := by
  subst hc
  have h : UInt64.ofNat a &&& UInt64.ofNat b = UInt64.ofNat (a &&& b) := UInt64.toNat_inj.mp (by rw [UInt64.toNat_and, u_tn ha, u_tn hb, u_tn (Nat.and_lt_two_pow a hb)])
  have h2 := congrArg UInt64.toInt64 h
  exact h2
theorem g_and1 {a : Nat} (ha : a < 2 ^ 64) : lN a &&& 1 = lN (a % 2) := g_and (b := 1) ha (by decide) (Nat.and_two_pow_sub_one_eq_mod a 1)
theorem g_mask {a s p : Nat} (hp : 2 ^ s = p) (hs : s < 64) (ha : a < 2 ^ 64) : lN a &&& lN (p - 1) = lN (a % p) := by
  subst hp
  have := Nat.pow_lt_pow_right (show 1 < 2 by decide) hs
  exact g_and ha (by omega) (Nat.and_two_pow_sub_one_eq_mod a s)
theorem g_or {k p a b : Nat} (hp : 2 ^ k = p) (ha : a < p) (h : b * p + a < 2 ^ 64) : lN (b * p) ||| lN a = lN (b * p + a) := by
  subst hp
  have h1 : b * 2 ^ k ||| a = b * 2 ^ k + a := by rw [← Nat.shiftLeft_eq, Nat.shiftLeft_add_eq_or_of_lt ha]
  have h3 : UInt64.ofNat (b * 2 ^ k) ||| UInt64.ofNat a = UInt64.ofNat (b * 2 ^ k + a) := UInt64.toNat_inj.mp (by rw [UInt64.toNat_or, u_tn (by omega), u_tn (by omega), u_tn h, h1])
  have h2 := congrArg UInt64.toInt64 h3
  exact h2
theorem g_or' {k p a b : Nat} (hp : 2 ^ k = p) (ha : a < p) (h : a + b * p < 2 ^ 64) : lN a ||| lN (b * p) = lN (a + b * p) := by
  rw [Int64.or_comm, g_or hp ha (by omega), Nat.add_comm]
theorem g_ushr {a k p : Nat} {y : UInt64} (hy : y = UInt64.ofNat k) (hk : k < 64) (hp : 2 ^ k = p) (ha : a < 2 ^ 64) : ((lN a).toUInt64 >>> y).toInt64 = lN (a / p) := by
  subst hy hp
  have h : UInt64.ofNat a >>> UInt64.ofNat k = UInt64.ofNat (a / 2 ^ k) := UInt64.toNat_inj.mp (by rw [UInt64.toNat_shiftRight, u_tn ha, u_tn (by omega), u_tn (Nat.lt_of_le_of_lt (Nat.div_le_self _ _) ha), Nat.mod_eq_of_lt hk, Nat.shiftRight_eq_div_pow])
  have h2 := congrArg UInt64.toInt64 h
  exact h2
theorem g_shl {a k p : Nat} {y : Int64} (hy : y.toBitVec.smod 64 = BitVec.ofNat 64 k) (hk : k < 64) (hp : 2 ^ k = p) (ha : a < 2 ^ 64) : lN a <<< y = lN (a * p) := by
  subst hp
  apply Int64.toBitVec_inj.mp
  rw [Int64.toBitVec_shiftLeft, hy]
  apply BitVec.eq_of_toNat_eq
  have hb : (lN a).toBitVec.toNat = a := Nat.mod_eq_of_lt ha
  have hk' : (BitVec.ofNat 64 k).toNat = k := Nat.mod_eq_of_lt (by omega)
  have h : ((lN a).toBitVec <<< BitVec.ofNat 64 k).toNat = (a * 2 ^ k) % 2 ^ 64 := by simp only [BitVec.shiftLeft_eq', BitVec.toNat_shiftLeft, hb, hk', Nat.shiftLeft_eq]
  exact h
/-! ===== lN to 2^62 under >> and >>> ===== -/
theorem pf_lI {a : Nat} (h : a < 2 ^ 63) : (lN a).toInt = (a : Int) := lg_ofNat_toInt h
theorem pf_shr {a d : Nat} {D : Int64} (hD : (D.toBitVec.smod 64).toNat = d) (h : a < 2 ^ 62) : lN a >>> D = lN (a / 2 ^ d) := by
  have hd : a / 2 ^ d ≤ a := Nat.div_le_self _ _
  apply Int64.toInt_inj.mp
  have e : (lN a >>> D).toInt = (lN a).toInt >>> d := by
    rw [← hD]
    exact BitVec.toInt_sshiftRight ..
  rw [e, Int.shiftRight_eq_div_pow, pf_lI (by omega), pf_lI (by omega)]
  rfl
theorem pf_ushr {a d : Nat} {D : UInt64} (hD : D.toNat % 64 = d) (h : a < 2 ^ 62) : ((lN a).toUInt64 >>> D).toInt64 = lN (a / 2 ^ d) := by
  have hd : a / 2 ^ d ≤ a := Nat.div_le_self _ _
  have e : (lN a).toUInt64 >>> D = UInt64.ofNat (a / 2 ^ d) := UInt64.toNat_inj.mp (by
    rw [UInt64.toNat_shiftRight, hD, Nat.shiftRight_eq_div_pow, UInt64.toNat_ofNat']
    show (UInt64.ofNat a).toNat / 2 ^ d = _
    rw [UInt64.toNat_ofNat', Nat.mod_eq_of_lt (by omega), Nat.mod_eq_of_lt (by omega)])
  rw [e]
  rfl
theorem pf_andw (x : Int64) : ∃ m, m < 2 ^ 32 ∧ x &&& 4294967295 = lN m := ⟨x.toBitVec.toNat % 2 ^ 32, Nat.mod_lt _ (by decide), Int64.toBitVec_inj.mp (BitVec.eq_of_toNat_eq (by
  show (x.toBitVec &&& 4294967295#64).toNat = (BitVec.ofNat 64 (x.toBitVec.toNat % 2 ^ 32)).toNat
  rw [BitVec.toNat_and, show (4294967295#64).toNat = 2 ^ 32 - 1 from by decide, Nat.and_two_pow_sub_one_eq_mod, BitVec.toNat_ofNat]
  omega))⟩
/-! ===== Int64 as an unsigned number: uN x ===== -/
def uN (x : Int64) : Nat := x.toUInt64.toNat
theorem uN_lt (x : Int64) : uN x < 18446744073709551616 := x.toUInt64.toNat_lt
theorem uN_inj {x y : Int64} (h : uN x = uN y) : x = y := congrArg UInt64.toInt64 (UInt64.toNat_inj.mp h)
theorem uN_add (x y : Int64) : uN (x + y) = (uN x + uN y) % 18446744073709551616 := by
  show (x.toUInt64 + y.toUInt64).toNat = _
  exact UInt64.toNat_add _ _
theorem uN_mul (x y : Int64) : uN (x * y) = (uN x * uN y) % 18446744073709551616 := by
  show (x.toUInt64 * y.toUInt64).toNat = _
  exact UInt64.toNat_mul _ _
theorem uN_shl (x : Int64) : uN (x <<< ((1 : Int32).toInt64 &&& 63)) = (2 * uN x) % 18446744073709551616 := by
  have h : (((1 : Int32).toInt64 &&& 63).toBitVec.smod 64).toNat = 1 := by decide
  show (x.toBitVec <<< (((1 : Int32).toInt64 &&& 63).toBitVec.smod 64).toNat).toNat = _
  rw [h, BitVec.toNat_shiftLeft, Nat.shiftLeft_eq, Nat.mul_comm]
  rfl
theorem uN_shr (x : Int64) (s : UInt64) : uN (x.toUInt64 >>> s).toInt64 = uN x / 2 ^ (s.toNat % 64) := by
  show (x.toUInt64 >>> s).toNat = _
  rw [UInt64.toNat_shiftRight, Nat.shiftRight_eq_div_pow]
  rfl
theorem uN_s32 (x : Int64) : uN (x.toUInt64 >>> ((32 : Int32).toInt64.toUInt64 &&& Int64.toUInt64 63)).toInt64 = uN x / 4294967296 := by
  have h : ((32 : Int32).toInt64.toUInt64 &&& Int64.toUInt64 63).toNat % 64 = 32 := by decide
  rw [uN_shr, h]
theorem uN_s63 (x : Int64) : uN (x.toUInt64 >>> ((63 : Int32).toInt64.toUInt64 &&& Int64.toUInt64 63)).toInt64 = uN x / 9223372036854775808 := by
  have h : ((63 : Int32).toInt64.toUInt64 &&& Int64.toUInt64 63).toNat % 64 = 63 := by decide
  rw [uN_shr, h]
theorem uN_lo (x : Int64) : uN (x &&& 4294967295) = uN x % 4294967296 := by
  show (x.toUInt64 &&& Int64.toUInt64 4294967295).toNat = _
  rw [UInt64.toNat_and]
  exact Nat.and_two_pow_sub_one_eq_mod _ 32
theorem uN_bit (x : Int64) : (x &&& 1) = 0 ↔ uN x % 2 = 0 := by
  have h : uN (x &&& 1) = uN x % 2 := by
    show (x.toUInt64 &&& Int64.toUInt64 1).toNat = _
    rw [UInt64.toNat_and]
    exact Nat.and_two_pow_sub_one_eq_mod _ 1
  rw [← h]
  exact ⟨fun z => by rw [z]; rfl, fun z => uN_inj (z.trans rfl)⟩
theorem uN_or {x y : Int64} (hy : uN y < 2) : uN ((x <<< ((1 : Int32).toInt64 &&& 63)) ||| y) = (2 * uN x) % 18446744073709551616 + uN y := by
  have h1 : uN ((x <<< ((1 : Int32).toInt64 &&& 63)) ||| y) = uN (x <<< ((1 : Int32).toInt64 &&& 63)) ||| uN y := UInt64.toNat_or _ _
  have h2 : (2 * uN x) % 18446744073709551616 = 2 ^ 1 * (uN x % 9223372036854775808) := by omega
  rw [h1, uN_shl, h2]
  exact (Nat.two_pow_add_eq_or_of_lt (i := 1) hy _).symm
theorem nat_xor {a : Nat} (h : a < 18446744073709551616) : a ^^^ 2 ^ 63 = (a + 9223372036854775808) % 18446744073709551616 := by
  have h1 : (a ^^^ 2 ^ 63) % 2 ^ 63 = a % 2 ^ 63 := by rw [Nat.xor_mod_two_pow, Nat.mod_self, Nat.xor_zero]
  have h2 : (a ^^^ 2 ^ 63) / 2 ^ 63 = (a / 2 ^ 63) ^^^ 1 := by rw [Nat.xor_div_two_pow, Nat.div_self (Nat.two_pow_pos 63)]
  have h3 : a / 2 ^ 63 = 0 ∨ a / 2 ^ 63 = 1 := by omega
  generalize a ^^^ 2 ^ 63 = t at h1 h2
  rcases h3 with h3 | h3
  · rw [h3] at h2
    have h2 : t / 2 ^ 63 = 1 := h2
    omega
  · rw [h3] at h2
    have h2 : t / 2 ^ 63 = 0 := h2
    omega
theorem uN_xor (x : Int64) : uN (x ^^^ (-9223372036854775808)) = (uN x + 9223372036854775808) % 18446744073709551616 := by
  rw [← nat_xor (uN_lt x)]
  exact UInt64.toNat_xor _ _
theorem uN_int (x : Int64) : x.toInt = if 2 * uN x < 18446744073709551616 then (uN x : Int) else (uN x : Int) - 18446744073709551616 := BitVec.toInt_eq_toNat_cond _
theorem uN_le (x y : Int64) : (x ^^^ (-9223372036854775808)) ≤ (y ^^^ (-9223372036854775808)) ↔ uN x ≤ uN y := by
  have hx := uN_lt x
  have hy := uN_lt y
  rw [Int64.le_iff_toInt_le, uN_int, uN_int, uN_xor, uN_xor]
  omega
theorem uN_sk (x : Int64) {k : Nat} (hk : k < 64) : uN (x.toUInt64 >>> ((nI k).toInt64.toUInt64 &&& Int64.toUInt64 63)).toInt64 = uN x / 2 ^ k := by
  have h : ((nI k).toInt64.toUInt64 &&& Int64.toUInt64 63).toNat % 64 = k := by
    rw [nI_l (by omega), UInt64.toNat_and]
    have e : (lN k).toUInt64.toNat = k % 2 ^ 64 := rfl
    have e2 : (Int64.toUInt64 63).toNat = 2 ^ 6 - 1 := by decide
    rw [e, e2, Nat.and_two_pow_sub_one_eq_mod]
    omega
  rw [uN_shr, h]
/-! ===== unsigned comparison by xor with the least ===== -/
theorem lN_bv (n : Nat) : (lN n).toBitVec = BitVec.ofNat 64 n := rfl
theorem lN_nat {n : Nat} (h : n < 2 ^ 64) : (lN n).toBitVec.toNat = n := by rw [lN_bv, BitVec.toNat_ofNat]; exact Nat.mod_eq_of_lt h
theorem lN_xor (a b : Nat) : lN a ^^^ lN b = lN (a ^^^ b) := by
  apply Int64.toBitVec_inj.mp; rw [Int64.toBitVec_xor, lN_bv, lN_bv, lN_bv]; apply BitVec.eq_of_getLsbD_eq; intro i hi; simp [BitVec.getLsbD_ofNat, Nat.testBit_xor, hi]
theorem lN_ti {m : Nat} (h : m < 2 ^ 64) : (lN m).toInt = if m < 2 ^ 63 then (m : Int) else (m : Int) - 2 ^ 64 := by
  have c := BitVec.toInt_eq_toNat_cond (lN m).toBitVec
  rw [lN_nat h] at c
  show (lN m).toBitVec.toInt = _
  rw [c]
  split <;> split <;> omega
theorem xor63 {x : Nat} (h : x < 2 ^ 63) : x ^^^ 2 ^ 63 = 2 ^ 63 + x := by
  apply Nat.eq_of_testBit_eq
  intro i
  rw [Nat.testBit_xor, Nat.testBit_two_pow]
  rcases Nat.lt_trichotomy i 63 with z | z | z
  · rw [Nat.testBit_two_pow_add_gt z, decide_eq_false (by omega)]; simp
  · subst z; rw [Nat.testBit_two_pow_add_eq]; simp
  · have hp : 2 ^ 64 ≤ 2 ^ i := Nat.pow_le_pow_right (by decide) z
    rw [Nat.testBit_lt_two_pow (show x < 2 ^ i by omega), Nat.testBit_lt_two_pow (show 2 ^ 63 + x < 2 ^ i by omega), decide_eq_false (by omega)]; rfl
theorem xorS {a : Nat} (h : a < 2 ^ 64) : (lN a ^^^ (-9223372036854775808)).toInt = (a : Int) - 2 ^ 63 := by
  rw [show (-9223372036854775808 : Int64) = lN (2 ^ 63) from by decide +kernel, lN_xor]
  rcases Nat.lt_or_ge a (2 ^ 63) with z | z
  · rw [xor63 z, lN_ti (by omega), if_neg (by omega)]; omega
  · obtain ⟨x, rfl⟩ : ∃ x, a = 2 ^ 63 + x := ⟨a - 2 ^ 63, by omega⟩
    rw [← xor63 (by omega), Nat.xor_assoc, Nat.xor_self, Nat.xor_zero, lN_ti (by omega), if_pos (by omega), xor63 (by omega)]; omega
theorem ultL {a b : Nat} (ha : a < 2 ^ 64) (hb : b < 2 ^ 64) : ((lN b ^^^ (-9223372036854775808)) ≤ (lN a ^^^ (-9223372036854775808))) ↔ b ≤ a := by
  rw [Int64.le_iff_toInt_le, xorS ha, xorS hb]; omega
/-! ===== Int64 masks of n low bits ===== -/
theorem cr_bits (W U M : BitVec 64) : ((W &&& U) &&& (U &&& (M ^^^ BitVec.allOnes 64))) = 0#64 ↔ (W &&& U) &&& M = W &&& U := by
  constructor
  · intro h
    apply BitVec.eq_of_getLsbD_eq
    intro i hi
    have e := congrArg (fun x => BitVec.getLsbD x i) h
    simp only [BitVec.getLsbD_and, BitVec.getLsbD_xor, BitVec.getLsbD_allOnes, BitVec.getLsbD_zero, hi, decide_true] at e ⊢
    revert e
    cases W.getLsbD i <;> cases U.getLsbD i <;> cases M.getLsbD i <;> decide
  · intro h
    apply BitVec.eq_of_getLsbD_eq
    intro i hi
    have e := congrArg (fun x => BitVec.getLsbD x i) h
    simp only [BitVec.getLsbD_and, BitVec.getLsbD_xor, BitVec.getLsbD_allOnes, BitVec.getLsbD_zero, hi, decide_true] at e ⊢
    revert e
    cases W.getLsbD i <;> cases U.getLsbD i <;> cases M.getLsbD i <;> decide
theorem cr_mask (w U m : Int64) (n : Nat) (hm : m.toBitVec.toNat = 2 ^ n - 1) : ((w &&& U) &&& (U &&& (m ^^^ (-1)))) = 0 ↔ (w &&& U).toBitVec.toNat < 2 ^ n := by
  have e0 : (-1 : Int64).toBitVec = BitVec.allOnes 64 := by decide
  have z0 : (0 : Int64).toBitVec = 0#64 := by decide
  rw [← Int64.toBitVec_inj, z0, Int64.toBitVec_and, Int64.toBitVec_and, Int64.toBitVec_and, Int64.toBitVec_xor, e0, cr_bits]
  generalize w.toBitVec &&& U.toBitVec = T
  rw [← BitVec.toNat_inj, BitVec.toNat_and, hm, Nat.and_two_pow_sub_one_eq_mod]
  constructor
  · intro h
    have t := Nat.mod_lt T.toNat (Nat.two_pow_pos n)
    rw [h] at t
    exact t
  · exact Nat.mod_eq_of_lt
theorem cr_shr (t : Int64) (x : UInt64) (n : Nat) (hx : x.toNat % 64 = n) : (t.toUInt64 >>> x).toInt64 = 0 ↔ t.toBitVec.toNat < 2 ^ n := by
  rw [← Int64.toBitVec_inj, ← BitVec.toNat_inj]
  show (t.toUInt64 >>> x).toNat = 0 ↔ t.toUInt64.toNat < 2 ^ n
  rw [UInt64.toNat_shiftRight, hx, Nat.shiftRight_eq_div_pow]
  constructor
  · intro h
    have d : t.toUInt64.toNat / 2 ^ n < 1 := by
      rw [h]
      decide
    have e := (Nat.div_lt_iff_lt_mul (Nat.two_pow_pos n)).mp d
    rw [Nat.one_mul] at e
    exact e
  · exact Nat.div_eq_of_lt
theorem cr_amt (s : Int64) : ∃ n, n < 64 ∧ s &&& 63 = lN n ∧ (s.toUInt64 &&& Int64.toUInt64 63).toNat % 64 = n := by
  have e : (s.toUInt64 &&& Int64.toUInt64 63).toNat = s.toUInt64.toNat % 2 ^ 6 := by
    rw [UInt64.toNat_and, show (Int64.toUInt64 63).toNat = 2 ^ 6 - 1 from by decide, Nat.and_two_pow_sub_one_eq_mod]
  refine ⟨s.toUInt64.toNat % 2 ^ 6, by omega, ?_, by omega⟩
  rw [← Int64.toBitVec_inj, ← BitVec.toNat_inj]
  show (s.toUInt64 &&& Int64.toUInt64 63).toNat = (BitVec.ofNat 64 (s.toUInt64.toNat % 2 ^ 6)).toNat
  rw [e, BitVec.toNat_ofNat]
  omega
end
section
/-! plain facts on numbers and arrays, to paste: each family by itself; over the kit's rows on nI and upd -/
/-! ===== order of ints, in all its forms, and through longs ===== -/
theorem fa_lt (a b : Int32) : a < b ↔ a.toInt < b.toInt := Int32.lt_iff_toInt_lt
theorem fa_le (a b : Int32) : a ≤ b ↔ a.toInt ≤ b.toInt := Int32.le_iff_toInt_le
theorem fa_eq (a b : Int32) : a = b ↔ a.toInt = b.toInt := Int32.toInt_inj.symm
theorem fa_lt64 (a b : Int64) : a < b ↔ a.toInt < b.toInt := Int64.lt_iff_toInt_lt
theorem fa_le64 (a b : Int64) : a ≤ b ↔ a.toInt ≤ b.toInt := Int64.le_iff_toInt_le
theorem fa_eq64 (a b : Int64) : a = b ↔ a.toInt = b.toInt := Int64.toInt_inj.symm
/-- a comparison of two ints taken as longs -/
theorem fa_wide_lt (a b : Int32) : a.toInt64 < b.toInt64 ↔ a < b := by rw [fa_lt64, fa_lt, Int32.toInt_toInt64, Int32.toInt_toInt64]
theorem fa_wide_le (a b : Int32) : a.toInt64 ≤ b.toInt64 ↔ a ≤ b := by rw [fa_le64, fa_le, Int32.toInt_toInt64, Int32.toInt_toInt64]
theorem fa_wide_eq (a b : Int32) : a.toInt64 = b.toInt64 ↔ a = b := by rw [fa_eq64, fa_eq, Int32.toInt_toInt64, Int32.toInt_toInt64]
/-- one strict comparison gives all the others -/
theorem fa_of_lt {a b : Int32} (h : a < b) : a ≤ b ∧ ¬ b ≤ a ∧ ¬ b < a ∧ a ≠ b ∧ b ≠ a := by
  rw [fa_lt] at h
  refine ⟨?_, ?_, ?_, ?_, ?_⟩
  · rw [fa_le]; omega
  · rw [fa_le]; omega
  · rw [fa_lt]; omega
  · intro e; rw [fa_eq] at e; omega
  · intro e; rw [fa_eq] at e; omega
theorem fa_of_nlt {a b : Int32} (h : ¬ a < b) : b ≤ a := by
  rw [fa_lt] at h
  rw [fa_le]
  omega
theorem fa_of_nle {a b : Int32} (h : ¬ a ≤ b) : b < a := by
  rw [fa_le] at h
  rw [fa_lt]
  omega
theorem fa_le_ne {a b : Int32} (h : a ≤ b) (h2 : a ≠ b) : a < b := by
  rw [fa_le] at h
  rw [fa_lt]
  have h3 : a.toInt ≠ b.toInt := fun e => h2 ((fa_eq a b).mpr e)
  omega
theorem fa_three (a b : Int32) : a < b ∨ a = b ∨ b < a := by
  rw [fa_lt, fa_lt, fa_eq]
  omega
theorem fa_trans {a b c : Int32} (h : a < b) (h2 : b ≤ c) : a < c := by
  rw [fa_lt] at *
  rw [fa_le] at h2
  omega
/-! ===== small literals as numbers ===== -/
theorem fa_lit (n : Nat) : (OfNat.ofNat n : Int32) = nI n := rfl
theorem fa_litL (n : Nat) : (OfNat.ofNat n : Int64) = lN n := rfl
/-! ===== bits of a number: 'or', masks, one bit ===== -/
theorem fa_and (a b : Nat) : nI a &&& nI b = nI (a &&& b) := by
  apply Int32.toBitVec_inj.1
  show BitVec.ofNat 32 a &&& BitVec.ofNat 32 b = BitVec.ofNat 32 (a &&& b)
  apply BitVec.eq_of_getLsbD_eq
  intro i hi
  simp [hi]
theorem fa_or (a b : Nat) : nI a ||| nI b = nI (a ||| b) := by
  apply Int32.toBitVec_inj.1
  show BitVec.ofNat 32 a ||| BitVec.ofNat 32 b = BitVec.ofNat 32 (a ||| b)
  apply BitVec.eq_of_getLsbD_eq
  intro i hi
  simp [hi]
/-- a remainder by a power of two, as a mask -/
theorem fa_mask (n k : Nat) : nI n &&& nI (2 ^ k - 1) = nI (n % 2 ^ k) := by rw [fa_and, Nat.and_two_pow_sub_one_eq_mod]
/-- 'or' of a high part and a low one that don't meet is their sum -/
theorem fa_or_sum {a k : Nat} (b : Nat) (h : a < 2 ^ k) : nI (2 ^ k * b) ||| nI a = nI (2 ^ k * b + a) := by rw [fa_or, Nat.two_pow_add_eq_or_of_lt h]
/-- one bit, by 'and' with a power of two -/
theorem fa_bit {n j : Nat} (hj : j < 31) : nI n &&& nI (2 ^ j) = 0 ↔ n.testBit j = false := by
  have h2 : (2 : Nat) ^ j < 2 ^ 31 := Nat.pow_lt_pow_right (by decide) hj
  have hle : n &&& 2 ^ j ≤ 2 ^ j := Nat.and_le_right
  have e : n &&& 2 ^ j = 0 ↔ n.testBit j = false := by
    constructor
    · intro h
      have h1 : (n &&& 2 ^ j).testBit j = false := by rw [h]; simp
      rw [Nat.testBit_and] at h1
      first | simpa using h1 | simpa [Nat.testBit_two_pow_self] using h1 | simpa [Nat.testBit_two_pow] using h1
    · intro h
      apply Nat.eq_of_testBit_eq
      intro i
      rw [Nat.testBit_and]
      by_cases hi : j = i
      · subst hi; simp [h]
      · first | (simp [Nat.testBit_two_pow, hi]; done) | (simp [Nat.testBit_two_pow_of_ne hi]; done)
  rw [fa_and]
  constructor
  · intro h
    apply e.mp
    rcases Nat.eq_zero_or_pos (n &&& 2 ^ j) with z | z
    · exact z
    · exact absurd h (nI_ne0 z (Nat.lt_of_le_of_lt hle h2))
  · intro h
    rw [e.mpr h]; exact nI_0
/-- a remainder by a power of two of a number that isn't negative, as Java divides -/
theorem fa_rem {a k : Nat} (ha : a < 2 ^ 31) (hk : k < 31) : nI a - nI a / nI (2 ^ k) * nI (2 ^ k) = nI (a % 2 ^ k) := pk_rem ha (Nat.two_pow_pos k) (Nat.pow_lt_pow_right (by decide) hk)
/-! ===== cuts to a byte, a short ===== -/
theorem fa_byte_xor (x y : Int32) : (x ^^^ y).toInt8 = x.toInt8 ^^^ y.toInt8 := by
  apply Int8.toBitVec_inj.1
  apply BitVec.eq_of_getLsbD_eq
  intro i hi
  first | (simp [hi]; done) | (simp [hi, BitVec.getLsbD_setWidth, BitVec.getLsbD_signExtend]; done)
theorem fa_short_xor (x y : Int32) : (x ^^^ y).toInt16 = x.toInt16 ^^^ y.toInt16 := by
  apply Int16.toBitVec_inj.1
  apply BitVec.eq_of_getLsbD_eq
  intro i hi
  first | (simp [hi]; done) | (simp [hi, BitVec.getLsbD_setWidth, BitVec.getLsbD_signExtend]; done)
/-- the cut to a byte sees the low byte alone -/
theorem fa_byte_low (x : Int32) : (x &&& 255).toInt8 = x.toInt8 := by
  apply Int8.toBitVec_inj.1
  apply BitVec.eq_of_getLsbD_eq
  intro i hi
  have h2 : (255 : Int32).toBitVec.getLsbD i = true := by
    have : ∀ j : Fin 8, (255 : Int32).toBitVec.getLsbD j.val = true := by decide +kernel
    exact this ⟨i, hi⟩
  have h4 : (x &&& 255).toBitVec.getLsbD i = x.toBitVec.getLsbD i := by
    show (x.toBitVec &&& (255 : Int32).toBitVec).getLsbD i = _
    rw [BitVec.getLsbD_and, h2, Bool.and_true]
  have h3 : i < 32 := by omega
  first
    | (show (((x &&& 255).toBitVec).signExtend 8).getLsbD i = (x.toBitVec.signExtend 8).getLsbD i; rw [BitVec.getLsbD_signExtend, BitVec.getLsbD_signExtend, if_pos h3, if_pos h3, h4])
    | (show (((x &&& 255).toBitVec).setWidth 8).getLsbD i = (x.toBitVec.setWidth 8).getLsbD i; rw [BitVec.getLsbD_setWidth, BitVec.getLsbD_setWidth, h4])
    | (simp [hi, h3, h4]; done)
theorem fa_short_low (x : Int32) : (x &&& 65535).toInt16 = x.toInt16 := by
  apply Int16.toBitVec_inj.1
  apply BitVec.eq_of_getLsbD_eq
  intro i hi
  have h2 : (65535 : Int32).toBitVec.getLsbD i = true := by
    have : ∀ j : Fin 16, (65535 : Int32).toBitVec.getLsbD j.val = true := by decide +kernel
    exact this ⟨i, hi⟩
  have h4 : (x &&& 65535).toBitVec.getLsbD i = x.toBitVec.getLsbD i := by
    show (x.toBitVec &&& (65535 : Int32).toBitVec).getLsbD i = _
    rw [BitVec.getLsbD_and, h2, Bool.and_true]
  have h3 : i < 32 := by omega
  first
    | (show (((x &&& 65535).toBitVec).signExtend 16).getLsbD i = (x.toBitVec.signExtend 16).getLsbD i; rw [BitVec.getLsbD_signExtend, BitVec.getLsbD_signExtend, if_pos h3, if_pos h3, h4])
    | (show (((x &&& 65535).toBitVec).setWidth 16).getLsbD i = (x.toBitVec.setWidth 16).getLsbD i; rw [BitVec.getLsbD_setWidth, BitVec.getLsbD_setWidth, h4])
    | (simp [hi, h3, h4]; done)
/-- a small number is its own byte, its own short -/
theorem fa_byte_small {n : Nat} (h : n < 128) : (nI n).toInt8.toInt32 = nI n := by
  have : ∀ j : Fin 128, (nI j.val).toInt8.toInt32 = nI j.val := by decide +kernel
  exact this ⟨n, h⟩
/-! ===== absolute difference ===== -/
theorem fa_absdiff {a b : Nat} (ha : a < 2 ^ 31) (hb : b < 2 ^ 31) : (if nI a < nI b then nI b - nI a else nI a - nI b) = nI (if a < b then b - a else a - b) := by
  by_cases h : a < b
  · rw [if_pos (nI_lt h hb), if_pos h]
    exact pk_sub (Nat.le_of_lt h)
  · rw [if_neg (nI_nlt (Nat.le_of_not_lt h) ha), if_neg h]
    exact pk_sub (Nat.le_of_not_lt h)
/-! ===== an array behind i stores, a conditional store, a row copied ===== -/
/-- f where k < i, what stood there else -/
def fa_fill {α : Type} (f g : Nat → α) (i : Nat) : Nat → α := fun k => if k < i then f k else g k
theorem fa_fill_0 {α : Type} (f g : Nat → α) : fa_fill f g 0 = g := funext fun k => if_neg (Nat.not_lt_zero k)
theorem fa_fill_in {α : Type} {f g : Nat → α} {i k : Nat} (h : k < i) : fa_fill f g i k = f k := if_pos h
theorem fa_fill_out {α : Type} {f g : Nat → α} {i k : Nat} (h : i ≤ k) : fa_fill f g i k = g k := if_neg (Nat.not_lt.mpr h)
theorem fa_fill_succ (f g : Nat → Int32) (i : Nat) : upd (fa_fill f g i) i (f i) = fa_fill f g (i + 1) := by
  funext k
  by_cases e : k = i
  · subst e
    rw [pk_us]
    exact (if_pos (Nat.lt_succ_self k)).symm
  · rw [pk_un e]
    by_cases h : k < i
    · rw [fa_fill_in h, fa_fill_in (Nat.lt_succ_of_lt h)]
    · rw [fa_fill_out (Nat.le_of_not_lt h), fa_fill_out (by omega)]
/-- a store that changes nothing -/
theorem fa_upd_same {f : Nat → Int32} {i : Nat} {x : Int32} (h : f i = x) : upd f i x = f := by
  funext k
  by_cases e : k = i
  · subst e
    rw [pk_us, h]
  · rw [pk_un e]
/-- a store under a condition, told as one -/
theorem fa_upd_if (c : Prop) [Decidable c] (f : Nat → Int32) (i : Nat) (x : Int32) : (if c then upd f i x else f) = upd f i (if c then x else f i) := by
  by_cases h : c
  · rw [if_pos h, if_pos h]
  · rw [if_neg h, if_neg h, fa_upd_same rfl]
/-- two stores at one place, at two -/
theorem fa_upd_twice (f : Nat → Int32) (i : Nat) (x y : Int32) : upd (upd f i x) i y = upd f i y := by
  funext k
  by_cases e : k = i
  · subst e
    rw [pk_us, pk_us]
  · rw [pk_un e, pk_un e, pk_un e]
theorem fa_upd_swap (f : Nat → Int32) {i j : Nat} (h : i ≠ j) (x y : Int32) : upd (upd f i x) j y = upd (upd f j y) i x := by
  funext k
  by_cases e : k = i
  · subst e
    rw [pk_un h, pk_us, pk_us]
  · by_cases e2 : k = j
    · subst e2
      rw [pk_us, pk_un e, pk_us]
    · rw [pk_un e2, pk_un e, pk_un e, pk_un e2]
/-! ===== the first index with a property; a count ===== -/
/-- the first k < n with p k, n if there is none -/
def fa_first (p : Nat → Bool) : Nat → Nat
  | 0 => 0
  | n + 1 => if fa_first p n < n then fa_first p n else if p n then n else n + 1
theorem fa_first_le (p : Nat → Bool) : ∀ n, fa_first p n ≤ n
  | 0 => Nat.le_refl 0
  | n + 1 => by
    have ih := fa_first_le p n
    unfold fa_first
    split
    · omega
    · split
      · omega
      · omega
theorem fa_first_no (p : Nat → Bool) : ∀ n k, k < fa_first p n → p k = false
  | 0, k, h => absurd h (Nat.not_lt_zero k)
  | n + 1, k, h => by
    have ih := fa_first_no p n
    have hl := fa_first_le p n
    unfold fa_first at h
    split at h
    · exact ih k h
    · rename_i h1
      split at h
      · exact ih k (by omega)
      · rename_i h2
        by_cases e : k = n
        · subst e
          exact Bool.eq_false_iff.mpr h2
        · exact ih k (by omega)
theorem fa_first_yes (p : Nat → Bool) : ∀ n, fa_first p n < n → p (fa_first p n) = true
  | 0, h => absurd h (Nat.not_lt_zero _)
  | n + 1, h => by
    have ih := fa_first_yes p n
    have hl := fa_first_le p n
    unfold fa_first at h ⊢
    split at h
    · rename_i h1
      rw [if_pos h1]
      exact ih h1
    · rename_i h1
      rw [if_neg h1]
      split at h
      · rename_i h2
        rw [if_pos h2]
        exact h2
      · omega
/-- how many k < n have p k -/
def fa_cnt (p : Nat → Bool) : Nat → Nat
  | 0 => 0
  | n + 1 => fa_cnt p n + if p n then 1 else 0
theorem fa_cnt_le (p : Nat → Bool) : ∀ n, fa_cnt p n ≤ n
  | 0 => Nat.le_refl 0
  | n + 1 => by
    have ih := fa_cnt_le p n
    unfold fa_cnt
    split
    · omega
    · omega
theorem fa_cnt_yes {p : Nat → Bool} {n : Nat} (h : p n = true) : fa_cnt p (n + 1) = fa_cnt p n + 1 := by rw [fa_cnt, if_pos h]
theorem fa_cnt_no {p : Nat → Bool} {n : Nat} (h : p n = false) : fa_cnt p (n + 1) = fa_cnt p n := by rw [fa_cnt, if_neg (by rw [h]; decide)]; rfl
theorem fa_cnt_cong {p q : Nat → Bool} : ∀ {n : Nat}, (∀ k, k < n → p k = q k) → fa_cnt p n = fa_cnt q n
  | 0, _ => rfl
  | n + 1, h => by rw [fa_cnt, fa_cnt, fa_cnt_cong (fun k hk => h k (Nat.lt_succ_of_lt hk)), h n (Nat.lt_succ_self n)]
/-! ===== an answer carried into a post; a branch on a boolean answer ===== -/
theorem fa_post {α : Type} {P : α → Prop} {x y : α} (h : x = y) (hp : P y) : P x := h ▸ hp
theorem fa_post2 {α β : Type} {P : α → β → Prop} {x y : α} {u v : β} (h : x = y) (h2 : u = v) (hp : P y v) : P x u := h ▸ h2 ▸ hp
theorem fa_bool {r : Int32} {b : Bool} (h : r = if b then 1 else 0) : (r = 0 ↔ b = false) ∧ (¬ r = 0 ↔ b = true) := by
  subst h
  cases b
  · exact ⟨⟨fun _ => rfl, fun _ => rfl⟩, ⟨fun h => absurd rfl h, fun h => absurd h (by decide)⟩⟩
  · exact ⟨⟨fun h => absurd h (by decide), fun h => absurd h (by decide)⟩, ⟨fun _ => rfl, fun _ => by decide⟩⟩
/-- a boolean's narrowing changes nothing -/
theorem fa_bool_and {r : Int32} (h : r = 0 ∨ r = 1) : r &&& 1 = r := by
  rcases h with rfl | rfl
  · decide
  · decide
theorem fa_bool_prop {c : Prop} [Decidable c] {r : Int32} (h : r = if c then 1 else 0) : (r = 0 ↔ ¬ c) ∧ (¬ r = 0 ↔ c) := by
  subst h
  by_cases hc : c
  · rw [if_pos hc]
    exact ⟨⟨fun h => absurd h (by decide), fun h => absurd hc h⟩, ⟨fun _ => hc, fun _ => by decide⟩⟩
  · rw [if_neg hc]
    exact ⟨⟨fun _ => hc, fun _ => rfl⟩, ⟨fun h => absurd rfl h, fun h => absurd h hc⟩⟩
end
section
/-! plain facts to paste, each family by itself; over the kit's nI, lN and upd -/
/-! ===== drawers: more things than places ===== -/
theorem fb_holes : ∀ (m n : Nat) (f : Nat → Nat), (∀ i, i < n → f i < m) → (∀ i j, i < j → j < n → f i ≠ f j) → n ≤ m := by
  intro m
  induction m with
  | zero =>
    intro n f h1 _
    rcases Nat.eq_zero_or_pos n with h | h
    · omega
    · exact absurd (h1 0 h) (Nat.not_lt_zero _)
  | succ m ih =>
    intro n f h1 h2
    by_cases hx : ∃ i, i < n ∧ f i = m
    · obtain ⟨a, ha, hfa⟩ := hx
      have hg := ih (n - 1) (fun i => if i < a then f i else f (i + 1)) (by
        intro i hi
        by_cases q : i < a
        · simp only [if_pos q]
          have b1 := h1 i (by omega)
          have b2 := h2 i a q ha
          omega
        · simp only [if_neg q]
          have b1 := h1 (i + 1) (by omega)
          have b2 := h2 a (i + 1) (by omega) (by omega)
          omega) (by
        intro i j hij hj
        by_cases q : i < a
        · by_cases r : j < a
          · simp only [if_pos q, if_pos r]
            exact h2 i j hij (by omega)
          · simp only [if_pos q, if_neg r]
            exact h2 i (j + 1) (by omega) (by omega)
        · have r : ¬ j < a := by omega
          simp only [if_neg q, if_neg r]
          exact h2 (i + 1) (j + 1) (by omega) (by omega))
      omega
    · have hg := ih n f (fun i hi => by
        have b1 := h1 i hi
        have b2 : f i ≠ m := fun e => hx ⟨i, hi, e⟩
        omega) h2
      omega
/-- two of them in one place -/
theorem fb_twice {m n : Nat} {f : Nat → Nat} (h : ∀ i, i < n → f i < m) (hm : m < n) : ∃ i j, i < j ∧ j < n ∧ f i = f j := by
  refine Classical.byContradiction fun hx => ?_
  have := fb_holes m n f h (fun i j hij hj e => hx ⟨i, j, hij, hj, e⟩)
  omega
/-- as many as places, none twice: each place is taken -/
theorem fb_onto {n : Nat} {f : Nat → Nat} (h : ∀ i, i < n → f i < n) (h2 : ∀ i j, i < j → j < n → f i ≠ f j) {y : Nat} (hy : y < n) : ∃ i, i < n ∧ f i = y := by
  refine Classical.byContradiction fun hx => ?_
  have hne : ∀ i, i < n → f i ≠ y := fun i hi e => hx ⟨i, hi, e⟩
  have := fb_holes (n - 1) n (fun i => if f i < y then f i else f i - 1) (by
    intro i hi
    have b1 := h i hi
    have b2 := hne i hi
    by_cases q : f i < y
    · simp only [if_pos q]; omega
    · simp only [if_neg q]; omega) (by
    intro i j hij hj
    have b1 := hne i (by omega)
    have b2 := hne j hj
    have b3 := h2 i j hij hj
    by_cases q : f i < y
    · by_cases r : f j < y
      · simp only [if_pos q, if_pos r]; exact b3
      · simp only [if_pos q, if_neg r]; omega
    · by_cases r : f j < y
      · simp only [if_neg q, if_pos r]; omega
      · simp only [if_neg q, if_neg r]; omega)
  omega
/-! ===== how many places have a property ===== -/
def fb_ct (p : Nat → Bool) : Nat → Nat
  | 0 => 0
  | n + 1 => fb_ct p n + (if p n then 1 else 0)
theorem fb_ct_succ (p : Nat → Bool) (n : Nat) : fb_ct p (n + 1) = fb_ct p n + (if p n then 1 else 0) := rfl
theorem fb_ct_le (p : Nat → Bool) : ∀ n, fb_ct p n ≤ n
  | 0 => Nat.le_refl _
  | n + 1 => by
    have h := fb_ct_le p n
    rw [fb_ct_succ]
    split <;> omega
theorem fb_ct_step (p : Nat → Bool) (m : Nat) : ∀ n, fb_ct p m ≤ fb_ct p (m + n)
  | 0 => Nat.le_refl _
  | n + 1 => by
    have h := fb_ct_step p m n
    show fb_ct p m ≤ fb_ct p (m + n + 1)
    rw [fb_ct_succ]
    omega
theorem fb_ct_mono (p : Nat → Bool) {m n : Nat} (h : m ≤ n) : fb_ct p m ≤ fb_ct p n := by
  have := fb_ct_step p m (n - m)
  rwa [Nat.add_sub_cancel' h] at this
theorem fb_ct_cong {p q : Nat → Bool} : ∀ {n : Nat}, (∀ k, k < n → p k = q k) → fb_ct p n = fb_ct q n
  | 0, _ => rfl
  | n + 1, h => by
    rw [fb_ct_succ, fb_ct_succ, fb_ct_cong (fun k hk => h k (by omega)), h n (by omega)]
/-- one place changed -/
theorem fb_ct_out (p : Nat → Bool) (b : Bool) {i n : Nat} (h : n ≤ i) : fb_ct (fun k => if k = i then b else p k) n = fb_ct p n :=
  fb_ct_cong fun k hk => if_neg (by omega)
theorem fb_ct_upd (p : Nat → Bool) (b : Bool) {i : Nat} : ∀ {n : Nat}, i < n → fb_ct (fun k => if k = i then b else p k) n + (if p i then 1 else 0) = fb_ct p n + (if b then 1 else 0)
  | 0, h => absurd h (Nat.not_lt_zero i)
  | n + 1, h => by
    rw [fb_ct_succ, fb_ct_succ]
    rcases Nat.lt_or_ge i n with q | q
    · have := fb_ct_upd p b q
      have e : (if n = i then b else p n) = p n := if_neg (by omega)
      rw [e]
      omega
    · have e : i = n := by omega
      subst e
      rw [fb_ct_out p b (Nat.le_refl _)]
      simp only [if_true]
      omega
theorem fb_ct_sub {p q : Nat → Bool} : ∀ {n : Nat}, (∀ k, k < n → p k = true → q k = true) → fb_ct p n ≤ fb_ct q n
  | 0, _ => Nat.le_refl _
  | n + 1, h => by
    have h1 := fb_ct_sub (n := n) (p := p) (q := q) (fun k hk => h k (by omega))
    have h2 := h n (by omega)
    rw [fb_ct_succ, fb_ct_succ]
    cases hp : p n <;> cases hq : q n <;> simp_all <;> omega
theorem fb_ct_or {p q : Nat → Bool} : ∀ {n : Nat}, (∀ k, k < n → ¬ (p k = true ∧ q k = true)) → fb_ct (fun k => p k || q k) n = fb_ct p n + fb_ct q n
  | 0, _ => rfl
  | n + 1, h => by
    have h1 := fb_ct_or (n := n) (p := p) (q := q) (fun k hk => h k (by omega))
    have h2 := h n (by omega)
    rw [fb_ct_succ, fb_ct_succ, fb_ct_succ, h1]
    cases hp : p n <;> cases hq : q n <;> simp_all <;> omega
theorem fb_ct_not (p : Nat → Bool) : ∀ n, fb_ct p n + fb_ct (fun k => !p k) n = n
  | 0 => rfl
  | n + 1 => by
    have h := fb_ct_not p n
    rw [fb_ct_succ, fb_ct_succ]
    cases p n <;> simp <;> omega
theorem fb_ct_split (p : Nat → Bool) (m : Nat) : ∀ n, fb_ct p (m + n) = fb_ct p m + fb_ct (fun k => p (m + k)) n
  | 0 => rfl
  | n + 1 => by
    have h := fb_ct_split p m n
    show fb_ct p (m + n + 1) = _
    rw [fb_ct_succ, fb_ct_succ, h, Nat.add_assoc]
theorem fb_ct_zero {p : Nat → Bool} : ∀ {n : Nat}, fb_ct p n = 0 ↔ ∀ k, k < n → p k = false
  | 0 => ⟨fun _ k hk => absurd hk (Nat.not_lt_zero k), fun _ => rfl⟩
  | n + 1 => by
    have h := fb_ct_zero (p := p) (n := n)
    rw [fb_ct_succ]
    constructor
    · intro e k hk
      have e1 : fb_ct p n = 0 := by omega
      rcases Nat.lt_or_ge k n with q | q
      · exact h.mp e1 k q
      · have ek : k = n := by omega
        subst ek
        cases hp : p k
        · rfl
        · simp [hp] at e
    · intro a
      rw [h.mpr (fun k hk => a k (by omega)), a n (by omega)]
      rfl
theorem fb_ct_pos {p : Nat → Bool} {n : Nat} : 0 < fb_ct p n ↔ ∃ k, k < n ∧ p k = true := by
  constructor
  · intro h
    refine Classical.byContradiction fun hx => ?_
    have := fb_ct_zero.mpr (fun k hk => by
      cases hp : p k
      · rfl
      · exact absurd ⟨k, hk, hp⟩ hx : ∀ k, k < n → p k = false)
    omega
  · rintro ⟨k, hk, hp⟩
    rcases Nat.eq_zero_or_pos (fb_ct p n) with e | e
    · have := fb_ct_zero.mp e k hk
      rw [this] at hp
      cases hp
    · exact e
theorem fb_ct_all {p : Nat → Bool} {n : Nat} : fb_ct p n = n ↔ ∀ k, k < n → p k = true := by
  have h := fb_ct_not p n
  constructor
  · intro e k hk
    have z : fb_ct (fun k => !p k) n = 0 := by omega
    have := fb_ct_zero.mp z k hk
    cases hp : p k
    · simp [hp] at this
    · rfl
  · intro a
    have z : fb_ct (fun k => !p k) n = 0 := fb_ct_zero.mpr (fun k hk => by simp [a k hk])
    omega
/-- the k-th place with the property -/
theorem fb_ct_kth {p : Nat → Bool} {k : Nat} : ∀ {n : Nat}, k < fb_ct p n → ∃ i, i < n ∧ p i = true ∧ fb_ct p i = k
  | 0, h => absurd h (Nat.not_lt_zero k)
  | n + 1, h => by
    rcases Nat.lt_or_ge k (fb_ct p n) with q | q
    · obtain ⟨i, h1, h2⟩ := fb_ct_kth q
      exact ⟨i, by omega, h2⟩
    · rw [fb_ct_succ] at h
      cases hp : p n
      · simp [hp] at h; omega
      · simp [hp] at h
        exact ⟨n, by omega, hp, by omega⟩
theorem fb_ct_kth_one {p : Nat → Bool} {i j : Nat} (hi : p i = true) (hj : p j = true) (e : fb_ct p i = fb_ct p j) : i = j := by
  have key : ∀ a b : Nat, a < b → p a = true → fb_ct p a < fb_ct p b := by
    intro a b hab ha
    have h := fb_ct_mono p (show a + 1 ≤ b from hab)
    rw [fb_ct_succ, ha] at h
    simp at h
    omega
  rcases Nat.lt_trichotomy i j with q | q | q
  · have := key i j q hi; omega
  · exact q
  · have := key j i q hj; omega
/-! ===== sums over a range: one place changed, parts, bounds ===== -/
def fb_sm (f : Nat → Nat) : Nat → Nat
  | 0 => 0
  | n + 1 => fb_sm f n + f n
theorem fb_sm_succ (f : Nat → Nat) (n : Nat) : fb_sm f (n + 1) = fb_sm f n + f n := rfl
theorem fb_sm_cong {f g : Nat → Nat} : ∀ {n : Nat}, (∀ k, k < n → f k = g k) → fb_sm f n = fb_sm g n
  | 0, _ => rfl
  | n + 1, h => by rw [fb_sm_succ, fb_sm_succ, fb_sm_cong (fun k hk => h k (by omega)), h n (by omega)]
theorem fb_sm_out (f : Nat → Nat) (v : Nat) {i n : Nat} (h : n ≤ i) : fb_sm (fun k => if k = i then v else f k) n = fb_sm f n :=
  fb_sm_cong fun k hk => if_neg (by omega)
theorem fb_sm_upd (f : Nat → Nat) (v : Nat) {i : Nat} : ∀ {n : Nat}, i < n → fb_sm (fun k => if k = i then v else f k) n + f i = fb_sm f n + v
  | 0, h => absurd h (Nat.not_lt_zero i)
  | n + 1, h => by
    rw [fb_sm_succ, fb_sm_succ]
    rcases Nat.lt_or_ge i n with q | q
    · have := fb_sm_upd f v q
      have e : (if n = i then v else f n) = f n := if_neg (by omega)
      rw [e]
      omega
    · have e : i = n := by omega
      subst e
      rw [fb_sm_out f v (Nat.le_refl _)]
      simp only [if_true]
      omega
theorem fb_sm_add (f g : Nat → Nat) : ∀ n, fb_sm (fun k => f k + g k) n = fb_sm f n + fb_sm g n
  | 0 => rfl
  | n + 1 => by
    have h := fb_sm_add f g n
    rw [fb_sm_succ, fb_sm_succ, fb_sm_succ, h]
    omega
theorem fb_sm_le {f g : Nat → Nat} : ∀ {n : Nat}, (∀ k, k < n → f k ≤ g k) → fb_sm f n ≤ fb_sm g n
  | 0, _ => Nat.le_refl _
  | n + 1, h => by
    have h1 := fb_sm_le (n := n) (f := f) (g := g) (fun k hk => h k (by omega))
    have h2 := h n (by omega)
    rw [fb_sm_succ, fb_sm_succ]
    omega
theorem fb_sm_const (c : Nat) : ∀ n, fb_sm (fun _ => c) n = n * c
  | 0 => by rw [Nat.zero_mul]; rfl
  | n + 1 => by rw [fb_sm_succ, fb_sm_const c n, Nat.succ_mul]
theorem fb_sm_bound {f : Nat → Nat} {c n : Nat} (h : ∀ k, k < n → f k ≤ c) : fb_sm f n ≤ n * c := by
  rw [← fb_sm_const c n]
  exact fb_sm_le h
theorem fb_sm_mono (f : Nat → Nat) (m : Nat) : ∀ n, fb_sm f m ≤ fb_sm f (m + n)
  | 0 => Nat.le_refl _
  | n + 1 => by
    have h := fb_sm_mono f m n
    show fb_sm f m ≤ fb_sm f (m + n + 1)
    rw [fb_sm_succ]
    omega
theorem fb_sm_part (f : Nat → Nat) {i n : Nat} (h : i < n) : fb_sm f i + f i ≤ fb_sm f n := by
  have := fb_sm_mono f (i + 1) (n - (i + 1))
  rw [fb_sm_succ, show i + 1 + (n - (i + 1)) = n by omega] at this
  exact this
theorem fb_sm_split (f : Nat → Nat) (m : Nat) : ∀ n, fb_sm f (m + n) = fb_sm f m + fb_sm (fun k => f (m + k)) n
  | 0 => rfl
  | n + 1 => by
    have h := fb_sm_split f m n
    show fb_sm f (m + n + 1) = _
    rw [fb_sm_succ, fb_sm_succ, h, Nat.add_assoc]
theorem fb_sm_zero {f : Nat → Nat} {n : Nat} (h : fb_sm f n = 0) : ∀ k, k < n → f k = 0 := fun k hk => by
  have := fb_sm_part f hk
  omega
/-- the same over whole numbers -/
def fb_si (f : Nat → Int) : Nat → Int
  | 0 => 0
  | n + 1 => fb_si f n + f n
theorem fb_si_succ (f : Nat → Int) (n : Nat) : fb_si f (n + 1) = fb_si f n + f n := rfl
theorem fb_si_cong {f g : Nat → Int} : ∀ {n : Nat}, (∀ k, k < n → f k = g k) → fb_si f n = fb_si g n
  | 0, _ => rfl
  | n + 1, h => by rw [fb_si_succ, fb_si_succ, fb_si_cong (fun k hk => h k (by omega)), h n (by omega)]
theorem fb_si_out (f : Nat → Int) (v : Int) {i n : Nat} (h : n ≤ i) : fb_si (fun k => if k = i then v else f k) n = fb_si f n :=
  fb_si_cong fun k hk => if_neg (by omega)
theorem fb_si_upd (f : Nat → Int) (v : Int) {i : Nat} : ∀ {n : Nat}, i < n → fb_si (fun k => if k = i then v else f k) n = fb_si f n - f i + v
  | 0, h => absurd h (Nat.not_lt_zero i)
  | n + 1, h => by
    rw [fb_si_succ, fb_si_succ]
    rcases Nat.lt_or_ge i n with q | q
    · have := fb_si_upd f v q
      have e : (if n = i then v else f n) = f n := if_neg (by omega)
      rw [e]
      omega
    · have e : i = n := by omega
      subst e
      rw [fb_si_out f v (Nat.le_refl _)]
      simp only [if_true]
      omega
theorem fb_si_add (f g : Nat → Int) : ∀ n, fb_si (fun k => f k + g k) n = fb_si f n + fb_si g n
  | 0 => rfl
  | n + 1 => by
    have h := fb_si_add f g n
    rw [fb_si_succ, fb_si_succ, fb_si_succ, h]
    omega
theorem fb_si_sub (f g : Nat → Int) : ∀ n, fb_si (fun k => f k - g k) n = fb_si f n - fb_si g n
  | 0 => rfl
  | n + 1 => by
    have h := fb_si_sub f g n
    rw [fb_si_succ, fb_si_succ, fb_si_succ, h]
    omega
theorem fb_si_mul (c : Int) (f : Nat → Int) : ∀ n, fb_si (fun k => c * f k) n = c * fb_si f n
  | 0 => (Int.mul_zero c).symm
  | n + 1 => by
    have h := fb_si_mul c f n
    rw [fb_si_succ, fb_si_succ, h, Int.mul_add]
theorem fb_si_split (f : Nat → Int) (m : Nat) : ∀ n, fb_si f (m + n) = fb_si f m + fb_si (fun k => f (m + k)) n
  | 0 => (Int.add_zero _).symm
  | n + 1 => by
    have h := fb_si_split f m n
    show fb_si f (m + n + 1) = _
    rw [fb_si_succ, fb_si_succ, h, Int.add_assoc]
theorem fb_si_nat (f : Nat → Nat) : ∀ n, fb_si (fun k => (f k : Int)) n = (fb_sm f n : Int)
  | 0 => rfl
  | n + 1 => by
    have h := fb_si_nat f n
    rw [fb_si_succ, fb_sm_succ, h]
    omega
theorem fb_si_bound {f : Nat → Int} {c : Int} (hc : 0 ≤ c) : ∀ {n : Nat}, (∀ k, k < n → -c ≤ f k ∧ f k ≤ c) → -(n * c) ≤ fb_si f n ∧ fb_si f n ≤ n * c
  | 0, _ => by simp [fb_si]
  | n + 1, h => by
    have h1 := fb_si_bound (n := n) (f := f) hc (fun k hk => h k (by omega))
    have h2 := h n (by omega)
    have e : ((n + 1 : Nat) : Int) * c = n * c + c := by rw [Int.natCast_add, Int.add_mul]; simp
    rw [fb_si_succ, e]
    omega
/-! ===== bits of a long that isn't negative ===== -/
theorem fb_andL (a b : Nat) : lN a &&& lN b = lN (a &&& b) := by
  apply Int64.toBitVec_inj.1
  show BitVec.ofNat 64 a &&& BitVec.ofNat 64 b = BitVec.ofNat 64 (a &&& b)
  apply BitVec.eq_of_getLsbD_eq
  intro i hi
  simp [hi]
theorem fb_orL (a b : Nat) : lN a ||| lN b = lN (a ||| b) := by
  apply Int64.toBitVec_inj.1
  show BitVec.ofNat 64 a ||| BitVec.ofNat 64 b = BitVec.ofNat 64 (a ||| b)
  apply BitVec.eq_of_getLsbD_eq
  intro i hi
  simp [hi]
theorem fb_xorL (a b : Nat) : lN a ^^^ lN b = lN (a ^^^ b) := by
  apply Int64.toBitVec_inj.1
  show BitVec.ofNat 64 a ^^^ BitVec.ofNat 64 b = BitVec.ofNat 64 (a ^^^ b)
  apply BitVec.eq_of_getLsbD_eq
  intro i hi
  simp [hi]
theorem fb_xorI (a b : Nat) : nI a ^^^ nI b = nI (a ^^^ b) := by
  apply Int32.toBitVec_inj.1
  show BitVec.ofNat 32 a ^^^ BitVec.ofNat 32 b = BitVec.ofNat 32 (a ^^^ b)
  apply BitVec.eq_of_getLsbD_eq
  intro i hi
  simp [hi]
theorem fb_maskL (n k : Nat) : lN n &&& lN (2 ^ k - 1) = lN (n % 2 ^ k) := by rw [fb_andL, Nat.and_two_pow_sub_one_eq_mod]
theorem fb_or_sumL {a k : Nat} (b : Nat) (h : a < 2 ^ k) : lN (2 ^ k * b) ||| lN a = lN (2 ^ k * b + a) := by rw [fb_orL, Nat.two_pow_add_eq_or_of_lt h]
theorem fb_lN_inj {a b : Nat} (ha : a < 2 ^ 63) (hb : b < 2 ^ 63) : lN a = lN b ↔ a = b := by
  constructor
  · intro h
    have h1 : (BitVec.ofNat 64 a).toNat = (BitVec.ofNat 64 b).toNat := congrArg (fun x : Int64 => x.toBitVec.toNat) h
    rw [BitVec.toNat_ofNat, BitVec.toNat_ofNat, Nat.mod_eq_of_lt (by omega), Nat.mod_eq_of_lt (by omega)] at h1
    exact h1
  · rintro rfl; rfl
theorem fb_bit_nat (n j : Nat) : n &&& 2 ^ j = 0 ↔ n.testBit j = false := by
  constructor
  · intro h
    have h1 : (n &&& 2 ^ j).testBit j = false := by rw [h]; simp
    rw [Nat.testBit_and] at h1
    simpa using h1
  · intro h
    apply Nat.eq_of_testBit_eq
    intro i
    rw [Nat.testBit_and]
    by_cases hi : j = i
    · subst hi; simp [h]
    · first | (simp [Nat.testBit_two_pow, hi]; done) | (simp [Nat.testBit_two_pow_of_ne hi]; done)
/-- one bit of a long -/
theorem fb_bitL {n j : Nat} (hj : j < 63) : lN n &&& lN (2 ^ j) = 0 ↔ n.testBit j = false := by
  have h2 : (2 : Nat) ^ j < 2 ^ 63 := Nat.pow_lt_pow_right (by decide) hj
  have hle : n &&& 2 ^ j ≤ 2 ^ j := Nat.and_le_right
  rw [fb_andL, ← fb_bit_nat, show (0 : Int64) = lN 0 from rfl]
  exact fb_lN_inj (by omega) (by decide)
/-- a bit set, a bit taken off -/
theorem fb_bit_set (n j i : Nat) : (n ||| 2 ^ j).testBit i = (n.testBit i || decide (i = j)) := by
  rw [Nat.testBit_or]
  by_cases h : j = i
  · subst h; simp
  · have h2 : ¬ i = j := fun e => h e.symm
    first | (simp [Nat.testBit_two_pow, h, h2]; done) | (simp [Nat.testBit_two_pow_of_ne h, h2]; done)
theorem fb_bit_flip (n j i : Nat) : (n ^^^ 2 ^ j).testBit i = (n.testBit i ^^ decide (i = j)) := by
  rw [Nat.testBit_xor]
  by_cases h : j = i
  · subst h; simp
  · have h2 : ¬ i = j := fun e => h e.symm
    first | (simp [Nat.testBit_two_pow, h, h2]; done) | (simp [Nat.testBit_two_pow_of_ne h, h2]; done)
/-! ===== a stretch of an array written over by a function ===== -/
def fb_put {α : Type} (f g : Nat → α) (a n : Nat) : Nat → α := fun k => if a ≤ k ∧ k < a + n then g (k - a) else f k
theorem fb_put_0 {α : Type} (f g : Nat → α) (a : Nat) : fb_put f g a 0 = f := funext fun k => if_neg (by omega)
theorem fb_put_in {α : Type} {f g : Nat → α} {a n k : Nat} (h1 : a ≤ k) (h2 : k < a + n) : fb_put f g a n k = g (k - a) := if_pos ⟨h1, h2⟩
theorem fb_put_out {α : Type} {f g : Nat → α} {a n k : Nat} (h : k < a ∨ a + n ≤ k) : fb_put f g a n k = f k := if_neg (by omega)
theorem fb_put_succ (f g : Nat → Int32) (a n : Nat) : upd (fb_put f g a n) (a + n) (g n) = fb_put f g a (n + 1) := by
  funext k
  by_cases h : k = a + n
  · subst h
    simp [upd, fb_put]
  · by_cases h1 : a ≤ k ∧ k < a + n
    · have h2 : a ≤ k ∧ k < a + (n + 1) := by omega
      simp only [upd, fb_put, if_neg h, if_pos h1, if_pos h2]
    · have h2 : ¬ (a ≤ k ∧ k < a + (n + 1)) := by omega
      simp only [upd, fb_put, if_neg h, if_neg h1, if_neg h2]
/-- .. from the far end down -/
theorem fb_put_down (f g : Nat → Int32) {a n m : Nat} (h : m < n) : upd (fb_put f (fun k => g (k + (m + 1))) (a + (m + 1)) (n - (m + 1))) (a + m) (g m) = fb_put f (fun k => g (k + m)) (a + m) (n - m) := by
  funext k
  by_cases h0 : k = a + m
  · subst h0
    simp only [upd, if_true]
    rw [fb_put_in (by omega) (by omega)]
    exact congrArg g (by omega)
  · simp only [upd, if_neg h0]
    by_cases h1 : a + (m + 1) ≤ k ∧ k < a + (m + 1) + (n - (m + 1))
    · rw [fb_put_in h1.1 h1.2, fb_put_in (by omega) (by omega)]
      exact congrArg g (by omega)
    · rw [fb_put_out (by omega), fb_put_out (by omega)]
theorem fb_put_cong {α : Type} {f f2 g g2 : Nat → α} {a n : Nat} (hf : ∀ k, (k < a ∨ a + n ≤ k) → f k = f2 k) (hg : ∀ k, k < n → g k = g2 k) : fb_put f g a n = fb_put f2 g2 a n := by
  funext k
  by_cases h : a ≤ k ∧ k < a + n
  · rw [fb_put_in h.1 h.2, fb_put_in h.1 h.2, hg _ (by omega)]
  · rw [fb_put_out (by omega), fb_put_out (by omega), hf _ (by omega)]
/-! ===== the least, the first, the best so far; that there is one alone ===== -/
theorem fb_first {p : Nat → Prop} [DecidablePred p] : ∀ {n : Nat}, (∃ i, i < n ∧ p i) → ∃ i, i < n ∧ p i ∧ ∀ j, j < i → ¬ p j
  | 0, h => by obtain ⟨i, hi, -⟩ := h; exact absurd hi (Nat.not_lt_zero i)
  | n + 1, h => by
    by_cases q : ∃ i, i < n ∧ p i
    · obtain ⟨i, h1, h2⟩ := fb_first q
      exact ⟨i, by omega, h2⟩
    · obtain ⟨i, h1, h2⟩ := h
      have e : i = n := by
        rcases Nat.lt_or_ge i n with r | r
        · exact absurd ⟨i, r, h2⟩ q
        · omega
      subst e
      exact ⟨i, by omega, h2, fun j hj hp => q ⟨j, hj, hp⟩⟩
theorem fb_first_one {p : Nat → Prop} {i j : Nat} (hi : p i) (hi2 : ∀ k, k < i → ¬ p k) (hj : p j) (hj2 : ∀ k, k < j → ¬ p k) : i = j := by
  rcases Nat.lt_trichotomy i j with q | q | q
  · exact absurd hi (hj2 i q)
  · exact q
  · exact absurd hj (hi2 j q)
theorem fb_last {p : Nat → Prop} [DecidablePred p] : ∀ {n : Nat}, (∃ i, i < n ∧ p i) → ∃ i, i < n ∧ p i ∧ ∀ j, i < j → j < n → ¬ p j
  | 0, h => by obtain ⟨i, hi, -⟩ := h; exact absurd hi (Nat.not_lt_zero i)
  | n + 1, h => by
    by_cases q : p n
    · exact ⟨n, by omega, q, fun j h1 h2 => by omega⟩
    · obtain ⟨i, h1, h2⟩ := h
      have hi : i < n := by
        rcases Nat.lt_or_ge i n with r | r
        · exact r
        · have e : i = n := by omega
          subst e
          exact absurd h2 q
      obtain ⟨i2, a1, a2, a3⟩ := fb_last (n := n) ⟨i, hi, h2⟩
      refine ⟨i2, by omega, a2, fun j b1 b2 => ?_⟩
      rcases Nat.lt_or_ge j n with r | r
      · exact a3 j b1 r
      · have e : j = n := by omega
        subst e
        exact q
/-- the first greatest -/
theorem fb_best (f : Nat → Int) : ∀ {n : Nat}, 0 < n → ∃ i, i < n ∧ (∀ j, j < n → f j ≤ f i) ∧ ∀ j, j < i → f j < f i
  | 0, h => absurd h (Nat.lt_irrefl 0)
  | 1, _ => ⟨0, by omega, fun j hj => by have e : j = 0 := by omega
                                         subst e; exact Int.le_refl _, fun j hj => absurd hj (Nat.not_lt_zero j)⟩
  | n + 2, _ => by
    obtain ⟨i, h1, h2, h3⟩ := fb_best f (n := n + 1) (by omega)
    by_cases q : f i < f (n + 1)
    · refine ⟨n + 1, by omega, fun j hj => ?_, fun j hj => ?_⟩
      · rcases Nat.lt_or_ge j (n + 1) with r | r
        · have := h2 j r; omega
        · have e : j = n + 1 := by omega
          subst e; exact Int.le_refl _
      · have := h2 j hj; omega
    · refine ⟨i, by omega, fun j hj => ?_, h3⟩
      rcases Nat.lt_or_ge j (n + 1) with r | r
      · exact h2 j r
      · have e : j = n + 1 := by omega
        subst e; omega
theorem fb_best_one {f : Nat → Int} {n i j : Nat} (hi : i < n) (hi2 : ∀ k, k < n → f k ≤ f i) (hi3 : ∀ k, k < i → f k < f i) (hj : j < n) (hj2 : ∀ k, k < n → f k ≤ f j) (hj3 : ∀ k, k < j → f k < f j) : i = j := by
  rcases Nat.lt_trichotomy i j with q | q | q
  · have a := hj3 i q
    have b := hi2 j hj
    omega
  · exact q
  · have a := hi3 j q
    have b := hj2 i hi
    omega
/-- the first least -/
theorem fb_low (f : Nat → Int) {n : Nat} (h : 0 < n) : ∃ i, i < n ∧ (∀ j, j < n → f i ≤ f j) ∧ ∀ j, j < i → f i < f j := by
  obtain ⟨i, h1, h2, h3⟩ := fb_best (fun k => -f k) h
  exact ⟨i, h1, fun j hj => by have := h2 j hj; omega, fun j hj => by have := h3 j hj; omega⟩
/-! ===== signed ints as whole numbers, within bounds ===== -/
theorem fb_rng (x : Int32) : -2147483648 ≤ x.toInt ∧ x.toInt < 2147483648 := by
  have h1 := Int32.le_toInt x
  have h2 := Int32.toInt_lt x
  omega
theorem fb_bmod {z : Int} (h1 : -2147483648 ≤ z) (h2 : z < 2147483648) : z.bmod (2 ^ 32) = z := by
  rw [Int.bmod_eq_of_le (by omega) (by omega)]
theorem fb_addI {x y : Int32} (h1 : -2147483648 ≤ x.toInt + y.toInt) (h2 : x.toInt + y.toInt < 2147483648) : (x + y).toInt = x.toInt + y.toInt := by
  rw [Int32.toInt_add, fb_bmod h1 h2]
theorem fb_subI {x y : Int32} (h1 : -2147483648 ≤ x.toInt - y.toInt) (h2 : x.toInt - y.toInt < 2147483648) : (x - y).toInt = x.toInt - y.toInt := by
  rw [Int32.toInt_sub, fb_bmod h1 h2]
theorem fb_mulI {x y : Int32} (h1 : -2147483648 ≤ x.toInt * y.toInt) (h2 : x.toInt * y.toInt < 2147483648) : (x * y).toInt = x.toInt * y.toInt := by
  rw [Int32.toInt_mul, fb_bmod h1 h2]
theorem fb_negI {x : Int32} (h : x.toInt ≠ -2147483648) : (-x).toInt = -x.toInt := by
  have := fb_rng x
  rw [Int32.toInt_neg, fb_bmod (by omega) (by omega)]
theorem fb_ofI {z : Int} (h1 : -2147483648 ≤ z) (h2 : z < 2147483648) : (Int32.ofInt z).toInt = z := by
  rw [Int32.toInt_ofInt, fb_bmod h1 h2]
theorem fb_asI (x : Int32) : Int32.ofInt x.toInt = x := Int32.ofInt_toInt x
theorem fb_rngL (x : Int64) : -9223372036854775808 ≤ x.toInt ∧ x.toInt < 9223372036854775808 := by
  have h1 := Int64.le_toInt x
  have h2 := Int64.toInt_lt x
  omega
theorem fb_bmodL {z : Int} (h1 : -9223372036854775808 ≤ z) (h2 : z < 9223372036854775808) : z.bmod (2 ^ 64) = z := by
  rw [Int.bmod_eq_of_le (by omega) (by omega)]
theorem fb_addL {x y : Int64} (h1 : -9223372036854775808 ≤ x.toInt + y.toInt) (h2 : x.toInt + y.toInt < 9223372036854775808) : (x + y).toInt = x.toInt + y.toInt := by
  rw [Int64.toInt_add, fb_bmodL h1 h2]
theorem fb_subL {x y : Int64} (h1 : -9223372036854775808 ≤ x.toInt - y.toInt) (h2 : x.toInt - y.toInt < 9223372036854775808) : (x - y).toInt = x.toInt - y.toInt := by
  rw [Int64.toInt_sub, fb_bmodL h1 h2]
theorem fb_mulL {x y : Int64} (h1 : -9223372036854775808 ≤ x.toInt * y.toInt) (h2 : x.toInt * y.toInt < 9223372036854775808) : (x * y).toInt = x.toInt * y.toInt := by
  rw [Int64.toInt_mul, fb_bmodL h1 h2]
/-! ===== cuts of what is narrow already ===== -/
theorem fb_byte {x : Int32} (h1 : -128 ≤ x.toInt) (h2 : x.toInt < 128) : x.toInt8.toInt32 = x := by
  apply Int32.toInt_inj.1
  rw [Int8.toInt_toInt32, Int32.toInt_toInt8, Int.bmod_eq_of_le (by omega) (by omega)]
theorem fb_short {x : Int32} (h1 : -32768 ≤ x.toInt) (h2 : x.toInt < 32768) : x.toInt16.toInt32 = x := by
  apply Int32.toInt_inj.1
  rw [Int16.toInt_toInt32, Int32.toInt_toInt16, Int.bmod_eq_of_le (by omega) (by omega)]
theorem fb_byte_rng (x : Int32) : -128 ≤ x.toInt8.toInt32.toInt ∧ x.toInt8.toInt32.toInt < 128 := by
  rw [Int8.toInt_toInt32]
  have h1 := Int8.le_toInt x.toInt8
  have h2 := Int8.toInt_lt x.toInt8
  omega
theorem fb_short_rng (x : Int32) : -32768 ≤ x.toInt16.toInt32.toInt ∧ x.toInt16.toInt32.toInt < 32768 := by
  rw [Int16.toInt_toInt32]
  have h1 := Int16.le_toInt x.toInt16
  have h2 := Int16.toInt_lt x.toInt16
  omega
theorem fb_byte_twice (x : Int32) : x.toInt8.toInt32.toInt8.toInt32 = x.toInt8.toInt32 := fb_byte (fb_byte_rng x).1 (fb_byte_rng x).2
theorem fb_short_twice (x : Int32) : x.toInt16.toInt32.toInt16.toInt32 = x.toInt16.toInt32 := fb_short (fb_short_rng x).1 (fb_short_rng x).2
theorem fb_char {n : Nat} (h : n < 65536) : (nI n).toUInt32.toUInt16.toUInt32.toInt32 = nI n := by
  apply Int32.toBitVec_inj.1
  apply BitVec.eq_of_toNat_eq
  have e1 : (nI n).toBitVec.toNat = n := by
    show (BitVec.ofNat 32 n).toNat = n
    rw [BitVec.toNat_ofNat, Nat.mod_eq_of_lt (by omega)]
  have e2 : ((nI n).toUInt32.toUInt16.toUInt32).toNat = n := by
    rw [UInt16.toNat_toUInt32, UInt32.toNat_toUInt16]
    show (nI n).toBitVec.toNat % 2 ^ 16 = n
    rw [e1, Nat.mod_eq_of_lt (by omega)]
  rw [e1]
  exact e2
end
section
/-! ===== what bytes are, what a letter is worth ===== -/
abbrev cap (b : Int32) : Prop := 65 ≤ b.toInt ∧ b.toInt ≤ 90
abbrev letr (b : Int32) : Prop := (65 ≤ b.toInt ∧ b.toInt ≤ 90) ∨ (97 ≤ b.toInt ∧ b.toInt ≤ 122)
abbrev okb (b : Nat) : Prop := b = 32 ∨ b = 63 ∨ (65 ≤ b ∧ b ≤ 90) ∨ (97 ≤ b ∧ b ≤ 122)
theorem uN_lN {n : Nat} (h : n < 2 ^ 64) : uN (lN n) = n := by
  show (BitVec.ofNat 64 n).toNat = n
  rw [BitVec.toNat_ofNat, Nat.mod_eq_of_lt h]
theorem lN_uN (x : Int64) : lN (uN x) = x := uN_inj (uN_lN (uN_lt x))
def byt (v : Int64) (k : Nat) : Nat := uN v / 2 ^ (8 * k) % 256
theorem byt_lt (v : Int64) (k : Nat) : byt v k < 256 := Nat.mod_lt _ (by decide)
theorem byt_x (v : Int64) {k : Nat} (hk : k < 8) : ((v.toUInt64 >>> ((nI (8 * k)).toInt64.toUInt64 &&& Int64.toUInt64 63)).toInt64).toInt32 &&& nI 255 = nI (byt v k) := by
  have h : (v.toUInt64 >>> ((nI (8 * k)).toInt64.toUInt64 &&& Int64.toUInt64 63)).toInt64 = lN (uN v / 2 ^ (8 * k)) := by
    apply uN_inj
    rw [uN_sk v (by omega), uN_lN (Nat.lt_of_le_of_lt (Nat.div_le_self _ _) (uN_lt v))]
  rw [h, lN_i, show nI 255 = nI (2 ^ 8 - 1) from rfl, fa_mask]
  rfl
def wv (f : Nat → Int32) (n c : Nat) (b a : Int32) : Int32 := if ¬ letr b ∨ (1 ≤ n ∧ ¬ cap b) ∨ (2 ≤ n ∧ b.toInt = a.toInt) then nI 0 else f (26 * c + (b.toInt - (if cap b then 65 else 97)).toNat)
theorem wv_0 {f : Nat → Int32} {n c : Nat} {b a : Int32} (h : ¬ letr b ∨ (1 ≤ n ∧ ¬ cap b) ∨ (2 ≤ n ∧ b.toInt = a.toInt)) : nI 0 = wv f n c b a := by unfold wv; rw [if_pos h]
theorem wv_c {f : Nat → Int32} {n c j : Nat} {a : Int32} (hj : j < 123) (h : cap (nI j)) (h2 : ¬ (2 ≤ n ∧ (nI j).toInt = a.toInt)) : f (c * 26 + j - 65) = wv f n c (nI j) a := by
  have e : (nI j).toInt = (j : Int) := nI_toInt (by omega)
  unfold wv
  rw [if_neg (by omega), if_pos h, e]
  congr 1
  omega
theorem wv_l {f : Nat → Int32} {n c j : Nat} {a : Int32} (hj : j < 123) (h0 : letr (nI j)) (h : ¬ cap (nI j)) (h2 : ¬ 1 ≤ n) : f (c * 26 + j - 97) = wv f n c (nI j) a := by
  have e : (nI j).toInt = (j : Int) := nI_toInt (by omega)
  unfold wv
  rw [if_neg (by omega), if_neg h, e]
  congr 1
  omega
/-- what stands ahead of place i of a text that begins at fr -/
def ahd (t : Nat → Int32) (fr : Nat) : Nat → Int32
  | 0 => nI 32
  | k + 1 => t (fr + k)
def smv (f : Nat → Int32) (n c : Nat) (t : Nat → Int32) (fr : Nat) : Nat → Int32
  | 0 => nI 0
  | k + 1 => smv f n c t fr k + wv f n c (t (fr + k)) (ahd t fr k)
abbrev mcy (nx so : Nat → Int32) (b v : Nat) : Prop := (nx b >>> (so v &&& 31)) &&& nI 1 = nI 1
abbrev wordy (t : Nat → Int32) (L : Nat) : Prop := (1 ≤ L ∧ L ≤ 8) ∧ ∀ k, k < L → letr (t k)
/-- broken letters among the first bytes -/
def brk (t : Nat → Int32) : Nat → Nat
  | 0 => 0
  | k + 1 => brk t k + (if (t k).toInt = 63 then 1 else 0)
theorem brk_y {t : Nat → Int32} {i : Nat} (h : (t i).toInt = ((63 : Nat) : Int)) : brk t i + 1 = brk t (i + 1) := by
  show _ = brk t i + (if (t i).toInt = 63 then 1 else 0)
  rw [if_pos (by omega)]
theorem brk_n {t : Nat → Int32} {i : Nat} (h : ¬ (t i).toInt = ((63 : Nat) : Int)) : brk t i = brk t (i + 1) := by
  show _ = brk t i + (if (t i).toInt = 63 then 1 else 0)
  rw [if_neg (by omega)]; rfl
theorem brk_le (t : Nat → Int32) : ∀ k, brk t k ≤ k
  | 0 => Nat.le_refl 0
  | k + 1 => by have := brk_le t k; show brk t k + (if (t k).toInt = 63 then 1 else 0) ≤ _; split <;> omega
end
section
/-! ===== numbers of arrays as naturals; parts of the draft; sums of vocables ===== -/
def tn (x : Int32) : Nat := x.toInt.toNat
theorem tn_nI {j : Nat} (h : j < 2 ^ 31) : tn (nI j) = j := by unfold tn; rw [nI_toInt h]; omega
abbrev okV (f : Nat → Int32) (n lo hi : Nat) : Prop := ∀ k, k < n → f k = nI (tn (f k)) ∧ lo ≤ tn (f k) ∧ tn (f k) ≤ hi
theorem okV_1 {x : Int32} {lo hi : Nat} (h : ∃ j : Nat, x = nI j ∧ lo ≤ j ∧ j ≤ hi) (hh : hi < 2 ^ 31) : x = nI (tn x) ∧ lo ≤ tn x ∧ tn x ≤ hi := by
  obtain ⟨j, rfl, h1, h2⟩ := h
  rw [tn_nI (by omega)]
  exact ⟨rfl, h1, h2⟩
theorem okV_upd {f : Nat → Int32} {n lo hi k : Nat} {x : Int32} (h : okV f n lo hi) (hx : x = nI (tn x) ∧ lo ≤ tn x ∧ tn x ≤ hi) : okV (upd f k x) n lo hi := by
  intro j hj
  by_cases e : j = k
  · subst e; simp only [upd, if_true]; exact hx
  · simp only [upd, if_neg e]; exact h j hj
theorem okV_push {f : Nat → Int32} {n lo hi : Nat} {x : Int32} (h : okV f n lo hi) (hx : x = nI (tn x) ∧ lo ≤ tn x ∧ tn x ≤ hi) : okV (upd f n x) (n + 1) lo hi := by
  intro j hj
  by_cases e : j = n
  · subst e; simp only [upd, if_true]; exact hx
  · simp only [upd, if_neg e]; exact h j (by omega)
theorem fillL_s {u : Nat → Int64} {i : Nat} {v : Int64} (h : ∀ k, k < i → u k = v) : ∀ k, k < i + 1 → vp_updL u i v k = v := by
  intro k hk
  unfold vp_updL
  by_cases e : k = i
  · rw [if_pos e]
  · rw [if_neg e]; exact h k (by omega)
theorem fillI_s {u w : Nat → Int32} {i : Nat} (h : ∀ k, k < i → u k = w k) : ∀ k, k < i + 1 → upd u i (w i) k = w k := by
  intro k hk
  unfold upd
  by_cases e : k = i
  · rw [if_pos e, e]
  · rw [if_neg e]; exact h k (by omega)
def vsm (va tx le : Nat → Int32) (n c v : Nat) : Int32 := smv va n c tx (v * 8) (tn (le v))
/-- the bytes of a typed number behind the first L -/
def apb (f : Nat → Int32) (L : Nat) (v : Int64) (n : Nat) : Nat → Nat → Int32
  | 0 => f
  | i + 1 => upd (apb f L v n i) (L + i) (nI (byt v (n - i - 1)))
theorem inc_m1 {a b : Nat} (h : a = b) : nI a + Int32.ofInt (-1) = nI b - nI 1 := by
  subst h
  rw [Int32.sub_eq_add_neg]
  rfl
theorem sub1_toInt {a : Nat} (h : a < 2 ^ 30) : (nI a - nI 1).toInt = (a : Int) - 1 := by rw [pk_sub_toInt h (by decide)]; rfl
/-- how many parts begin among the first k bytes; where part i begins and ends -/
def pn (t : Nat → Int32) : Nat → Nat
  | 0 => 0
  | k + 1 => if (t k).toInt ≠ 32 ∧ (ahd t 0 k).toInt = 32 then pn t k + 1 else pn t k
def psx (t : Nat → Int32) : Nat → Nat → Nat
  | 0, _ => 0
  | k + 1, i => if ((t k).toInt ≠ 32 ∧ (ahd t 0 k).toInt = 32) ∧ i = pn t k then k else psx t k i
def pex (t : Nat → Int32) : Nat → Nat → Nat
  | 0, _ => 0
  | k + 1, i => if (t k).toInt ≠ 32 ∧ i + 1 = pn t (k + 1) then k + 1 else pex t k i
theorem nI32 : (nI 32).toInt = 32 := by decide
theorem pn_room (t : Nat → Int32) : ∀ k, 2 * pn t k ≤ k + 1 ∧ ((ahd t 0 k).toInt = 32 → 2 * pn t k ≤ k) ∧ ((ahd t 0 k).toInt ≠ 32 → 1 ≤ pn t k)
  | 0 => ⟨by simp [pn], fun _ => by simp [pn], fun h => absurd nI32 h⟩
  | k + 1 => by
    obtain ⟨h1, h2, h3⟩ := pn_room t k
    have e : ahd t 0 (k + 1) = t k := by show t (0 + k) = t k; rw [Nat.zero_add]
    rw [e]
    unfold pn
    by_cases c : (t k).toInt ≠ 32 ∧ (ahd t 0 k).toInt = 32
    · rw [if_pos c]
      have := h2 c.2
      exact ⟨by omega, fun q => absurd q c.1, fun _ => by omega⟩
    · rw [if_neg c]
      refine ⟨by omega, fun _ => by omega, fun q => h3 (fun z => c ⟨q, z⟩)⟩
theorem pn_new {t : Nat → Int32} {k : Nat} (h1 : ¬ (t k).toInt = ((32 : Nat) : Int)) (h2 : (ahd t 0 k).toInt = ((32 : Nat) : Int)) : pn t (k + 1) = pn t k + 1 := by
  show (if _ then _ else _) = _
  rw [if_pos ⟨by omega, by omega⟩]
theorem pn_old {t : Nat → Int32} {k : Nat} (h : (t k).toInt = ((32 : Nat) : Int) ∨ ¬ (ahd t 0 k).toInt = ((32 : Nat) : Int)) : pn t (k + 1) = pn t k := by
  show (if _ then _ else _) = _
  rw [if_neg (by omega)]
/-- what the rows of a draft's parts hold behind k bytes -/
abbrev prow (t : Nat → Int32) (k : Nat) (st en : Nat → Int32) : Prop := ∀ i, i < pn t k → st i = nI (psx t k i) ∧ en i = nI (pex t k i)
theorem prow_sp {t : Nat → Int32} {k : Nat} {st en : Nat → Int32} (h : prow t k st en) (c : (t k).toInt = ((32 : Nat) : Int)) : prow t (k + 1) st en := by
  intro i hi
  rw [pn_old (Or.inl c)] at hi
  obtain ⟨h1, h2⟩ := h i hi
  unfold psx pex
  rw [if_neg (by omega), if_neg (by omega)]
  exact ⟨h1, h2⟩
theorem prow_in {t : Nat → Int32} {k : Nat} {st en : Nat → Int32} (h : prow t k st en) (c : ¬ (t k).toInt = ((32 : Nat) : Int)) (c2 : ¬ (ahd t 0 k).toInt = ((32 : Nat) : Int)) : prow t (k + 1) st (upd en (pn t k - 1) (nI (k + 1))) := by
  have hp := (pn_room t k).2.2 (by omega)
  have e := pn_old (t := t) (k := k) (Or.inr c2)
  intro i hi
  rw [e] at hi
  obtain ⟨h1, h2⟩ := h i hi
  unfold psx pex
  rw [if_neg (by omega), e]
  refine ⟨h1, ?_⟩
  unfold upd
  by_cases q : i = pn t k - 1
  · rw [if_pos q, if_pos (by omega)]
  · rw [if_neg q, if_neg (by omega)]; exact h2
theorem prow_new {t : Nat → Int32} {k : Nat} {st en : Nat → Int32} (h : prow t k st en) (c : ¬ (t k).toInt = ((32 : Nat) : Int)) (c2 : (ahd t 0 k).toInt = ((32 : Nat) : Int)) : prow t (k + 1) (upd st (pn t k) (nI k)) (upd en (pn t k) (nI (k + 1))) := by
  have e := pn_new c c2
  intro i hi
  rw [e] at hi
  unfold psx pex upd
  rw [e]
  by_cases q : i = pn t k
  · rw [if_pos q, if_pos q, if_pos ⟨⟨by omega, by omega⟩, q⟩, if_pos ⟨by omega, by omega⟩]
    exact ⟨rfl, rfl⟩
  · obtain ⟨h1, h2⟩ := h i (by omega)
    rw [if_neg q, if_neg q, if_neg (by omega), if_neg (by omega)]
    exact ⟨h1, h2⟩
/-- a part lies in the text -/
theorem pse (t : Nat → Int32) : ∀ k i, i < pn t k → psx t k i ≤ pex t k i ∧ pex t k i ≤ k
  | 0, i, h => absurd h (Nat.not_lt_zero i)
  | k + 1, i, h => by
    by_cases c : (t k).toInt ≠ 32
    · by_cases c2 : (ahd t 0 k).toInt = 32
      · have e := pn_new (t := t) (k := k) (by omega) (by omega)
        rw [e] at h
        unfold psx pex
        rw [e]
        by_cases q : i = pn t k
        · rw [if_pos ⟨⟨c, c2⟩, q⟩, if_pos ⟨c, by omega⟩]; omega
        · have := pse t k i (by omega)
          rw [if_neg (by omega), if_neg (by omega)]; omega
      · have e := pn_old (t := t) (k := k) (Or.inr (by omega))
        rw [e] at h
        have := pse t k i h
        unfold psx pex
        rw [if_neg (by omega), e]
        by_cases q : i + 1 = pn t k
        · rw [if_pos ⟨c, q⟩]; omega
        · rw [if_neg (by omega)]; omega
    · have e := pn_old (t := t) (k := k) (Or.inl (by omega))
      rw [e] at h
      have := pse t k i h
      unfold psx pex
      rw [if_neg (by omega), if_neg (by omega)]; omega
end
section
/-! ===== the answers of the small calls ===== -/
abbrev fitP (t tx le : Nat → Int32) (L i v : Nat) : Prop := tn (le v) = pex t L i - psx t L i ∧ ∀ k, k < pex t L i - psx t L i → ((t (psx t L i + k)).toInt = 63 ∨ (t (psx t L i + k)).toInt = (tx (v * 8 + k)).toInt)
/-- how many of the first vocables fit a part -/
def fitc (t tx le : Nat → Int32) (L i : Nat) : Nat → Nat
  | 0 => 0
  | k + 1 => fitc t tx le L i k + (if fitP t tx le L i k then 1 else 0)
theorem fitc_y {t tx le : Nat → Int32} {L i k : Nat} (h : fitP t tx le L i k) : fitc t tx le L i k + 1 = fitc t tx le L i (k + 1) := by
  show _ = fitc t tx le L i k + (if fitP t tx le L i k then 1 else 0)
  rw [if_pos h]
theorem fitc_n {t tx le : Nat → Int32} {L i k : Nat} (h : ¬ fitP t tx le L i k) : fitc t tx le L i k = fitc t tx le L i (k + 1) := by
  show _ = fitc t tx le L i k + (if fitP t tx le L i k then 1 else 0)
  rw [if_neg h]; rfl
theorem fitc_le (t tx le : Nat → Int32) (L i : Nat) : ∀ k, fitc t tx le L i k ≤ k
  | 0 => Nat.le_refl 0
  | k + 1 => by have := fitc_le t tx le L i k; show fitc t tx le L i k + (if fitP t tx le L i k then 1 else 0) ≤ _; split <;> omega
/-- the sum of what stands behind the places from which a vocable may come -/
def wto (nx so : Nat → Int32) (w : Nat → Nat) (v : Nat) : Nat → Nat
  | 0 => 0
  | k + 1 => wto nx so w v k + (if mcy nx so k v then w k else 0)
theorem wto_y {nx so : Nat → Int32} {w : Nat → Nat} {v k : Nat} (h : mcy nx so k v) : wto nx so w v k + w k = wto nx so w v (k + 1) := by
  show _ = wto nx so w v k + (if mcy nx so k v then w k else 0)
  rw [if_pos h]
theorem wto_n {nx so : Nat → Int32} {w : Nat → Nat} {v k : Nat} (h : ¬ mcy nx so k v) : wto nx so w v k = wto nx so w v (k + 1) := by
  show _ = wto nx so w v k + (if mcy nx so k v then w k else 0)
  rw [if_neg h]; rfl
/-- one step of many: with f feet left behind s, over the first vocables -/
def stq (fe so nx : Nat → Int32) (w : Nat → Nat → Nat) (f s : Nat) : Nat → Nat
  | 0 => 0
  | v + 1 => stq fe so nx w f s v + (if tn (fe v) ≤ f ∧ mcy nx so s v then w (f - tn (fe v)) (tn (so v)) else 0)
theorem stq_y {fe so nx : Nat → Int32} {w : Nat → Nat → Nat} {f s v : Nat} (h : tn (fe v) ≤ f) (h2 : mcy nx so s v) : stq fe so nx w f s v + w (f - tn (fe v)) (tn (so v)) = stq fe so nx w f s (v + 1) := by
  show _ = stq fe so nx w f s v + (if tn (fe v) ≤ f ∧ mcy nx so s v then w (f - tn (fe v)) (tn (so v)) else 0)
  rw [if_pos ⟨h, h2⟩]
theorem stq_n {fe so nx : Nat → Int32} {w : Nat → Nat → Nat} {f s v : Nat} (h : ¬ (tn (fe v) ≤ f ∧ mcy nx so s v)) : stq fe so nx w f s v = stq fe so nx w f s (v + 1) := by
  show _ = stq fe so nx w f s v + (if tn (fe v) ≤ f ∧ mcy nx so s v then w (f - tn (fe v)) (tn (so v)) else 0)
  rw [if_neg h]; rfl
/-- many: by fuel -/
def mwf (fe so nx : Nat → Int32) (nv : Nat) : Nat → Nat → Nat → Nat
  | 0, _, _ => 1
  | k + 1, f, s => if f = 0 then 1 else stq fe so nx (mwf fe so nx nv k) f s nv
def mwy (fe so nx : Nat → Int32) (nv f s : Nat) : Nat := mwf fe so nx nv f f s
theorem stq_cong {fe so nx : Nat → Int32} {w w2 : Nat → Nat → Nat} {f s : Nat} : ∀ {n : Nat}, (∀ v, v < n → tn (fe v) ≤ f → w (f - tn (fe v)) (tn (so v)) = w2 (f - tn (fe v)) (tn (so v))) → stq fe so nx w f s n = stq fe so nx w2 f s n
  | 0, _ => rfl
  | n + 1, h => by
    unfold stq
    rw [stq_cong (fun v hv => h v (by omega))]
    by_cases c : tn (fe n) ≤ f ∧ mcy nx so s n
    · rw [if_pos c, if_pos c, h n (by omega) c.1]
    · rw [if_neg c, if_neg c]
theorem mwf_st {fe so nx : Nat → Int32} {nv : Nat} (hf : okV fe nv 1 3) : ∀ k k2 f s, f ≤ k → f ≤ k2 → mwf fe so nx nv k f s = mwf fe so nx nv k2 f s
  | 0, 0, _, _, _, _ => rfl
  | 0, k2 + 1, f, s, h, _ => by
    have : f = 0 := by omega
    subst this
    unfold mwf; rw [if_pos rfl]
  | k + 1, 0, f, s, _, h => by
    have : f = 0 := by omega
    subst this
    unfold mwf; rw [if_pos rfl]
  | k + 1, k2 + 1, f, s, h, h2 => by
    unfold mwf
    by_cases c : f = 0
    · rw [if_pos c, if_pos c]
    · rw [if_neg c, if_neg c]
      exact stq_cong fun v hv hle => mwf_st hf k k2 _ _ (by have := (hf v hv).2.1; omega) (by have := (hf v hv).2.1; omega)
theorem mwy_0 (fe so nx : Nat → Int32) (nv s : Nat) : mwy fe so nx nv 0 s = 1 := rfl
theorem mwy_s {fe so nx : Nat → Int32} {nv f s : Nat} (hf : okV fe nv 1 3) (h : 1 ≤ f) : stq fe so nx (mwy fe so nx nv) f s nv = mwy fe so nx nv f s := by
  obtain ⟨k, rfl⟩ : ∃ k, f = k + 1 := ⟨f - 1, by omega⟩
  show _ = mwf fe so nx nv (k + 1) (k + 1) s
  unfold mwf
  rw [if_neg (by omega)]
  exact stq_cong fun v hv hle => mwf_st hf _ k _ _ (Nat.le_refl _) (by have := (hf v hv).2.1; omega)
abbrev way (n c : Int32) : Prop := (0 ≤ n.toInt ∧ n.toInt < 3) ∧ (0 ≤ c.toInt ∧ c.toInt < 4)
abbrev isVal (v : Int32) : Prop := v.toInt = 0 ∨ v.toInt = 1 ∨ v.toInt = 5 ∨ v.toInt = 10 ∨ v.toInt = 50 ∨ v.toInt = 100 ∨ v.toInt = 500 ∨ v.toInt = 1000
abbrev okT (v : Int64) (k : Int32) : Prop := (1 ≤ k.toInt ∧ k.toInt ≤ 8) ∧ ∀ j, j < tn k → okb (byt v j)
def aSum (va t : Nat → Int32) (L : Nat) (n c : Int32) : Int32 := if way n c then smv va (tn n) (tn c) t 0 L else (-1 : Int32)
def aAbout (le fe so tx : Nat → Int32) (nv : Nat) (v w : Int32) : Int32 := if 0 ≤ v.toInt ∧ v.toInt < (nv : Int) then (if w.toInt = 0 then le (tn v) else if w.toInt = 1 then fe (tn v) else if w.toInt = 2 then so (tn v) else if w.toInt = 3 then tx (tn v * 8) else (-1 : Int32)) else (-1 : Int32)
def aCount (t : Nat → Int32) (nv L : Nat) (w : Int32) : Int32 := if w.toInt = 0 then nI nv else if w.toInt = 1 then nI L else if w.toInt = 2 then nI (pn t L) else if w.toInt = 3 then nI (brk t L) else (-1 : Int32)
def aFit (t tx le : Nat → Int32) (L nv : Nat) (i : Int32) : Int32 := if 0 ≤ i.toInt ∧ i.toInt < (pn t L : Int) then nI (fitc t tx le L (tn i) nv) else (-1 : Int32)
/-- the set of customs and countings that bear a year out: after custom c, counting k of it -/
def bn1 (va t : Nat → Int32) (L : Nat) (y : Int32) (c : Nat) (b : Int32) : Nat → Int32
  | 0 => b
  | k + 1 => if (smv va k c t 0 L).toInt = y.toInt then bn1 va t L y c b k ||| (nI 1 <<< (nI (3 * c + k) &&& 31)) else bn1 va t L y c b k
def bnc (va t : Nat → Int32) (L : Nat) (y : Int32) : Nat → Int32
  | 0 => nI 0
  | c + 1 => bn1 va t L y c (bnc va t L y c) 3
def aBorne (va t : Nat → Int32) (L : Nat) (y : Int32) : Int32 := if 0 ≤ y.toInt ∧ y.toInt ≤ 60000 then bnc va t L y 4 else (-1 : Int32)
/-! ===== static tables ===== -/
def tabV : Nat → Value := fun k => .int (nI (([0, 1, 5, 10, 50, 100, 500, 1000] : List Nat).getD k 0))
def tabA : Nat → Value := fun k => .int (nI (([1, 11, 111] : List Nat).getD k 0))
def stS (n : String) (N : Nat) (f : Nat → Value) (U : State) : Prop := ∃ t : Nat, va_Z "VerseYears" n "[I" (.ref t) (fun _ => False) U U.heap ∧ va_T .int t N f (fun _ => False) U U.heap
theorem stS_bl {n : String} {N : Nat} {f : Nat → Value} (U : State) (j : JFrame) (mk : MethodId) (a : Array Value) (h : stS n N f U) : stS n N f (U.calling j mk a) := by
  obtain ⟨t, h1, h2⟩ := h
  exact ⟨t, va_Z.moved (u := U) (U := U.calling j mk a) (Vm.Alike.refl U.vm) h1, va_T.moved (u := U) (U := U.calling j mk a) (Vm.Alike.refl U.vm) h2⟩
theorem stS_of {n : String} {N : Nat} {f : Nat → Value} {s U : State} (h : stS n N f s) (hU : U.heap = s.heap) (hW : s.WarmedH U.vm) : stS n N f U := by
  obtain ⟨t, h1, h2⟩ := h
  exact ⟨t, by rw [hU]; exact va_Z.moved hW.alike h1, by rw [hU]; exact va_T.moved hW.alike h2⟩
end
section
set_option maxHeartbeats 200000 in
set_option maxRecDepth 100000 in
theorem c_X5_isWithin (l : Launch) (number : Int32) (bound : Nat) (hb9 : bound < 2 ^ 31) : Met l yX5_isWithin wsX5_isWithin ({ frames := 0, cells := 0, slots := 0, locals := 0 }) (va_Pc ([.int (number), .int (nI (bound))]) (fun _ => True)) (ro_Q (.int (if 0 ≤ number.toInt ∧ number.toInt < ((bound : Nat) : Int) then 1 else 0))) 0 0 (fun _ => False) := by
  refine Met.ofW (cc := cX5_isWithin) (maxL := 2) (ret := (some .boolean)) (by decide) rfl ?_
  intro p e s m args below meth c s₁ B hml hv
  obtain ⟨rfl, -⟩ := hv
  have hx := B.exec
  have hb := B.bytes
  have hr := B.returns
  have hts := atoms_spec (ws := wsX5_isWithin) B.pre
  have hown : s.vm.findClass RX5 = some m.cls := findClass_of_methodNamed B.named
  have hlocks := B.notSynchronized
  have hl := lv_entry ([.int (number), .int (nI (bound))]) (n := 2) (Nat.le_of_ble_eq_true rfl)
  rw [lg_entry_eq]
  generalize (lg_sl ([.int (number), .int (nI (bound))]) ++ List.replicate (2 - (lg_sl ([.int (number), .int (nI (bound))])).length) Slot.unset).toArray = ls at hl ⊢
  have hl : lv_has ls 2 [(0, .int (number)), (1, .int (nI (bound)))] := hl
  refine lv_iload_n hx hb dX5_isWithin_0 rfl (lv_at hl 0 rfl) ?_
  refine lv_if_lt (tgt := 13) hx hb dX5_isWithin_1 (by decide) (fun c_1 => ?_) (fun c_1 => ?_)
  · have c_1 := (cz_lt_i).mp c_1
    refine lv_iconst (v := (nI (0))) hx hb dX5_isWithin_13 (by decide) ?_
    exact ro_zret hx hb hr hlocks (rfl) (zero_if (by first | omega | assumption)) dX5_isWithin_14
  · have c_1 := (not_congr (cz_lt_i)).mp c_1
    refine lv_iload_n hx hb dX5_isWithin_4 rfl (lv_at hl 0 rfl) ?_
    refine lv_iload_n hx hb dX5_isWithin_5 rfl (lv_at hl 1 rfl) ?_
    refine lv_icmp_ge (tgt := 13) hx hb dX5_isWithin_6 (by decide) (fun c_6 => ?_) (fun c_6 => ?_)
    · have c_6 := (cv_le_ni (by omega)).mp c_6
      refine lv_iconst (v := (nI (0))) hx hb dX5_isWithin_13 (by decide) ?_
      exact ro_zret hx hb hr hlocks (rfl) (zero_if (by first | omega | assumption)) dX5_isWithin_14
    · have c_6 := (not_congr (cv_le_ni (by omega))).mp c_6
      refine lv_iconst (v := (nI (1))) hx hb dX5_isWithin_9 (by decide) ?_
      refine lv_goto (tgt := 14) hx hb dX5_isWithin_10 (by decide) ?_
      exact ro_zret hx hb hr hlocks (rfl) (one_if (by first | omega | assumption)) dX5_isWithin_14
set_option maxHeartbeats 200000 in
set_option maxRecDepth 100000 in
theorem c_X5_isCustomary (l : Launch) (counting : Int32) (custom : Int32)  : Met l yX5_isCustomary wsX5_isCustomary ({ frames := 1, cells := 0, slots := 0, locals := 21 }) (va_Pc ([.int (counting), .int (custom)]) (fun _ => True)) (ro_Q (.int (if (0 ≤ counting.toInt ∧ counting.toInt < 3) ∧ (0 ≤ custom.toInt ∧ custom.toInt < 4) then 1 else 0))) 0 0 (fun _ => False) := by
  refine Met.ofW (cc := cX5_isCustomary) (maxL := 2) (ret := (some .boolean)) (by decide) rfl ?_
  intro p e s m args below meth c s₁ B hml hv
  obtain ⟨rfl, -⟩ := hv
  have hx := B.exec
  have hb := B.bytes
  have hr := B.returns
  have hts := atoms_spec (ws := wsX5_isCustomary) B.pre
  have hown : s.vm.findClass RX5 = some m.cls := findClass_of_methodNamed B.named
  have hlocks := B.notSynchronized
  have hl := lv_entry ([.int (counting), .int (custom)]) (n := 2) (Nat.le_of_ble_eq_true rfl)
  rw [lg_entry_eq]
  generalize (lg_sl ([.int (counting), .int (custom)]) ++ List.replicate (2 - (lg_sl ([.int (counting), .int (custom)])).length) Slot.unset).toArray = ls at hl ⊢
  have hl : lv_has ls 2 [(0, .int (counting)), (1, .int (custom))] := hl
  refine lv_iload_n hx hb dX5_isCustomary_0 rfl (lv_at hl 0 rfl) ?_
  refine lv_iconst (v := (nI (3))) hx hb dX5_isCustomary_1 (by decide) ?_
  refine ro_call (va_runS (As := [.int (counting), .int (nI (3))]) (rest := []) ⟨hx, hb, hml, hown, hts⟩ (c_X5_isWithin l (counting) (3) (by decide)) (va_cwS 2 hts gX5_isCustomary_X5_isWithin rfl rfl rfl (by decide +kernel) ⟨Nat.le_of_ble_eq_true rfl, Nat.le_of_ble_eq_true rfl⟩) pre_0 rfl rfl hl.1 rfl (lv_room (Nat.le_of_ble_eq_true rfl)) dX5_isCustomary_2 ⟨Nat.zero_le _, Nat.zero_le _⟩) ?_
  refine lv_if_eq (tgt := 20) hx hb dX5_isCustomary_5 (by decide) (fun c_5 => ?_) (fun c_5 => ?_)
  · have c_5 := if_n c_5
    refine lv_iconst (v := (nI (0))) hx hb dX5_isCustomary_20 (by decide) ?_
    exact ro_zret hx hb hr hlocks (rfl) (zero_if (by first | omega | assumption)) dX5_isCustomary_21
  · have c_5 := if_p c_5
    refine lv_iload_n hx hb dX5_isCustomary_8 rfl (lv_at hl 1 rfl) ?_
    refine lv_iconst (v := (nI (4))) hx hb dX5_isCustomary_9 (by decide) ?_
    refine ro_call (va_runS (As := [.int (custom), .int (nI (4))]) (rest := []) ⟨hx, hb, hml, hown, hts⟩ (c_X5_isWithin l (custom) (4) (by decide)) (va_cwS 2 hts gX5_isCustomary_X5_isWithin rfl rfl rfl (by decide +kernel) ⟨Nat.le_of_ble_eq_true rfl, Nat.le_of_ble_eq_true rfl⟩) pre_0 rfl rfl hl.1 rfl (lv_room (Nat.le_of_ble_eq_true rfl)) dX5_isCustomary_10 ⟨Nat.zero_le _, Nat.zero_le _⟩) ?_
    refine lv_if_eq (tgt := 20) hx hb dX5_isCustomary_13 (by decide) (fun c_13 => ?_) (fun c_13 => ?_)
    · have c_13 := if_n c_13
      refine lv_iconst (v := (nI (0))) hx hb dX5_isCustomary_20 (by decide) ?_
      exact ro_zret hx hb hr hlocks (rfl) (zero_if (by first | omega | assumption)) dX5_isCustomary_21
    · have c_13 := if_p c_13
      refine lv_iconst (v := (nI (1))) hx hb dX5_isCustomary_16 (by decide) ?_
      refine lv_goto (tgt := 21) hx hb dX5_isCustomary_17 (by decide) ?_
      exact ro_zret hx hb hr hlocks (rfl) (one_if (by first | omega | assumption)) dX5_isCustomary_21
set_option maxHeartbeats 200000 in
set_option maxRecDepth 100000 in
theorem c_X5_isLineAsked (l : Launch) (feet : Int32) (y : Int32) (counting : Int32) (custom : Int32)  : Met l yX5_isLineAsked wsX5_isLineAsked ({ frames := 2, cells := 0, slots := 0, locals := 42 }) (va_Pc ([.int (feet), .int (y), .int (counting), .int (custom)]) (fun _ => True)) (ro_Q (.int (if (1 ≤ feet.toInt ∧ feet.toInt ≤ 8) ∧ (0 ≤ y.toInt ∧ y.toInt ≤ 3000) ∧ (0 ≤ counting.toInt ∧ counting.toInt < 3) ∧ (0 ≤ custom.toInt ∧ custom.toInt < 4) then 1 else 0))) 0 0 (fun _ => False) := by
  refine Met.ofW (cc := cX5_isLineAsked) (maxL := 4) (ret := (some .boolean)) (by decide) rfl ?_
  intro p e s m args below meth c s₁ B hml hv
  obtain ⟨rfl, -⟩ := hv
  have hx := B.exec
  have hb := B.bytes
  have hr := B.returns
  have hts := atoms_spec (ws := wsX5_isLineAsked) B.pre
  have hown : s.vm.findClass RX5 = some m.cls := findClass_of_methodNamed B.named
  have hlocks := B.notSynchronized
  have hl := lv_entry ([.int (feet), .int (y), .int (counting), .int (custom)]) (n := 4) (Nat.le_of_ble_eq_true rfl)
  rw [lg_entry_eq]
  generalize (lg_sl ([.int (feet), .int (y), .int (counting), .int (custom)]) ++ List.replicate (4 - (lg_sl ([.int (feet), .int (y), .int (counting), .int (custom)])).length) Slot.unset).toArray = ls at hl ⊢
  have hl : lv_has ls 4 [(0, .int (feet)), (1, .int (y)), (2, .int (counting)), (3, .int (custom))] := hl
  refine lv_iload_n hx hb dX5_isLineAsked_0 rfl (lv_at hl 0 rfl) ?_
  refine lv_iconst (v := (nI (1))) hx hb dX5_isLineAsked_1 (by decide) ?_
  refine lv_icmp_lt (tgt := 33) hx hb dX5_isLineAsked_2 (by decide) (fun c_2 => ?_) (fun c_2 => ?_)
  · have c_2 := (cv_lt_in (by omega)).mp c_2
    refine lv_iconst (v := (nI (0))) hx hb dX5_isLineAsked_33 (by decide) ?_
    exact ro_zret hx hb hr hlocks (rfl) (zero_if (by first | omega | assumption)) dX5_isLineAsked_34
  · have c_2 := (not_congr (cv_lt_in (by omega))).mp c_2
    refine lv_iload_n hx hb dX5_isLineAsked_5 rfl (lv_at hl 0 rfl) ?_
    refine lv_bipush (v := (nI (8))) hx hb dX5_isLineAsked_6 (by decide) ?_
    refine lv_icmp_gt (tgt := 33) hx hb dX5_isLineAsked_8 (by decide) (fun c_8 => ?_) (fun c_8 => ?_)
    · have c_8 := (cv_lt_ni (by omega)).mp c_8
      refine lv_iconst (v := (nI (0))) hx hb dX5_isLineAsked_33 (by decide) ?_
      exact ro_zret hx hb hr hlocks (rfl) (zero_if (by first | omega | assumption)) dX5_isLineAsked_34
    · have c_8 := (not_congr (cv_lt_ni (by omega))).mp c_8
      refine lv_iload_n hx hb dX5_isLineAsked_11 rfl (lv_at hl 1 rfl) ?_
      refine lv_sipush (v := (nI (3001))) hx hb dX5_isLineAsked_12 (by decide) ?_
      refine ro_call (va_runS (As := [.int (y), .int (nI (3001))]) (rest := []) ⟨hx, hb, hml, hown, hts⟩ (c_X5_isWithin l (y) (3001) (by decide)) (va_cwS 2 hts gX5_isLineAsked_X5_isWithin rfl rfl rfl (by decide +kernel) ⟨Nat.le_of_ble_eq_true rfl, Nat.le_of_ble_eq_true rfl⟩) pre_0 rfl rfl hl.1 rfl (lv_room (Nat.le_of_ble_eq_true rfl)) dX5_isLineAsked_15 ⟨Nat.zero_le _, Nat.zero_le _⟩) ?_
      refine lv_if_eq (tgt := 33) hx hb dX5_isLineAsked_18 (by decide) (fun c_18 => ?_) (fun c_18 => ?_)
      · have c_18 := if_n c_18
        refine lv_iconst (v := (nI (0))) hx hb dX5_isLineAsked_33 (by decide) ?_
        exact ro_zret hx hb hr hlocks (rfl) (zero_if (by first | omega | assumption)) dX5_isLineAsked_34
      · have c_18 := if_p c_18
        refine lv_iload_n hx hb dX5_isLineAsked_21 rfl (lv_at hl 2 rfl) ?_
        refine lv_iload_n hx hb dX5_isLineAsked_22 rfl (lv_at hl 3 rfl) ?_
        refine ro_call (va_runS (As := [.int (counting), .int (custom)]) (rest := []) ⟨hx, hb, hml, hown, hts⟩ (c_X5_isCustomary l (counting) (custom)) (va_cwS 2 hts gX5_isLineAsked_X5_isCustomary rfl rfl rfl (by decide +kernel) ⟨Nat.le_of_ble_eq_true rfl, Nat.le_of_ble_eq_true rfl⟩) pre_0 rfl rfl hl.1 rfl (lv_room (Nat.le_of_ble_eq_true rfl)) dX5_isLineAsked_23 ⟨Nat.zero_le _, Nat.zero_le _⟩) ?_
        refine lv_if_eq (tgt := 33) hx hb dX5_isLineAsked_26 (by decide) (fun c_26 => ?_) (fun c_26 => ?_)
        · have c_26 := if_n c_26
          refine lv_iconst (v := (nI (0))) hx hb dX5_isLineAsked_33 (by decide) ?_
          exact ro_zret hx hb hr hlocks (rfl) (zero_if (by first | omega | assumption)) dX5_isLineAsked_34
        · have c_26 := if_p c_26
          refine lv_iconst (v := (nI (1))) hx hb dX5_isLineAsked_29 (by decide) ?_
          refine lv_goto (tgt := 34) hx hb dX5_isLineAsked_30 (by decide) ?_
          exact ro_zret hx hb hr hlocks (rfl) (one_if (by first | omega | assumption)) dX5_isLineAsked_34
set_option maxHeartbeats 200000 in
set_option maxRecDepth 100000 in
theorem c_X5_isCapital (l : Launch) (b : Int32)  : Met l yX5_isCapital wsX5_isCapital ({ frames := 0, cells := 0, slots := 0, locals := 0 }) (va_Pc ([.int (b)]) (fun _ => True)) (ro_Q (.int (if cap b then 1 else 0))) 0 0 (fun _ => False) := by
  refine Met.ofW (cc := cX5_isCapital) (maxL := 1) (ret := (some .boolean)) (by decide) rfl ?_
  intro p e s m args below meth c s₁ B hml hv
  obtain ⟨rfl, -⟩ := hv
  have hx := B.exec
  have hb := B.bytes
  have hr := B.returns
  have hts := atoms_spec (ws := wsX5_isCapital) B.pre
  have hown : s.vm.findClass RX5 = some m.cls := findClass_of_methodNamed B.named
  have hlocks := B.notSynchronized
  have hl := lv_entry ([.int (b)]) (n := 1) (Nat.le_of_ble_eq_true rfl)
  rw [lg_entry_eq]
  generalize (lg_sl ([.int (b)]) ++ List.replicate (1 - (lg_sl ([.int (b)])).length) Slot.unset).toArray = ls at hl ⊢
  have hl : lv_has ls 1 [(0, .int (b))] := hl
  refine lv_iload_n hx hb dX5_isCapital_0 rfl (lv_at hl 0 rfl) ?_
  refine lv_bipush (v := (nI (65))) hx hb dX5_isCapital_1 (by decide) ?_
  refine lv_icmp_lt (tgt := 16) hx hb dX5_isCapital_3 (by decide) (fun c_3 => ?_) (fun c_3 => ?_)
  · have c_3 := (cv_lt_in (by omega)).mp c_3
    refine lv_iconst (v := (nI (0))) hx hb dX5_isCapital_16 (by decide) ?_
    exact ro_zret hx hb hr hlocks (rfl) (zero_if (by first | omega | assumption)) dX5_isCapital_17
  · have c_3 := (not_congr (cv_lt_in (by omega))).mp c_3
    refine lv_iload_n hx hb dX5_isCapital_6 rfl (lv_at hl 0 rfl) ?_
    refine lv_bipush (v := (nI (90))) hx hb dX5_isCapital_7 (by decide) ?_
    refine lv_icmp_gt (tgt := 16) hx hb dX5_isCapital_9 (by decide) (fun c_9 => ?_) (fun c_9 => ?_)
    · have c_9 := (cv_lt_ni (by omega)).mp c_9
      refine lv_iconst (v := (nI (0))) hx hb dX5_isCapital_16 (by decide) ?_
      exact ro_zret hx hb hr hlocks (rfl) (zero_if (by first | omega | assumption)) dX5_isCapital_17
    · have c_9 := (not_congr (cv_lt_ni (by omega))).mp c_9
      refine lv_iconst (v := (nI (1))) hx hb dX5_isCapital_12 (by decide) ?_
      refine lv_goto (tgt := 17) hx hb dX5_isCapital_13 (by decide) ?_
      exact ro_zret hx hb hr hlocks (rfl) (one_if (by first | omega | assumption)) dX5_isCapital_17
set_option maxHeartbeats 200000 in
set_option maxRecDepth 100000 in
theorem c_X5_isLetter (l : Launch) (b : Int32)  : Met l yX5_isLetter wsX5_isLetter ({ frames := 1, cells := 0, slots := 0, locals := 20 }) (va_Pc ([.int (b)]) (fun _ => True)) (ro_Q (.int (if letr b then 1 else 0))) 0 0 (fun _ => False) := by
  refine Met.ofW (cc := cX5_isLetter) (maxL := 1) (ret := (some .boolean)) (by decide) rfl ?_
  intro p e s m args below meth c s₁ B hml hv
  obtain ⟨rfl, -⟩ := hv
  have hx := B.exec
  have hb := B.bytes
  have hr := B.returns
  have hts := atoms_spec (ws := wsX5_isLetter) B.pre
  have hown : s.vm.findClass RX5 = some m.cls := findClass_of_methodNamed B.named
  have hlocks := B.notSynchronized
  have hl := lv_entry ([.int (b)]) (n := 1) (Nat.le_of_ble_eq_true rfl)
  rw [lg_entry_eq]
  generalize (lg_sl ([.int (b)]) ++ List.replicate (1 - (lg_sl ([.int (b)])).length) Slot.unset).toArray = ls at hl ⊢
  have hl : lv_has ls 1 [(0, .int (b))] := hl
  refine lv_iload_n hx hb dX5_isLetter_0 rfl (lv_at hl 0 rfl) ?_
  refine ro_call (va_runS (As := [.int (b)]) (rest := []) ⟨hx, hb, hml, hown, hts⟩ (c_X5_isCapital l (b)) (va_cwS 1 hts gX5_isLetter_X5_isCapital rfl rfl rfl (by decide +kernel) ⟨Nat.le_of_ble_eq_true rfl, Nat.le_of_ble_eq_true rfl⟩) pre_0 rfl rfl hl.1 rfl (lv_room (Nat.le_of_ble_eq_true rfl)) dX5_isLetter_1 ⟨Nat.zero_le _, Nat.zero_le _⟩) ?_
  refine lv_if_ne (tgt := 19) hx hb dX5_isLetter_4 (by decide) (fun c_4 => ?_) (fun c_4 => ?_)
  · have c_4 := if_p c_4
    refine lv_iconst (v := (nI (1))) hx hb dX5_isLetter_19 (by decide) ?_
    refine lv_goto (tgt := 24) hx hb dX5_isLetter_20 (by decide) ?_
    exact ro_zret hx hb hr hlocks (rfl) (one_if (by first | omega | assumption)) dX5_isLetter_24
  · have c_4 := if_n c_4
    refine lv_iload_n hx hb dX5_isLetter_7 rfl (lv_at hl 0 rfl) ?_
    refine lv_bipush (v := (nI (97))) hx hb dX5_isLetter_8 (by decide) ?_
    refine lv_icmp_lt (tgt := 23) hx hb dX5_isLetter_10 (by decide) (fun c_10 => ?_) (fun c_10 => ?_)
    · have c_10 := (cv_lt_in (by omega)).mp c_10
      refine lv_iconst (v := (nI (0))) hx hb dX5_isLetter_23 (by decide) ?_
      exact ro_zret hx hb hr hlocks (rfl) (zero_if (by first | omega | assumption)) dX5_isLetter_24
    · have c_10 := (not_congr (cv_lt_in (by omega))).mp c_10
      refine lv_iload_n hx hb dX5_isLetter_13 rfl (lv_at hl 0 rfl) ?_
      refine lv_bipush (v := (nI (122))) hx hb dX5_isLetter_14 (by decide) ?_
      refine lv_icmp_gt (tgt := 23) hx hb dX5_isLetter_16 (by decide) (fun c_16 => ?_) (fun c_16 => ?_)
      · have c_16 := (cv_lt_ni (by omega)).mp c_16
        refine lv_iconst (v := (nI (0))) hx hb dX5_isLetter_23 (by decide) ?_
        exact ro_zret hx hb hr hlocks (rfl) (zero_if (by first | omega | assumption)) dX5_isLetter_24
      · have c_16 := (not_congr (cv_lt_ni (by omega))).mp c_16
        refine lv_iconst (v := (nI (1))) hx hb dX5_isLetter_19 (by decide) ?_
        refine lv_goto (tgt := 24) hx hb dX5_isLetter_20 (by decide) ?_
        exact ro_zret hx hb hr hlocks (rfl) (one_if (by first | omega | assumption)) dX5_isLetter_24
set_option maxHeartbeats 200000 in
set_option maxRecDepth 100000 in
theorem c_X5_byteOf (l : Launch) (v : Int64) (k : Nat) (hk : k < 8) : Met l yX5_byteOf wsX5_byteOf ({ frames := 0, cells := 0, slots := 0, locals := 0 }) (va_Pc ([.long (v), .int (nI (k))]) (fun _ => True)) (ro_Q (.int (nI (byt v k)))) 0 0 (fun _ => False) := by
  refine Met.ofW (cc := cX5_byteOf) (maxL := 3) (ret := (some .int)) (by decide) rfl ?_
  intro p e s m args below meth c s₁ B hml hv
  obtain ⟨rfl, -⟩ := hv
  have hx := B.exec
  have hb := B.bytes
  have hr := B.returns
  have hts := atoms_spec (ws := wsX5_byteOf) B.pre
  have hown : s.vm.findClass RX5 = some m.cls := findClass_of_methodNamed B.named
  have hlocks := B.notSynchronized
  have hl := lv_entry ([.long (v), .int (nI (k))]) (n := 3) (Nat.le_of_ble_eq_true rfl)
  rw [lg_entry_eq]
  generalize (lg_sl ([.long (v), .int (nI (k))]) ++ List.replicate (3 - (lg_sl ([.long (v), .int (nI (k))])).length) Slot.unset).toArray = ls at hl ⊢
  have hl : lv_has ls 3 [(0, .long (v)), (2, .int (nI (k)))] := hl
  refine lv_lload_n hx hb dX5_byteOf_0 rfl (lv_at hl 0 rfl) ?_
  refine lv_bipush (v := (nI (8))) hx hb dX5_byteOf_1 (by decide) ?_
  refine lv_iload_n hx hb dX5_byteOf_3 rfl (lv_at hl 1 rfl) ?_
  refine ln_imul hx hb dX5_byteOf_4 ?_
  refine lv_lushr hx hb dX5_byteOf_5 rfl ?_
  refine lv_l2i hx hb dX5_byteOf_6 rfl ?_
  refine lv_sipush (v := (nI (255))) hx hb dX5_byteOf_7 (by decide) ?_
  refine lv_iand hx hb dX5_byteOf_10 ?_
  refine ln_toi (y := (nI (byt v k))) (byt_x v hk) ?_
  exact ro_iret hx hb hr hlocks (rfl) dX5_byteOf_11
set_option maxHeartbeats 200000 in
set_option maxRecDepth 100000 in
theorem c_X5_mayAllStand (l : Launch) (v : Int64) (k0 : Nat) (hk : k0 ≤ 8) : Met l yX5_mayAllStand wsX5_mayAllStand ({ frames := 2, cells := 0, slots := 0, locals := 40 }) (va_Pc ([.long (v), .int (nI (k0))]) (fun _ => True)) (ro_Q (.int (if (∀ k, k < k0 → okb (byt v k)) then 1 else 0))) 0 0 (fun _ => False) := by
  refine Met.ofW (cc := cX5_mayAllStand) (maxL := 5) (ret := (some .boolean)) (by decide) rfl ?_
  intro p e s m args below meth c s₁ B hml hv
  obtain ⟨rfl, -⟩ := hv
  have hx := B.exec
  have hb := B.bytes
  have hr := B.returns
  have hts := atoms_spec (ws := wsX5_mayAllStand) B.pre
  have hown : s.vm.findClass RX5 = some m.cls := findClass_of_methodNamed B.named
  have hlocks := B.notSynchronized
  have hl := lv_entry ([.long (v), .int (nI (k0))]) (n := 5) (Nat.le_of_ble_eq_true rfl)
  rw [lg_entry_eq]
  generalize (lg_sl ([.long (v), .int (nI (k0))]) ++ List.replicate (5 - (lg_sl ([.long (v), .int (nI (k0))])).length) Slot.unset).toArray = ls at hl ⊢
  have hl : lv_has ls 5 [(0, .long (v)), (2, .int (nI (k0)))] := hl
  refine lv_iconst (v := (nI (0))) hx hb dX5_mayAllStand_0 (by decide) ?_
  refine lv_istore_n (lv' := [(3, .int (nI (0))), (0, .long (v)), (2, .int (nI (k0)))]) hx hb dX5_mayAllStand_1 rfl hl (by decide) rfl (fun ls hl => ?_)
  have lp_2 : ∀ (n : Nat) (i : Nat), (i ≤ k0) → (∀ j, j < i → okb (byt v j)) → k0 - i < n → ∀ (ls : Array Slot), lv_has ls 5 [(0, .long (v)), (2, .int (nI (k0))), (3, .int (nI (i)))] → W p l e (headSpec wsX5_mayAllStand ({ frames := 2, cells := 0, slots := 0, locals := 40 })).room s m (([.long (v), .int (nI (k0))] : List Value).toArray) below meth c s.heap [] 0 0 (MQ below (ro_Q (.int (if (∀ k, k < k0 → okb (byt v k)) then 1 else 0))) (([.long (v), .int (nI (k0))] : List Value).toArray) s 0 0 (fun _ => False)) (F0 m 2 ls []) := by
    intro n
    induction n with
    | zero => intro i hi ho hm; exact absurd hm (Nat.not_lt_zero _)
    | succ n ih_2 =>
      intro i hi ho hm_2 ls hl
      refine lv_iload_n hx hb dX5_mayAllStand_2 rfl (lv_at hl 2 rfl) ?_
      refine lv_iload_n hx hb dX5_mayAllStand_3 rfl (lv_at hl 1 rfl) ?_
      refine lv_icmp_ge (tgt := 44) hx hb dX5_mayAllStand_4 (by decide) (fun c_4 => ?_) (fun c_4 => ?_)
      · have c_4 := (cv_le_nn (by omega) (by omega)).mp c_4
        refine lv_iconst (v := (nI (1))) hx hb dX5_mayAllStand_44 (by decide) ?_
        exact ro_zret hx hb hr hlocks (rfl) (one_if (fun k hk => ho k (by omega))) dX5_mayAllStand_45
      · have c_4 := (not_congr (cv_le_nn (by omega) (by omega))).mp c_4
        refine lv_lload_n hx hb dX5_mayAllStand_7 rfl (lv_at hl 0 rfl) ?_
        refine lv_iload_n hx hb dX5_mayAllStand_8 rfl (lv_at hl 2 rfl) ?_
        refine ro_call (va_runS (As := [.long (v), .int (nI (i))]) (rest := []) ⟨hx, hb, hml, hown, hts⟩ (c_X5_byteOf l (v) (i) (by omega)) (va_cwS 2 hts gX5_mayAllStand_X5_byteOf rfl rfl rfl (by decide +kernel) ⟨Nat.le_of_ble_eq_true rfl, Nat.le_of_ble_eq_true rfl⟩) pre_0 rfl rfl hl.1 rfl (lv_room (Nat.le_of_ble_eq_true rfl)) dX5_mayAllStand_9 ⟨Nat.zero_le _, Nat.zero_le _⟩) ?_
        refine lv_istore (lv' := [(4, .int (nI (byt (v) (i)))), (0, .long (v)), (2, .int (nI (k0))), (3, .int (nI (i)))]) hx hb dX5_mayAllStand_12 hl (by decide) rfl (fun ls hl => ?_)
        have hby : byt v i < 256 := byt_lt v i
        have hbt : (nI (byt v i)).toInt = ((byt v i : Nat) : Int) := nI_toInt (by omega)
        refine lv_iload hx hb dX5_mayAllStand_14 (lv_at hl 0 rfl) ?_
        refine lv_bipush (v := (nI (32))) hx hb dX5_mayAllStand_16 (by decide) ?_
        refine lv_icmp_eq (tgt := 38) hx hb dX5_mayAllStand_18 (by decide) (fun c_18 => ?_) (fun c_18 => ?_)
        · have c_18 := (cv_eq_nn (by omega) (by omega)).mp c_18
          refine lv_iinc (v := (nI (i + 1))) (lv' := [(3, .int (nI (i + 1))), (4, .int (nI (byt (v) (i)))), (0, .long (v)), (2, .int (nI (k0)))]) hx hb dX5_mayAllStand_38 hl (k := 3) rfl (nI_add _ 1) (by decide) rfl (fun ls hl => ?_)
          refine lv_goto (tgt := 2) hx hb dX5_mayAllStand_41 (by decide) ?_
          exact ih_2 (i + 1) (by omega) (lt_s ho (by omega)) (by omega) ls (lv_sub hl [2, 3, 0] rfl)
        · have c_18 := (not_congr (cv_eq_nn (by omega) (by omega))).mp c_18
          refine lv_iload hx hb dX5_mayAllStand_21 (lv_at hl 0 rfl) ?_
          refine lv_bipush (v := (nI (63))) hx hb dX5_mayAllStand_23 (by decide) ?_
          refine lv_icmp_eq (tgt := 38) hx hb dX5_mayAllStand_25 (by decide) (fun c_25 => ?_) (fun c_25 => ?_)
          · have c_25 := (cv_eq_nn (by omega) (by omega)).mp c_25
            refine lv_iinc (v := (nI (i + 1))) (lv' := [(3, .int (nI (i + 1))), (4, .int (nI (byt (v) (i)))), (0, .long (v)), (2, .int (nI (k0)))]) hx hb dX5_mayAllStand_38 hl (k := 3) rfl (nI_add _ 1) (by decide) rfl (fun ls hl => ?_)
            refine lv_goto (tgt := 2) hx hb dX5_mayAllStand_41 (by decide) ?_
            exact ih_2 (i + 1) (by omega) (lt_s ho (by omega)) (by omega) ls (lv_sub hl [2, 3, 0] rfl)
          · have c_25 := (not_congr (cv_eq_nn (by omega) (by omega))).mp c_25
            refine lv_iload hx hb dX5_mayAllStand_28 (lv_at hl 0 rfl) ?_
            refine ro_call (va_runS (As := [.int (nI (byt (v) (i)))]) (rest := []) ⟨hx, hb, hml, hown, hts⟩ (c_X5_isLetter l (nI (byt (v) (i)))) (va_cwS 1 hts gX5_mayAllStand_X5_isLetter rfl rfl rfl (by decide +kernel) ⟨Nat.le_of_ble_eq_true rfl, Nat.le_of_ble_eq_true rfl⟩) pre_0 rfl rfl hl.1 rfl (lv_room (Nat.le_of_ble_eq_true rfl)) dX5_mayAllStand_30 ⟨Nat.zero_le _, Nat.zero_le _⟩) ?_
            refine lv_if_ne (tgt := 38) hx hb dX5_mayAllStand_33 (by decide) (fun c_33 => ?_) (fun c_33 => ?_)
            · have c_33 := if_p c_33
              refine lv_iinc (v := (nI (i + 1))) (lv' := [(3, .int (nI (i + 1))), (4, .int (nI (byt (v) (i)))), (0, .long (v)), (2, .int (nI (k0)))]) hx hb dX5_mayAllStand_38 hl (k := 3) rfl (nI_add _ 1) (by decide) rfl (fun ls hl => ?_)
              refine lv_goto (tgt := 2) hx hb dX5_mayAllStand_41 (by decide) ?_
              exact ih_2 (i + 1) (by omega) (lt_s ho (by omega)) (by omega) ls (lv_sub hl [2, 3, 0] rfl)
            · have c_33 := if_n c_33
              refine lv_iconst (v := (nI (0))) hx hb dX5_mayAllStand_36 (by decide) ?_
              exact ro_zret hx hb hr hlocks (rfl) (zero_if (fun q => absurd (q i (by omega)) (by omega))) dX5_mayAllStand_37
  exact lp_2 (k0 - (0) + 1) 0 (Nat.zero_le _) (fun j hj => absurd hj (Nat.not_lt_zero j)) (Nat.lt_succ_self _) ls (lv_sub hl [1, 2, 0] rfl)
theorem iw_X0_worthOf_X0 : ∀ w ∈ u_ws RX0 TX0 1, w ∈ wsX0_worthOf := by decide +kernel
theorem fl_X0_worthOf_9 : Cond.fieldLink RX0 9 (TX0 0).1 (TX0 0).2.1 (TX0 0).2.2.1 ∈ wsX0_worthOf := by decide +kernel
set_option maxHeartbeats 200000 in
set_option maxRecDepth 100000 in
theorem c_X0_worthOf (l : Launch) {g : GW} {asked : Int64} {values : Nat → Int32} {bytes : Nat → Int32} {starts : Nat → Int32} {ends : Nat → Int32} {length : Int32} {parts : Int32} {texts : Nat → Int32} {lengths : Nat → Int32} {feet : Nat → Int32} {sorts : Nat → Int32} {nxt : Nat → Int32} {size : Int32} {sums : Nat → Int32} {oneSums : Nat → Int32} {otherSums : Nat → Int32} {byFeet : Nat → Int64} {kept : Nat → Int64} {over : Int32} {rcount : Int32} {rcust : Int32} {ssums : Nat → Int32} {ways : Nat → Int64} {nextWays : Nat → Int64} {reached : Nat → Int64} {nextReached : Nat → Int64} {found : Int32} {least : Int32} {greatest : Int32} (counting : Nat) (custom : Nat) (letter : Int32) (ahead : Int32) (hc : counting < 3) (hk : custom < 4) : Met l yX0_worthOf wsX0_worthOf ({ frames := 2, cells := 0, slots := 0, locals := 40 }) (va_Pc ([.ref (g.2.2 1), .int (nI (counting)), .int (nI (custom)), .int (letter), .int (ahead)]) (pW g (wX g asked values bytes starts ends length parts texts lengths feet sorts nxt size sums oneSums otherSums byFeet kept over rcount rcust ssums ways nextWays reached nextReached found least greatest))) (ro_Q (.int (wv values counting custom letter ahead))) 0 0 (fun _ => False) := by
  refine Met.ofW (cc := cX0_worthOf) (maxL := 5) (ret := (some .int)) (by decide) rfl ?_
  intro p e s m args below meth c s₁ B hml hv
  obtain ⟨rfl, hP, hK, hN⟩ := hv
  have hx := B.exec
  have hb := B.bytes
  have hr := B.returns
  have hts := atoms_spec (ws := wsX0_worthOf) B.pre
  have hown : s.vm.findClass RX0 = some m.cls := findClass_of_methodNamed B.named
  have hlocks := B.notSynchronized
  have hl := lv_entry ([.ref (g.2.2 1), .int (nI (counting)), .int (nI (custom)), .int (letter), .int (ahead)]) (n := 5) (Nat.le_of_ble_eq_true rfl)
  rw [lg_entry_eq]
  generalize (lg_sl ([.ref (g.2.2 1), .int (nI (counting)), .int (nI (custom)), .int (letter), .int (ahead)]) ++ List.replicate (5 - (lg_sl ([.ref (g.2.2 1), .int (nI (counting)), .int (nI (custom)), .int (letter), .int (ahead)])).length) Slot.unset).toArray = ls at hl ⊢
  have hl : lv_has ls 5 [(0, .ref (g.2.2 1)), (1, .int (nI (counting))), (2, .int (nI (custom))), (3, .int (letter)), (4, .int (ahead))] := hl
  refine lv_iload_n hx hb dX0_worthOf_0 rfl (lv_at hl 3 rfl) ?_
  refine ro_call (va_runSN (As := [.int (letter)]) (rest := []) ⟨hx, hb, hml, hown, hts⟩ (c_X5_isLetter l (letter)) ⟨va_cnB 1 hts gX0_worthOf_X5_isLetter_n24 rfl rfl rfl hN.1 (hts (.initialized RX5) (by decide +kernel)) (by decide +kernel) ⟨Nat.le_of_ble_eq_true rfl, Nat.le_of_ble_eq_true rfl⟩, hts (.static yX5_isLetter) (by decide +kernel), trivial⟩ pre_0 rfl rfl hl.1 rfl (lv_room (Nat.le_of_ble_eq_true rfl)) dX0_worthOf_1 ⟨Nat.zero_le _, Nat.zero_le _⟩) ?_
  refine lv_if_ne (tgt := 9) hx hb dX0_worthOf_4 (by decide) (fun c_4 => ?_) (fun c_4 => ?_)
  · have c_4 := if_p c_4
    refine lv_iload_n hx hb dX0_worthOf_9 rfl (lv_at hl 1 rfl) ?_
    refine lv_iconst (v := (nI (1))) hx hb dX0_worthOf_10 (by decide) ?_
    refine lv_icmp_lt (tgt := 23) hx hb dX0_worthOf_11 (by decide) (fun c_11 => ?_) (fun c_11 => ?_)
    · have c_11 := (cv_lt_nn (by omega) (by omega)).mp c_11
      refine lv_iload_n hx hb dX0_worthOf_23 rfl (lv_at hl 1 rfl) ?_
      refine lv_iconst (v := (nI (2))) hx hb dX0_worthOf_24 (by decide) ?_
      refine lv_icmp_lt (tgt := 36) hx hb dX0_worthOf_25 (by decide) (fun c_25 => ?_) (fun c_25 => ?_)
      · have c_25 := (cv_lt_nn (by omega) (by omega)).mp c_25
        obtain ⟨j, hj, hje⟩ := iN_of (x := letter) (b := 123) (by omega) (by omega)
        subst hje
        have hjt : (nI j).toInt = (j : Int) := nI_toInt (by omega)
        refine lv_aload_n hx hb dX0_worthOf_36 rfl (lv_at hl 0 rfl) ?_
        refine an_get (ci := 0) (v := .ref (g.2.2 2)) (C := RX0) (T := TX0) (N := 1) hx hb hts iw_X0_worthOf_X0 hown hK hP 1 rfl rfl 0 (by decide) (hts _ fl_X0_worthOf_9) rfl dX0_worthOf_37 ?_
        refine lv_iload_n hx hb dX0_worthOf_40 rfl (lv_at hl 2 rfl) ?_
        refine lv_bipush (v := (nI (26))) hx hb dX0_worthOf_41 (by decide) ?_
        refine ln_imul hx hb dX0_worthOf_43 ?_
        refine lv_iload_n hx hb dX0_worthOf_44 rfl (lv_at hl 3 rfl) ?_
        refine ln_iadd hx hb dX0_worthOf_45 ?_
        refine lv_iload_n hx hb dX0_worthOf_46 rfl (lv_at hl 3 rfl) ?_
        refine ro_call (va_runSN (As := [.int (nI (j))]) (rest := [.int (nI ((custom * 26) + j)), .ref (g.2.2 2)]) ⟨hx, hb, hml, hown, hts⟩ (c_X5_isCapital l (nI (j))) ⟨va_cnB 1 hts gX0_worthOf_X5_isCapital_n28 rfl rfl rfl hN.2.1 (hts (.initialized RX5) (by decide +kernel)) (by decide +kernel) ⟨Nat.le_of_ble_eq_true rfl, Nat.le_of_ble_eq_true rfl⟩, hts (.static yX5_isCapital) (by decide +kernel), trivial⟩ pre_0 rfl rfl hl.1 rfl (lv_room (Nat.le_of_ble_eq_true rfl)) dX0_worthOf_47 ⟨Nat.zero_le _, Nat.zero_le _⟩) ?_
        refine lv_if_eq (tgt := 58) hx hb dX0_worthOf_50 (by decide) (fun c_50 => ?_) (fun c_50 => ?_)
        · have c_50 := if_n c_50
          refine lv_bipush (v := (nI (97))) hx hb dX0_worthOf_58 (by decide) ?_
          refine ln_isub hx hb (by omega) dX0_worthOf_60 ?_
          refine an_iald (f := values) hx hb hK hP 2 0 rfl rfl (by decide) (by omega) dX0_worthOf_61 ?_
          exact ro_iret hx hb hr hlocks (wv_l hj (by omega) (by omega) (by omega)) dX0_worthOf_62
        · have c_50 := if_p c_50
          refine lv_bipush (v := (nI (65))) hx hb dX0_worthOf_53 (by decide) ?_
          refine lv_goto (tgt := 60) hx hb dX0_worthOf_55 (by decide) ?_
          refine ln_isub hx hb (by omega) dX0_worthOf_60 ?_
          refine an_iald (f := values) hx hb hK hP 2 0 rfl rfl (by decide) (by omega) dX0_worthOf_61 ?_
          exact ro_iret hx hb hr hlocks (wv_c hj (by omega) (by omega)) dX0_worthOf_62
      · have c_25 := (not_congr (cv_lt_nn (by omega) (by omega))).mp c_25
        refine lv_iload_n hx hb dX0_worthOf_28 rfl (lv_at hl 3 rfl) ?_
        refine lv_iload hx hb dX0_worthOf_29 (lv_at hl 4 rfl) ?_
        refine lv_icmp_ne (tgt := 36) hx hb dX0_worthOf_31 (by decide) (fun c_31 => ?_) (fun c_31 => ?_)
        · have c_31 := (not_congr (cv_eq_ii )).mp c_31
          obtain ⟨j, hj, hje⟩ := iN_of (x := letter) (b := 123) (by omega) (by omega)
          subst hje
          have hjt : (nI j).toInt = (j : Int) := nI_toInt (by omega)
          refine lv_aload_n hx hb dX0_worthOf_36 rfl (lv_at hl 0 rfl) ?_
          refine an_get (ci := 0) (v := .ref (g.2.2 2)) (C := RX0) (T := TX0) (N := 1) hx hb hts iw_X0_worthOf_X0 hown hK hP 1 rfl rfl 0 (by decide) (hts _ fl_X0_worthOf_9) rfl dX0_worthOf_37 ?_
          refine lv_iload_n hx hb dX0_worthOf_40 rfl (lv_at hl 2 rfl) ?_
          refine lv_bipush (v := (nI (26))) hx hb dX0_worthOf_41 (by decide) ?_
          refine ln_imul hx hb dX0_worthOf_43 ?_
          refine lv_iload_n hx hb dX0_worthOf_44 rfl (lv_at hl 3 rfl) ?_
          refine ln_iadd hx hb dX0_worthOf_45 ?_
          refine lv_iload_n hx hb dX0_worthOf_46 rfl (lv_at hl 3 rfl) ?_
          refine ro_call (va_runSN (As := [.int (nI (j))]) (rest := [.int (nI ((custom * 26) + j)), .ref (g.2.2 2)]) ⟨hx, hb, hml, hown, hts⟩ (c_X5_isCapital l (nI (j))) ⟨va_cnB 1 hts gX0_worthOf_X5_isCapital_n28 rfl rfl rfl hN.2.1 (hts (.initialized RX5) (by decide +kernel)) (by decide +kernel) ⟨Nat.le_of_ble_eq_true rfl, Nat.le_of_ble_eq_true rfl⟩, hts (.static yX5_isCapital) (by decide +kernel), trivial⟩ pre_0 rfl rfl hl.1 rfl (lv_room (Nat.le_of_ble_eq_true rfl)) dX0_worthOf_47 ⟨Nat.zero_le _, Nat.zero_le _⟩) ?_
          refine lv_if_eq (tgt := 58) hx hb dX0_worthOf_50 (by decide) (fun c_50 => ?_) (fun c_50 => ?_)
          · have c_50 := if_n c_50
            refine lv_bipush (v := (nI (97))) hx hb dX0_worthOf_58 (by decide) ?_
            refine ln_isub hx hb (by omega) dX0_worthOf_60 ?_
            refine an_iald (f := values) hx hb hK hP 2 0 rfl rfl (by decide) (by omega) dX0_worthOf_61 ?_
            exact ro_iret hx hb hr hlocks (wv_l hj (by omega) (by omega) (by omega)) dX0_worthOf_62
          · have c_50 := if_p c_50
            refine lv_bipush (v := (nI (65))) hx hb dX0_worthOf_53 (by decide) ?_
            refine lv_goto (tgt := 60) hx hb dX0_worthOf_55 (by decide) ?_
            refine ln_isub hx hb (by omega) dX0_worthOf_60 ?_
            refine an_iald (f := values) hx hb hK hP 2 0 rfl rfl (by decide) (by omega) dX0_worthOf_61 ?_
            exact ro_iret hx hb hr hlocks (wv_c hj (by omega) (by omega)) dX0_worthOf_62
        · have c_31 := (cv_eq_ii ).mp c_31
          refine lv_iconst (v := (nI (0))) hx hb dX0_worthOf_34 (by decide) ?_
          exact ro_iret hx hb hr hlocks (wv_0 (by omega)) dX0_worthOf_35
    · have c_11 := (not_congr (cv_lt_nn (by omega) (by omega))).mp c_11
      refine lv_iload_n hx hb dX0_worthOf_14 rfl (lv_at hl 3 rfl) ?_
      refine ro_call (va_runSN (As := [.int (letter)]) (rest := []) ⟨hx, hb, hml, hown, hts⟩ (c_X5_isCapital l (letter)) ⟨va_cnB 1 hts gX0_worthOf_X5_isCapital_n28 rfl rfl rfl hN.2.1 (hts (.initialized RX5) (by decide +kernel)) (by decide +kernel) ⟨Nat.le_of_ble_eq_true rfl, Nat.le_of_ble_eq_true rfl⟩, hts (.static yX5_isCapital) (by decide +kernel), trivial⟩ pre_0 rfl rfl hl.1 rfl (lv_room (Nat.le_of_ble_eq_true rfl)) dX0_worthOf_15 ⟨Nat.zero_le _, Nat.zero_le _⟩) ?_
      refine lv_if_ne (tgt := 23) hx hb dX0_worthOf_18 (by decide) (fun c_18 => ?_) (fun c_18 => ?_)
      · have c_18 := if_p c_18
        refine lv_iload_n hx hb dX0_worthOf_23 rfl (lv_at hl 1 rfl) ?_
        refine lv_iconst (v := (nI (2))) hx hb dX0_worthOf_24 (by decide) ?_
        refine lv_icmp_lt (tgt := 36) hx hb dX0_worthOf_25 (by decide) (fun c_25 => ?_) (fun c_25 => ?_)
        · have c_25 := (cv_lt_nn (by omega) (by omega)).mp c_25
          obtain ⟨j, hj, hje⟩ := iN_of (x := letter) (b := 123) (by omega) (by omega)
          subst hje
          have hjt : (nI j).toInt = (j : Int) := nI_toInt (by omega)
          refine lv_aload_n hx hb dX0_worthOf_36 rfl (lv_at hl 0 rfl) ?_
          refine an_get (ci := 0) (v := .ref (g.2.2 2)) (C := RX0) (T := TX0) (N := 1) hx hb hts iw_X0_worthOf_X0 hown hK hP 1 rfl rfl 0 (by decide) (hts _ fl_X0_worthOf_9) rfl dX0_worthOf_37 ?_
          refine lv_iload_n hx hb dX0_worthOf_40 rfl (lv_at hl 2 rfl) ?_
          refine lv_bipush (v := (nI (26))) hx hb dX0_worthOf_41 (by decide) ?_
          refine ln_imul hx hb dX0_worthOf_43 ?_
          refine lv_iload_n hx hb dX0_worthOf_44 rfl (lv_at hl 3 rfl) ?_
          refine ln_iadd hx hb dX0_worthOf_45 ?_
          refine lv_iload_n hx hb dX0_worthOf_46 rfl (lv_at hl 3 rfl) ?_
          refine ro_call (va_runSN (As := [.int (nI (j))]) (rest := [.int (nI ((custom * 26) + j)), .ref (g.2.2 2)]) ⟨hx, hb, hml, hown, hts⟩ (c_X5_isCapital l (nI (j))) ⟨va_cnB 1 hts gX0_worthOf_X5_isCapital_n28 rfl rfl rfl hN.2.1 (hts (.initialized RX5) (by decide +kernel)) (by decide +kernel) ⟨Nat.le_of_ble_eq_true rfl, Nat.le_of_ble_eq_true rfl⟩, hts (.static yX5_isCapital) (by decide +kernel), trivial⟩ pre_0 rfl rfl hl.1 rfl (lv_room (Nat.le_of_ble_eq_true rfl)) dX0_worthOf_47 ⟨Nat.zero_le _, Nat.zero_le _⟩) ?_
          refine lv_if_eq (tgt := 58) hx hb dX0_worthOf_50 (by decide) (fun c_50 => ?_) (fun c_50 => ?_)
          · have c_50 := if_n c_50
            refine lv_bipush (v := (nI (97))) hx hb dX0_worthOf_58 (by decide) ?_
            refine ln_isub hx hb (by omega) dX0_worthOf_60 ?_
            refine an_iald (f := values) hx hb hK hP 2 0 rfl rfl (by decide) (by omega) dX0_worthOf_61 ?_
            exact ro_iret hx hb hr hlocks (wv_l hj (by omega) (by omega) (by omega)) dX0_worthOf_62
          · have c_50 := if_p c_50
            refine lv_bipush (v := (nI (65))) hx hb dX0_worthOf_53 (by decide) ?_
            refine lv_goto (tgt := 60) hx hb dX0_worthOf_55 (by decide) ?_
            refine ln_isub hx hb (by omega) dX0_worthOf_60 ?_
            refine an_iald (f := values) hx hb hK hP 2 0 rfl rfl (by decide) (by omega) dX0_worthOf_61 ?_
            exact ro_iret hx hb hr hlocks (wv_c hj (by omega) (by omega)) dX0_worthOf_62
        · have c_25 := (not_congr (cv_lt_nn (by omega) (by omega))).mp c_25
          refine lv_iload_n hx hb dX0_worthOf_28 rfl (lv_at hl 3 rfl) ?_
          refine lv_iload hx hb dX0_worthOf_29 (lv_at hl 4 rfl) ?_
          refine lv_icmp_ne (tgt := 36) hx hb dX0_worthOf_31 (by decide) (fun c_31 => ?_) (fun c_31 => ?_)
          · have c_31 := (not_congr (cv_eq_ii )).mp c_31
            obtain ⟨j, hj, hje⟩ := iN_of (x := letter) (b := 123) (by omega) (by omega)
            subst hje
            have hjt : (nI j).toInt = (j : Int) := nI_toInt (by omega)
            refine lv_aload_n hx hb dX0_worthOf_36 rfl (lv_at hl 0 rfl) ?_
            refine an_get (ci := 0) (v := .ref (g.2.2 2)) (C := RX0) (T := TX0) (N := 1) hx hb hts iw_X0_worthOf_X0 hown hK hP 1 rfl rfl 0 (by decide) (hts _ fl_X0_worthOf_9) rfl dX0_worthOf_37 ?_
            refine lv_iload_n hx hb dX0_worthOf_40 rfl (lv_at hl 2 rfl) ?_
            refine lv_bipush (v := (nI (26))) hx hb dX0_worthOf_41 (by decide) ?_
            refine ln_imul hx hb dX0_worthOf_43 ?_
            refine lv_iload_n hx hb dX0_worthOf_44 rfl (lv_at hl 3 rfl) ?_
            refine ln_iadd hx hb dX0_worthOf_45 ?_
            refine lv_iload_n hx hb dX0_worthOf_46 rfl (lv_at hl 3 rfl) ?_
            refine ro_call (va_runSN (As := [.int (nI (j))]) (rest := [.int (nI ((custom * 26) + j)), .ref (g.2.2 2)]) ⟨hx, hb, hml, hown, hts⟩ (c_X5_isCapital l (nI (j))) ⟨va_cnB 1 hts gX0_worthOf_X5_isCapital_n28 rfl rfl rfl hN.2.1 (hts (.initialized RX5) (by decide +kernel)) (by decide +kernel) ⟨Nat.le_of_ble_eq_true rfl, Nat.le_of_ble_eq_true rfl⟩, hts (.static yX5_isCapital) (by decide +kernel), trivial⟩ pre_0 rfl rfl hl.1 rfl (lv_room (Nat.le_of_ble_eq_true rfl)) dX0_worthOf_47 ⟨Nat.zero_le _, Nat.zero_le _⟩) ?_
            refine lv_if_eq (tgt := 58) hx hb dX0_worthOf_50 (by decide) (fun c_50 => ?_) (fun c_50 => ?_)
            · have c_50 := if_n c_50
              refine lv_bipush (v := (nI (97))) hx hb dX0_worthOf_58 (by decide) ?_
              refine ln_isub hx hb (by omega) dX0_worthOf_60 ?_
              refine an_iald (f := values) hx hb hK hP 2 0 rfl rfl (by decide) (by omega) dX0_worthOf_61 ?_
              exact ro_iret hx hb hr hlocks (wv_l hj (by omega) (by omega) (by omega)) dX0_worthOf_62
            · have c_50 := if_p c_50
              refine lv_bipush (v := (nI (65))) hx hb dX0_worthOf_53 (by decide) ?_
              refine lv_goto (tgt := 60) hx hb dX0_worthOf_55 (by decide) ?_
              refine ln_isub hx hb (by omega) dX0_worthOf_60 ?_
              refine an_iald (f := values) hx hb hK hP 2 0 rfl rfl (by decide) (by omega) dX0_worthOf_61 ?_
              exact ro_iret hx hb hr hlocks (wv_c hj (by omega) (by omega)) dX0_worthOf_62
          · have c_31 := (cv_eq_ii ).mp c_31
            refine lv_iconst (v := (nI (0))) hx hb dX0_worthOf_34 (by decide) ?_
            exact ro_iret hx hb hr hlocks (wv_0 (by omega)) dX0_worthOf_35
      · have c_18 := if_n c_18
        refine lv_iconst (v := (nI (0))) hx hb dX0_worthOf_21 (by decide) ?_
        exact ro_iret hx hb hr hlocks (wv_0 (by omega)) dX0_worthOf_22
  · have c_4 := if_n c_4
    refine lv_iconst (v := (nI (0))) hx hb dX0_worthOf_7 (by decide) ?_
    exact ro_iret hx hb hr hlocks (wv_0 (by omega)) dX0_worthOf_8
set_option maxHeartbeats 200000 in
set_option maxRecDepth 100000 in
theorem c_X0_sumOf_bytes (l : Launch) {g : GW} {asked : Int64} {values : Nat → Int32} {bytes : Nat → Int32} {starts : Nat → Int32} {ends : Nat → Int32} {length : Int32} {parts : Int32} {texts : Nat → Int32} {lengths : Nat → Int32} {feet : Nat → Int32} {sorts : Nat → Int32} {nxt : Nat → Int32} {size : Int32} {sums : Nat → Int32} {oneSums : Nat → Int32} {otherSums : Nat → Int32} {byFeet : Nat → Int64} {kept : Nat → Int64} {over : Int32} {rcount : Int32} {rcust : Int32} {ssums : Nat → Int32} {ways : Nat → Int64} {nextWays : Nat → Int64} {reached : Nat → Int64} {nextReached : Nat → Int64} {found : Int32} {least : Int32} {greatest : Int32} (counting : Nat) (custom : Nat) (fr : Nat) (to : Nat) (hc : counting < 3) (hk : custom < 4) (hf : fr ≤ to) (ht : to ≤ 40) : Met l yX0_sumOf wsX0_sumOf ({ frames := 3, cells := 0, slots := 0, locals := 64 }) (va_Pc ([.ref (g.2.2 1), .int (nI (counting)), .int (nI (custom)), .ref (g.2.2 4), .int (nI (fr)), .int (nI (to))]) (pW g (wX g asked values bytes starts ends length parts texts lengths feet sorts nxt size sums oneSums otherSums byFeet kept over rcount rcust ssums ways nextWays reached nextReached found least greatest))) (ro_Q (.int (smv values counting custom bytes fr (to - fr)))) 0 0 (fun _ => False) := by
  refine Met.ofW (cc := cX0_sumOf) (maxL := 9) (ret := (some .int)) (by decide) rfl ?_
  intro p e s m args below meth c s₁ B hml hv
  obtain ⟨rfl, hP, hK, hN⟩ := hv
  have hx := B.exec
  have hb := B.bytes
  have hr := B.returns
  have hts := atoms_spec (ws := wsX0_sumOf) B.pre
  have hown : s.vm.findClass RX0 = some m.cls := findClass_of_methodNamed B.named
  have hlocks := B.notSynchronized
  have hl := lv_entry ([.ref (g.2.2 1), .int (nI (counting)), .int (nI (custom)), .ref (g.2.2 4), .int (nI (fr)), .int (nI (to))]) (n := 9) (Nat.le_of_ble_eq_true rfl)
  rw [lg_entry_eq]
  generalize (lg_sl ([.ref (g.2.2 1), .int (nI (counting)), .int (nI (custom)), .ref (g.2.2 4), .int (nI (fr)), .int (nI (to))]) ++ List.replicate (9 - (lg_sl ([.ref (g.2.2 1), .int (nI (counting)), .int (nI (custom)), .ref (g.2.2 4), .int (nI (fr)), .int (nI (to))])).length) Slot.unset).toArray = ls at hl ⊢
  have hl : lv_has ls 9 [(0, .ref (g.2.2 1)), (1, .int (nI (counting))), (2, .int (nI (custom))), (3, .ref (g.2.2 4)), (4, .int (nI (fr))), (5, .int (nI (to)))] := hl
  refine lv_iconst (v := (nI (0))) hx hb dX0_sumOf_0 (by decide) ?_
  refine lv_istore (lv' := [(6, .int (nI (0))), (0, .ref (g.2.2 1)), (1, .int (nI (counting))), (2, .int (nI (custom))), (3, .ref (g.2.2 4)), (4, .int (nI (fr))), (5, .int (nI (to)))]) hx hb dX0_sumOf_1 hl (by decide) rfl (fun ls hl => ?_)
  refine lv_bipush (v := (nI (32))) hx hb dX0_sumOf_3 (by decide) ?_
  refine lv_istore (lv' := [(7, .int (nI (32))), (6, .int (nI (0))), (0, .ref (g.2.2 1)), (1, .int (nI (counting))), (2, .int (nI (custom))), (3, .ref (g.2.2 4)), (4, .int (nI (fr))), (5, .int (nI (to)))]) hx hb dX0_sumOf_5 hl (by decide) rfl (fun ls hl => ?_)
  refine lv_iload hx hb dX0_sumOf_7 (lv_at hl 6 rfl) ?_
  refine lv_istore (lv' := [(8, .int (nI (fr))), (7, .int (nI (32))), (6, .int (nI (0))), (0, .ref (g.2.2 1)), (1, .int (nI (counting))), (2, .int (nI (custom))), (3, .ref (g.2.2 4)), (4, .int (nI (fr))), (5, .int (nI (to)))]) hx hb dX0_sumOf_9 hl (by decide) rfl (fun ls hl => ?_)
  have lp_11 : ∀ (n : Nat) (i : Nat), (fr + i ≤ to) → to - fr - i < n → ∀ (ls : Array Slot), lv_has ls 9 [(0, .ref (g.2.2 1)), (1, .int (nI (counting))), (2, .int (nI (custom))), (3, .ref (g.2.2 4)), (4, .int (nI (fr))), (5, .int (nI (to))), (6, .int (smv values counting custom bytes fr i)), (7, .int (ahd bytes fr i)), (8, .int (nI (fr + i)))] → W p l e (headSpec wsX0_sumOf ({ frames := 3, cells := 0, slots := 0, locals := 64 })).room s m (([.ref (g.2.2 1), .int (nI (counting)), .int (nI (custom)), .ref (g.2.2 4), .int (nI (fr)), .int (nI (to))] : List Value).toArray) below meth c s.heap [] 0 0 (MQ below (ro_Q (.int (smv values counting custom bytes fr (to - fr)))) (([.ref (g.2.2 1), .int (nI (counting)), .int (nI (custom)), .ref (g.2.2 4), .int (nI (fr)), .int (nI (to))] : List Value).toArray) s 0 0 (fun _ => False)) (F0 m 11 ls []) := by
    intro n
    induction n with
    | zero => intro i hi hm; exact absurd hm (Nat.not_lt_zero _)
    | succ n ih_11 =>
      intro i hi hm_11 ls hl
      refine lv_iload hx hb dX0_sumOf_11 (lv_at hl 8 rfl) ?_
      refine lv_iload hx hb dX0_sumOf_13 (lv_at hl 5 rfl) ?_
      refine lv_icmp_ge (tgt := 47) hx hb dX0_sumOf_15 (by decide) (fun c_15 => ?_) (fun c_15 => ?_)
      · have c_15 := (cv_le_nn (by omega) (by omega)).mp c_15
        refine lv_iload hx hb dX0_sumOf_47 (lv_at hl 6 rfl) ?_
        exact ro_iret hx hb hr hlocks (by rw [show to - fr = i by omega]) dX0_sumOf_49
      · have c_15 := (not_congr (cv_le_nn (by omega) (by omega))).mp c_15
        refine lv_iload hx hb dX0_sumOf_18 (lv_at hl 6 rfl) ?_
        refine lv_aload_n hx hb dX0_sumOf_20 rfl (lv_at hl 0 rfl) ?_
        refine lv_iload_n hx hb dX0_sumOf_21 rfl (lv_at hl 1 rfl) ?_
        refine lv_iload_n hx hb dX0_sumOf_22 rfl (lv_at hl 2 rfl) ?_
        refine lv_aload_n hx hb dX0_sumOf_23 rfl (lv_at hl 3 rfl) ?_
        refine lv_iload hx hb dX0_sumOf_24 (lv_at hl 8 rfl) ?_
        refine an_iald (f := bytes) hx hb hK hP 4 0 rfl rfl (by decide) (by omega) dX0_sumOf_26 ?_
        refine lv_iload hx hb dX0_sumOf_27 (lv_at hl 7 rfl) ?_
        refine ro_call (va_runV (As := [.int (nI (counting)), .int (nI (custom)), .int (bytes (fr + i)), .int (ahd bytes fr i)]) (rest := [.int (smv values counting custom bytes fr i)]) ⟨hx, hb, hml, hown, hts⟩ (c_X0_worthOf l (g := g) (asked := asked) (values := values) (bytes := bytes) (starts := starts) (ends := ends) (length := length) (parts := parts) (texts := texts) (lengths := lengths) (feet := feet) (sorts := sorts) (nxt := nxt) (size := size) (sums := sums) (oneSums := oneSums) (otherSums := otherSums) (byFeet := byFeet) (kept := kept) (over := over) (rcount := rcount) (rcust := rcust) (ssums := ssums) (ways := ways) (nextWays := nextWays) (reached := reached) (nextReached := nextReached) (found := found) (least := least) (greatest := greatest) (counting) (custom) (bytes (fr + i)) (ahd bytes fr i) hc hk) (cwV 4 hts gX0_sumOf_X0_worthOf rfl rfl rfl (by decide +kernel) ⟨Nat.le_of_ble_eq_true rfl, Nat.le_of_ble_eq_true rfl⟩) (pre_V pW_bl (va_recv hK hP (ci := 0) (q0 := 1) rfl rfl) (fun U hU hW => pW_of hP hK hN hU hW)) rfl rfl hl.1 rfl (lv_room (Nat.le_of_ble_eq_true rfl)) dX0_sumOf_29 ⟨Nat.zero_le _, Nat.zero_le _⟩) ?_
        refine lv_iadd hx hb dX0_sumOf_32 ?_
        refine lv_istore (lv' := [(6, .int ((smv values counting custom bytes fr i) + (wv values (counting) (custom) (bytes (fr + i)) (ahd bytes fr i)))), (0, .ref (g.2.2 1)), (1, .int (nI (counting))), (2, .int (nI (custom))), (3, .ref (g.2.2 4)), (4, .int (nI (fr))), (5, .int (nI (to))), (7, .int (ahd bytes fr i)), (8, .int (nI (fr + i)))]) hx hb dX0_sumOf_33 hl (by decide) rfl (fun ls hl => ?_)
        refine lv_aload_n hx hb dX0_sumOf_35 rfl (lv_at hl 4 rfl) ?_
        refine lv_iload hx hb dX0_sumOf_36 (lv_at hl 8 rfl) ?_
        refine an_iald (f := bytes) hx hb hK hP 4 0 rfl rfl (by decide) (by omega) dX0_sumOf_38 ?_
        refine lv_istore (lv' := [(7, .int (bytes (fr + i))), (6, .int ((smv values counting custom bytes fr i) + (wv values (counting) (custom) (bytes (fr + i)) (ahd bytes fr i)))), (0, .ref (g.2.2 1)), (1, .int (nI (counting))), (2, .int (nI (custom))), (3, .ref (g.2.2 4)), (4, .int (nI (fr))), (5, .int (nI (to))), (8, .int (nI (fr + i)))]) hx hb dX0_sumOf_39 hl (by decide) rfl (fun ls hl => ?_)
        refine lv_iinc (v := (nI ((fr + i) + 1))) (lv' := [(8, .int (nI ((fr + i) + 1))), (7, .int (bytes (fr + i))), (6, .int ((smv values counting custom bytes fr i) + (wv values (counting) (custom) (bytes (fr + i)) (ahd bytes fr i)))), (0, .ref (g.2.2 1)), (1, .int (nI (counting))), (2, .int (nI (custom))), (3, .ref (g.2.2 4)), (4, .int (nI (fr))), (5, .int (nI (to)))]) hx hb dX0_sumOf_41 hl (k := 8) rfl (nI_add _ 1) (by decide) rfl (fun ls hl => ?_)
        refine lv_goto (tgt := 11) hx hb dX0_sumOf_44 (by decide) ?_
        exact ih_11 (i + 1) (by omega) (by omega) ls (lv_sub hl [3, 4, 5, 6, 7, 8, 2, 1, 0] rfl)
  exact lp_11 (to - fr - (0) + 1) 0 (by omega) (Nat.lt_succ_self _) ls (lv_sub hl [3, 4, 5, 6, 7, 8, 2, 1, 0] rfl)
set_option maxHeartbeats 200000 in
set_option maxRecDepth 100000 in
theorem c_X0_sumOf_texts (l : Launch) {g : GW} {asked : Int64} {values : Nat → Int32} {bytes : Nat → Int32} {starts : Nat → Int32} {ends : Nat → Int32} {length : Int32} {parts : Int32} {texts : Nat → Int32} {lengths : Nat → Int32} {feet : Nat → Int32} {sorts : Nat → Int32} {nxt : Nat → Int32} {size : Int32} {sums : Nat → Int32} {oneSums : Nat → Int32} {otherSums : Nat → Int32} {byFeet : Nat → Int64} {kept : Nat → Int64} {over : Int32} {rcount : Int32} {rcust : Int32} {ssums : Nat → Int32} {ways : Nat → Int64} {nextWays : Nat → Int64} {reached : Nat → Int64} {nextReached : Nat → Int64} {found : Int32} {least : Int32} {greatest : Int32} (counting : Nat) (custom : Nat) (fr : Nat) (to : Nat) (hc : counting < 3) (hk : custom < 4) (hf : fr ≤ to) (ht : to ≤ 80) : Met l yX0_sumOf wsX0_sumOf ({ frames := 3, cells := 0, slots := 0, locals := 64 }) (va_Pc ([.ref (g.2.2 1), .int (nI (counting)), .int (nI (custom)), .ref (g.2.2 8), .int (nI (fr)), .int (nI (to))]) (pW g (wX g asked values bytes starts ends length parts texts lengths feet sorts nxt size sums oneSums otherSums byFeet kept over rcount rcust ssums ways nextWays reached nextReached found least greatest))) (ro_Q (.int (smv values counting custom texts fr (to - fr)))) 0 0 (fun _ => False) := by
  refine Met.ofW (cc := cX0_sumOf) (maxL := 9) (ret := (some .int)) (by decide) rfl ?_
  intro p e s m args below meth c s₁ B hml hv
  obtain ⟨rfl, hP, hK, hN⟩ := hv
  have hx := B.exec
  have hb := B.bytes
  have hr := B.returns
  have hts := atoms_spec (ws := wsX0_sumOf) B.pre
  have hown : s.vm.findClass RX0 = some m.cls := findClass_of_methodNamed B.named
  have hlocks := B.notSynchronized
  have hl := lv_entry ([.ref (g.2.2 1), .int (nI (counting)), .int (nI (custom)), .ref (g.2.2 8), .int (nI (fr)), .int (nI (to))]) (n := 9) (Nat.le_of_ble_eq_true rfl)
  rw [lg_entry_eq]
  generalize (lg_sl ([.ref (g.2.2 1), .int (nI (counting)), .int (nI (custom)), .ref (g.2.2 8), .int (nI (fr)), .int (nI (to))]) ++ List.replicate (9 - (lg_sl ([.ref (g.2.2 1), .int (nI (counting)), .int (nI (custom)), .ref (g.2.2 8), .int (nI (fr)), .int (nI (to))])).length) Slot.unset).toArray = ls at hl ⊢
  have hl : lv_has ls 9 [(0, .ref (g.2.2 1)), (1, .int (nI (counting))), (2, .int (nI (custom))), (3, .ref (g.2.2 8)), (4, .int (nI (fr))), (5, .int (nI (to)))] := hl
  refine lv_iconst (v := (nI (0))) hx hb dX0_sumOf_0 (by decide) ?_
  refine lv_istore (lv' := [(6, .int (nI (0))), (0, .ref (g.2.2 1)), (1, .int (nI (counting))), (2, .int (nI (custom))), (3, .ref (g.2.2 8)), (4, .int (nI (fr))), (5, .int (nI (to)))]) hx hb dX0_sumOf_1 hl (by decide) rfl (fun ls hl => ?_)
  refine lv_bipush (v := (nI (32))) hx hb dX0_sumOf_3 (by decide) ?_
  refine lv_istore (lv' := [(7, .int (nI (32))), (6, .int (nI (0))), (0, .ref (g.2.2 1)), (1, .int (nI (counting))), (2, .int (nI (custom))), (3, .ref (g.2.2 8)), (4, .int (nI (fr))), (5, .int (nI (to)))]) hx hb dX0_sumOf_5 hl (by decide) rfl (fun ls hl => ?_)
  refine lv_iload hx hb dX0_sumOf_7 (lv_at hl 6 rfl) ?_
  refine lv_istore (lv' := [(8, .int (nI (fr))), (7, .int (nI (32))), (6, .int (nI (0))), (0, .ref (g.2.2 1)), (1, .int (nI (counting))), (2, .int (nI (custom))), (3, .ref (g.2.2 8)), (4, .int (nI (fr))), (5, .int (nI (to)))]) hx hb dX0_sumOf_9 hl (by decide) rfl (fun ls hl => ?_)
  have lp_11 : ∀ (n : Nat) (i : Nat), (fr + i ≤ to) → to - fr - i < n → ∀ (ls : Array Slot), lv_has ls 9 [(0, .ref (g.2.2 1)), (1, .int (nI (counting))), (2, .int (nI (custom))), (3, .ref (g.2.2 8)), (4, .int (nI (fr))), (5, .int (nI (to))), (6, .int (smv values counting custom texts fr i)), (7, .int (ahd texts fr i)), (8, .int (nI (fr + i)))] → W p l e (headSpec wsX0_sumOf ({ frames := 3, cells := 0, slots := 0, locals := 64 })).room s m (([.ref (g.2.2 1), .int (nI (counting)), .int (nI (custom)), .ref (g.2.2 8), .int (nI (fr)), .int (nI (to))] : List Value).toArray) below meth c s.heap [] 0 0 (MQ below (ro_Q (.int (smv values counting custom texts fr (to - fr)))) (([.ref (g.2.2 1), .int (nI (counting)), .int (nI (custom)), .ref (g.2.2 8), .int (nI (fr)), .int (nI (to))] : List Value).toArray) s 0 0 (fun _ => False)) (F0 m 11 ls []) := by
    intro n
    induction n with
    | zero => intro i hi hm; exact absurd hm (Nat.not_lt_zero _)
    | succ n ih_11 =>
      intro i hi hm_11 ls hl
      refine lv_iload hx hb dX0_sumOf_11 (lv_at hl 8 rfl) ?_
      refine lv_iload hx hb dX0_sumOf_13 (lv_at hl 5 rfl) ?_
      refine lv_icmp_ge (tgt := 47) hx hb dX0_sumOf_15 (by decide) (fun c_15 => ?_) (fun c_15 => ?_)
      · have c_15 := (cv_le_nn (by omega) (by omega)).mp c_15
        refine lv_iload hx hb dX0_sumOf_47 (lv_at hl 6 rfl) ?_
        exact ro_iret hx hb hr hlocks (by rw [show to - fr = i by omega]) dX0_sumOf_49
      · have c_15 := (not_congr (cv_le_nn (by omega) (by omega))).mp c_15
        refine lv_iload hx hb dX0_sumOf_18 (lv_at hl 6 rfl) ?_
        refine lv_aload_n hx hb dX0_sumOf_20 rfl (lv_at hl 0 rfl) ?_
        refine lv_iload_n hx hb dX0_sumOf_21 rfl (lv_at hl 1 rfl) ?_
        refine lv_iload_n hx hb dX0_sumOf_22 rfl (lv_at hl 2 rfl) ?_
        refine lv_aload_n hx hb dX0_sumOf_23 rfl (lv_at hl 3 rfl) ?_
        refine lv_iload hx hb dX0_sumOf_24 (lv_at hl 8 rfl) ?_
        refine an_iald (f := texts) hx hb hK hP 8 0 rfl rfl (by decide) (by omega) dX0_sumOf_26 ?_
        refine lv_iload hx hb dX0_sumOf_27 (lv_at hl 7 rfl) ?_
        refine ro_call (va_runV (As := [.int (nI (counting)), .int (nI (custom)), .int (texts (fr + i)), .int (ahd texts fr i)]) (rest := [.int (smv values counting custom texts fr i)]) ⟨hx, hb, hml, hown, hts⟩ (c_X0_worthOf l (g := g) (asked := asked) (values := values) (bytes := bytes) (starts := starts) (ends := ends) (length := length) (parts := parts) (texts := texts) (lengths := lengths) (feet := feet) (sorts := sorts) (nxt := nxt) (size := size) (sums := sums) (oneSums := oneSums) (otherSums := otherSums) (byFeet := byFeet) (kept := kept) (over := over) (rcount := rcount) (rcust := rcust) (ssums := ssums) (ways := ways) (nextWays := nextWays) (reached := reached) (nextReached := nextReached) (found := found) (least := least) (greatest := greatest) (counting) (custom) (texts (fr + i)) (ahd texts fr i) hc hk) (cwV 4 hts gX0_sumOf_X0_worthOf rfl rfl rfl (by decide +kernel) ⟨Nat.le_of_ble_eq_true rfl, Nat.le_of_ble_eq_true rfl⟩) (pre_V pW_bl (va_recv hK hP (ci := 0) (q0 := 1) rfl rfl) (fun U hU hW => pW_of hP hK hN hU hW)) rfl rfl hl.1 rfl (lv_room (Nat.le_of_ble_eq_true rfl)) dX0_sumOf_29 ⟨Nat.zero_le _, Nat.zero_le _⟩) ?_
        refine lv_iadd hx hb dX0_sumOf_32 ?_
        refine lv_istore (lv' := [(6, .int ((smv values counting custom texts fr i) + (wv values (counting) (custom) (texts (fr + i)) (ahd texts fr i)))), (0, .ref (g.2.2 1)), (1, .int (nI (counting))), (2, .int (nI (custom))), (3, .ref (g.2.2 8)), (4, .int (nI (fr))), (5, .int (nI (to))), (7, .int (ahd texts fr i)), (8, .int (nI (fr + i)))]) hx hb dX0_sumOf_33 hl (by decide) rfl (fun ls hl => ?_)
        refine lv_aload_n hx hb dX0_sumOf_35 rfl (lv_at hl 4 rfl) ?_
        refine lv_iload hx hb dX0_sumOf_36 (lv_at hl 8 rfl) ?_
        refine an_iald (f := texts) hx hb hK hP 8 0 rfl rfl (by decide) (by omega) dX0_sumOf_38 ?_
        refine lv_istore (lv' := [(7, .int (texts (fr + i))), (6, .int ((smv values counting custom texts fr i) + (wv values (counting) (custom) (texts (fr + i)) (ahd texts fr i)))), (0, .ref (g.2.2 1)), (1, .int (nI (counting))), (2, .int (nI (custom))), (3, .ref (g.2.2 8)), (4, .int (nI (fr))), (5, .int (nI (to))), (8, .int (nI (fr + i)))]) hx hb dX0_sumOf_39 hl (by decide) rfl (fun ls hl => ?_)
        refine lv_iinc (v := (nI ((fr + i) + 1))) (lv' := [(8, .int (nI ((fr + i) + 1))), (7, .int (texts (fr + i))), (6, .int ((smv values counting custom texts fr i) + (wv values (counting) (custom) (texts (fr + i)) (ahd texts fr i)))), (0, .ref (g.2.2 1)), (1, .int (nI (counting))), (2, .int (nI (custom))), (3, .ref (g.2.2 8)), (4, .int (nI (fr))), (5, .int (nI (to)))]) hx hb dX0_sumOf_41 hl (k := 8) rfl (nI_add _ 1) (by decide) rfl (fun ls hl => ?_)
        refine lv_goto (tgt := 11) hx hb dX0_sumOf_44 (by decide) ?_
        exact ih_11 (i + 1) (by omega) (by omega) ls (lv_sub hl [3, 4, 5, 6, 7, 8, 2, 1, 0] rfl)
  exact lp_11 (to - fr - (0) + 1) 0 (by omega) (Nat.lt_succ_self _) ls (lv_sub hl [3, 4, 5, 6, 7, 8, 2, 1, 0] rfl)
end
section
theorem iw_X4_mayCome_X4 : ∀ w ∈ u_ws RX4 TX4 6, w ∈ wsX4_mayCome := by decide +kernel
theorem fl_X4_mayCome_21 : Cond.fieldLink RX4 21 (TX4 3).1 (TX4 3).2.1 (TX4 3).2.2.1 ∈ wsX4_mayCome := by decide +kernel
theorem fl_X4_mayCome_24 : Cond.fieldLink RX4 24 (TX4 4).1 (TX4 4).2.1 (TX4 4).2.2.1 ∈ wsX4_mayCome := by decide +kernel
set_option maxHeartbeats 200000 in
set_option maxRecDepth 100000 in
theorem c_X4_mayCome (l : Launch) {g : GW} {asked : Int64} {values : Nat → Int32} {bytes : Nat → Int32} {starts : Nat → Int32} {ends : Nat → Int32} {length : Int32} {parts : Int32} {texts : Nat → Int32} {lengths : Nat → Int32} {feet : Nat → Int32} {sorts : Nat → Int32} {nxt : Nat → Int32} {size : Int32} {sums : Nat → Int32} {oneSums : Nat → Int32} {otherSums : Nat → Int32} {byFeet : Nat → Int64} {kept : Nat → Int64} {over : Int32} {rcount : Int32} {rcust : Int32} {ssums : Nat → Int32} {ways : Nat → Int64} {nextWays : Nat → Int64} {reached : Nat → Int64} {nextReached : Nat → Int64} {found : Int32} {least : Int32} {greatest : Int32} (behind : Nat) (vocable : Nat) (hc : behind < 4) (hk : vocable < 10) : Met l yX4_mayCome wsX4_mayCome ({ frames := 0, cells := 0, slots := 0, locals := 0 }) (va_Pc ([.ref (g.2.2 7), .int (nI (behind)), .int (nI (vocable))]) (pW g (wX g asked values bytes starts ends length parts texts lengths feet sorts nxt size sums oneSums otherSums byFeet kept over rcount rcust ssums ways nextWays reached nextReached found least greatest))) (ro_Q (.int (if mcy nxt sorts behind vocable then 1 else 0))) 0 0 (fun _ => False) := by
  refine Met.ofW (cc := cX4_mayCome) (maxL := 3) (ret := (some .boolean)) (by decide) rfl ?_
  intro p e s m args below meth c s₁ B hml hv
  obtain ⟨rfl, hP, hK, hN⟩ := hv
  have hx := B.exec
  have hb := B.bytes
  have hr := B.returns
  have hts := atoms_spec (ws := wsX4_mayCome) B.pre
  have hown : s.vm.findClass RX4 = some m.cls := findClass_of_methodNamed B.named
  have hlocks := B.notSynchronized
  have hl := lv_entry ([.ref (g.2.2 7), .int (nI (behind)), .int (nI (vocable))]) (n := 3) (Nat.le_of_ble_eq_true rfl)
  rw [lg_entry_eq]
  generalize (lg_sl ([.ref (g.2.2 7), .int (nI (behind)), .int (nI (vocable))]) ++ List.replicate (3 - (lg_sl ([.ref (g.2.2 7), .int (nI (behind)), .int (nI (vocable))])).length) Slot.unset).toArray = ls at hl ⊢
  have hl : lv_has ls 3 [(0, .ref (g.2.2 7)), (1, .int (nI (behind))), (2, .int (nI (vocable)))] := hl
  refine lv_aload_n hx hb dX4_mayCome_0 rfl (lv_at hl 0 rfl) ?_
  refine an_get (ci := 4) (v := .ref (g.2.2 12)) (C := RX4) (T := TX4) (N := 6) hx hb hts iw_X4_mayCome_X4 hown hK hP 7 rfl rfl 4 (by decide) (hts _ fl_X4_mayCome_24) rfl dX4_mayCome_1 ?_
  refine lv_iload_n hx hb dX4_mayCome_4 rfl (lv_at hl 1 rfl) ?_
  refine an_iald (f := nxt) hx hb hK hP 12 0 rfl rfl (by decide) (by omega) dX4_mayCome_5 ?_
  refine lv_aload_n hx hb dX4_mayCome_6 rfl (lv_at hl 0 rfl) ?_
  refine an_get (ci := 4) (v := .ref (g.2.2 11)) (C := RX4) (T := TX4) (N := 6) hx hb hts iw_X4_mayCome_X4 hown hK hP 7 rfl rfl 3 (by decide) (hts _ fl_X4_mayCome_21) rfl dX4_mayCome_7 ?_
  refine lv_iload_n hx hb dX4_mayCome_10 rfl (lv_at hl 2 rfl) ?_
  refine an_iald (f := sorts) hx hb hK hP 11 0 rfl rfl (by decide) (by omega) dX4_mayCome_11 ?_
  refine lv_ishr hx hb dX4_mayCome_12 ?_
  refine lv_iconst (v := (nI (1))) hx hb dX4_mayCome_13 (by decide) ?_
  refine lv_iand hx hb dX4_mayCome_14 ?_
  refine lv_iconst (v := (nI (1))) hx hb dX4_mayCome_15 (by decide) ?_
  refine lv_icmp_ne (tgt := 23) hx hb dX4_mayCome_16 (by decide) (fun c_16 => ?_) (fun c_16 => ?_)
  · refine lv_iconst (v := (nI (0))) hx hb dX4_mayCome_23 (by decide) ?_
    exact ro_zret hx hb hr hlocks (rfl) (zero_if (by first | omega | assumption)) dX4_mayCome_24
  · refine lv_iconst (v := (nI (1))) hx hb dX4_mayCome_19 (by decide) ?_
    refine lv_goto (tgt := 24) hx hb dX4_mayCome_20 (by decide) ?_
    exact ro_zret hx hb hr hlocks (rfl) (one_if (by first | omega | assumption)) dX4_mayCome_24
theorem iw_X1_isWord_X1 : ∀ w ∈ u_ws RX1 TX1 5, w ∈ wsX1_isWord := by decide +kernel
theorem fl_X1_isWord_9 : Cond.fieldLink RX1 9 (TX1 0).1 (TX1 0).2.1 (TX1 0).2.2.1 ∈ wsX1_isWord := by decide +kernel
theorem fl_X1_isWord_21 : Cond.fieldLink RX1 21 (TX1 3).1 (TX1 3).2.1 (TX1 3).2.2.1 ∈ wsX1_isWord := by decide +kernel
set_option maxHeartbeats 200000 in
set_option maxRecDepth 100000 in
theorem c_X1_isWord (l : Launch) {g : GW} {asked : Int64} {values : Nat → Int32} {bytes : Nat → Int32} {starts : Nat → Int32} {ends : Nat → Int32} {L : Nat} {parts : Int32} {texts : Nat → Int32} {lengths : Nat → Int32} {feet : Nat → Int32} {sorts : Nat → Int32} {nxt : Nat → Int32} {size : Int32} {sums : Nat → Int32} {oneSums : Nat → Int32} {otherSums : Nat → Int32} {byFeet : Nat → Int64} {kept : Nat → Int64} {over : Int32} {rcount : Int32} {rcust : Int32} {ssums : Nat → Int32} {ways : Nat → Int64} {nextWays : Nat → Int64} {reached : Nat → Int64} {nextReached : Nat → Int64} {found : Int32} {least : Int32} {greatest : Int32} (hL2 : L ≤ 40) : Met l yX1_isWord wsX1_isWord ({ frames := 2, cells := 0, slots := 0, locals := 40 }) (va_Pc ([.ref (g.2.2 3)]) (pW g (wX g asked values bytes starts ends (nI (L)) parts texts lengths feet sorts nxt size sums oneSums otherSums byFeet kept over rcount rcust ssums ways nextWays reached nextReached found least greatest))) (ro_Q (.int (if wordy bytes L then 1 else 0))) 0 0 (fun _ => False) := by
  refine Met.ofW (cc := cX1_isWord) (maxL := 2) (ret := (some .boolean)) (by decide) rfl ?_
  intro p e s m args below meth c s₁ B hml hv
  obtain ⟨rfl, hP, hK, hN⟩ := hv
  have hx := B.exec
  have hb := B.bytes
  have hr := B.returns
  have hts := atoms_spec (ws := wsX1_isWord) B.pre
  have hown : s.vm.findClass RX1 = some m.cls := findClass_of_methodNamed B.named
  have hlocks := B.notSynchronized
  have hl := lv_entry ([.ref (g.2.2 3)]) (n := 2) (Nat.le_of_ble_eq_true rfl)
  rw [lg_entry_eq]
  generalize (lg_sl ([.ref (g.2.2 3)]) ++ List.replicate (2 - (lg_sl ([.ref (g.2.2 3)])).length) Slot.unset).toArray = ls at hl ⊢
  have hl : lv_has ls 2 [(0, .ref (g.2.2 3))] := hl
  refine lv_aload_n hx hb dX1_isWord_0 rfl (lv_at hl 0 rfl) ?_
  refine an_get (ci := 1) (v := .int (nI (L))) (C := RX1) (T := TX1) (N := 5) hx hb hts iw_X1_isWord_X1 hown hK hP 3 rfl rfl 3 (by decide) (hts _ fl_X1_isWord_21) rfl dX1_isWord_1 ?_
  refine lv_iconst (v := (nI (1))) hx hb dX1_isWord_4 (by decide) ?_
  refine lv_icmp_lt (tgt := 17) hx hb dX1_isWord_5 (by decide) (fun c_5 => ?_) (fun c_5 => ?_)
  · have c_5 := (cv_lt_nn (by omega) (by omega)).mp c_5
    refine lv_iconst (v := (nI (0))) hx hb dX1_isWord_17 (by decide) ?_
    exact ro_zret hx hb hr hlocks (rfl) (zero_if (fun q => absurd q.1 (by omega))) dX1_isWord_18
  · have c_5 := (not_congr (cv_lt_nn (by omega) (by omega))).mp c_5
    refine lv_aload_n hx hb dX1_isWord_8 rfl (lv_at hl 0 rfl) ?_
    refine an_get (ci := 1) (v := .int (nI (L))) (C := RX1) (T := TX1) (N := 5) hx hb hts iw_X1_isWord_X1 hown hK hP 3 rfl rfl 3 (by decide) (hts _ fl_X1_isWord_21) rfl dX1_isWord_9 ?_
    refine lv_bipush (v := (nI (8))) hx hb dX1_isWord_12 (by decide) ?_
    refine lv_icmp_le (tgt := 19) hx hb dX1_isWord_14 (by decide) (fun c_14 => ?_) (fun c_14 => ?_)
    · have c_14 := (cv_le_nn (by omega) (by omega)).mp c_14
      refine lv_iconst (v := (nI (0))) hx hb dX1_isWord_19 (by decide) ?_
      refine lv_istore_n (lv' := [(1, .int (nI (0))), (0, .ref (g.2.2 3))]) hx hb dX1_isWord_20 rfl hl (by decide) rfl (fun ls hl => ?_)
      have lp_21 : ∀ (n : Nat) (i : Nat), (i ≤ L) → (∀ j, j < i → letr (bytes j)) → L - i < n → ∀ (ls : Array Slot), lv_has ls 2 [(0, .ref (g.2.2 3)), (1, .int (nI (i)))] → W p l e (headSpec wsX1_isWord ({ frames := 2, cells := 0, slots := 0, locals := 40 })).room s m (([.ref (g.2.2 3)] : List Value).toArray) below meth c s.heap [] 0 0 (MQ below (ro_Q (.int (if wordy bytes L then 1 else 0))) (([.ref (g.2.2 3)] : List Value).toArray) s 0 0 (fun _ => False)) (F0 m 21 ls []) := by
        intro n
        induction n with
        | zero => intro i hi ho hm; exact absurd hm (Nat.not_lt_zero _)
        | succ n ih_21 =>
          intro i hi ho hm_21 ls hl
          refine lv_iload_n hx hb dX1_isWord_21 rfl (lv_at hl 1 rfl) ?_
          refine lv_aload_n hx hb dX1_isWord_22 rfl (lv_at hl 0 rfl) ?_
          refine an_get (ci := 1) (v := .int (nI (L))) (C := RX1) (T := TX1) (N := 5) hx hb hts iw_X1_isWord_X1 hown hK hP 3 rfl rfl 3 (by decide) (hts _ fl_X1_isWord_21) rfl dX1_isWord_23 ?_
          refine lv_icmp_ge (tgt := 49) hx hb dX1_isWord_26 (by decide) (fun c_26 => ?_) (fun c_26 => ?_)
          · have c_26 := (cv_le_nn (by omega) (by omega)).mp c_26
            refine lv_iconst (v := (nI (1))) hx hb dX1_isWord_49 (by decide) ?_
            exact ro_zret hx hb hr hlocks (rfl) (one_if ⟨by omega, fun k hk => ho k (by omega)⟩) dX1_isWord_50
          · have c_26 := (not_congr (cv_le_nn (by omega) (by omega))).mp c_26
            refine lv_aload_n hx hb dX1_isWord_29 rfl (lv_at hl 0 rfl) ?_
            refine an_get (ci := 1) (v := .ref (g.2.2 4)) (C := RX1) (T := TX1) (N := 5) hx hb hts iw_X1_isWord_X1 hown hK hP 3 rfl rfl 0 (by decide) (hts _ fl_X1_isWord_9) rfl dX1_isWord_30 ?_
            refine lv_iload_n hx hb dX1_isWord_33 rfl (lv_at hl 1 rfl) ?_
            refine an_iald (f := bytes) hx hb hK hP 4 0 rfl rfl (by decide) (by omega) dX1_isWord_34 ?_
            refine ro_call (va_runSN (As := [.int (bytes (i))]) (rest := []) ⟨hx, hb, hml, hown, hts⟩ (c_X5_isLetter l (bytes (i))) ⟨va_cnB 1 hts gX1_isWord_X5_isLetter_n35 rfl rfl rfl hN.2.2.2.1 (hts (.initialized RX5) (by decide +kernel)) (by decide +kernel) ⟨Nat.le_of_ble_eq_true rfl, Nat.le_of_ble_eq_true rfl⟩, hts (.static yX5_isLetter) (by decide +kernel), trivial⟩ pre_0 rfl rfl hl.1 rfl (lv_room (Nat.le_of_ble_eq_true rfl)) dX1_isWord_35 ⟨Nat.zero_le _, Nat.zero_le _⟩) ?_
            refine lv_if_ne (tgt := 43) hx hb dX1_isWord_38 (by decide) (fun c_38 => ?_) (fun c_38 => ?_)
            · have c_38 := if_p c_38
              refine lv_iinc (v := (nI (i + 1))) (lv' := [(1, .int (nI (i + 1))), (0, .ref (g.2.2 3))]) hx hb dX1_isWord_43 hl (k := 1) rfl (nI_add _ 1) (by decide) rfl (fun ls hl => ?_)
              refine lv_goto (tgt := 21) hx hb dX1_isWord_46 (by decide) ?_
              exact ih_21 (i + 1) (by omega) (lt_s ho c_38) (by omega) ls (lv_sub hl [1, 0] rfl)
            · have c_38 := if_n c_38
              refine lv_iconst (v := (nI (0))) hx hb dX1_isWord_41 (by decide) ?_
              exact ro_zret hx hb hr hlocks (rfl) (zero_if (fun q => absurd (q.2 i (by omega)) c_38)) dX1_isWord_42
      exact lp_21 (L - (0) + 1) 0 (Nat.zero_le _) (fun j hj => absurd hj (Nat.not_lt_zero j)) (Nat.lt_succ_self _) ls (lv_sub hl [1, 0] rfl)
    · have c_14 := (not_congr (cv_le_nn (by omega) (by omega))).mp c_14
      refine lv_iconst (v := (nI (0))) hx hb dX1_isWord_17 (by decide) ?_
      exact ro_zret hx hb hr hlocks (rfl) (zero_if (fun q => absurd q.1 (by omega))) dX1_isWord_18
theorem iw_X1_broken_X1 : ∀ w ∈ u_ws RX1 TX1 5, w ∈ wsX1_broken := by decide +kernel
theorem fl_X1_broken_9 : Cond.fieldLink RX1 9 (TX1 0).1 (TX1 0).2.1 (TX1 0).2.2.1 ∈ wsX1_broken := by decide +kernel
theorem fl_X1_broken_21 : Cond.fieldLink RX1 21 (TX1 3).1 (TX1 3).2.1 (TX1 3).2.2.1 ∈ wsX1_broken := by decide +kernel
set_option maxHeartbeats 200000 in
set_option maxRecDepth 100000 in
theorem c_X1_broken (l : Launch) {g : GW} {asked : Int64} {values : Nat → Int32} {bytes : Nat → Int32} {starts : Nat → Int32} {ends : Nat → Int32} {L : Nat} {parts : Int32} {texts : Nat → Int32} {lengths : Nat → Int32} {feet : Nat → Int32} {sorts : Nat → Int32} {nxt : Nat → Int32} {size : Int32} {sums : Nat → Int32} {oneSums : Nat → Int32} {otherSums : Nat → Int32} {byFeet : Nat → Int64} {kept : Nat → Int64} {over : Int32} {rcount : Int32} {rcust : Int32} {ssums : Nat → Int32} {ways : Nat → Int64} {nextWays : Nat → Int64} {reached : Nat → Int64} {nextReached : Nat → Int64} {found : Int32} {least : Int32} {greatest : Int32} (hL2 : L ≤ 40) : Met l yX1_broken wsX1_broken ({ frames := 0, cells := 0, slots := 0, locals := 0 }) (va_Pc ([.ref (g.2.2 3)]) (pW g (wX g asked values bytes starts ends (nI (L)) parts texts lengths feet sorts nxt size sums oneSums otherSums byFeet kept over rcount rcust ssums ways nextWays reached nextReached found least greatest))) (ro_Q (.int (nI (brk bytes L)))) 0 0 (fun _ => False) := by
  refine Met.ofW (cc := cX1_broken) (maxL := 3) (ret := (some .int)) (by decide) rfl ?_
  intro p e s m args below meth c s₁ B hml hv
  obtain ⟨rfl, hP, hK, hN⟩ := hv
  have hx := B.exec
  have hb := B.bytes
  have hr := B.returns
  have hts := atoms_spec (ws := wsX1_broken) B.pre
  have hown : s.vm.findClass RX1 = some m.cls := findClass_of_methodNamed B.named
  have hlocks := B.notSynchronized
  have hl := lv_entry ([.ref (g.2.2 3)]) (n := 3) (Nat.le_of_ble_eq_true rfl)
  rw [lg_entry_eq]
  generalize (lg_sl ([.ref (g.2.2 3)]) ++ List.replicate (3 - (lg_sl ([.ref (g.2.2 3)])).length) Slot.unset).toArray = ls at hl ⊢
  have hl : lv_has ls 3 [(0, .ref (g.2.2 3))] := hl
  refine lv_iconst (v := (nI (0))) hx hb dX1_broken_0 (by decide) ?_
  refine lv_istore_n (lv' := [(1, .int (nI (0))), (0, .ref (g.2.2 3))]) hx hb dX1_broken_1 rfl hl (by decide) rfl (fun ls hl => ?_)
  refine lv_iconst (v := (nI (0))) hx hb dX1_broken_2 (by decide) ?_
  refine lv_istore_n (lv' := [(2, .int (nI (0))), (1, .int (nI (0))), (0, .ref (g.2.2 3))]) hx hb dX1_broken_3 rfl hl (by decide) rfl (fun ls hl => ?_)
  have lp_4 : ∀ (n : Nat) (i : Nat), (i ≤ L) → L - i < n → ∀ (ls : Array Slot), lv_has ls 3 [(0, .ref (g.2.2 3)), (1, .int (nI (brk bytes i))), (2, .int (nI (i)))] → W p l e (headSpec wsX1_broken ({ frames := 0, cells := 0, slots := 0, locals := 0 })).room s m (([.ref (g.2.2 3)] : List Value).toArray) below meth c s.heap [] 0 0 (MQ below (ro_Q (.int (nI (brk bytes L)))) (([.ref (g.2.2 3)] : List Value).toArray) s 0 0 (fun _ => False)) (F0 m 4 ls []) := by
    intro n
    induction n with
    | zero => intro i hi hm; exact absurd hm (Nat.not_lt_zero _)
    | succ n ih_4 =>
      intro i hi hm_4 ls hl
      refine lv_iload_n hx hb dX1_broken_4 rfl (lv_at hl 2 rfl) ?_
      refine lv_aload_n hx hb dX1_broken_5 rfl (lv_at hl 0 rfl) ?_
      refine an_get (ci := 1) (v := .int (nI (L))) (C := RX1) (T := TX1) (N := 5) hx hb hts iw_X1_broken_X1 hown hK hP 3 rfl rfl 3 (by decide) (hts _ fl_X1_broken_21) rfl dX1_broken_6 ?_
      refine lv_icmp_ge (tgt := 32) hx hb dX1_broken_9 (by decide) (fun c_9 => ?_) (fun c_9 => ?_)
      · have c_9 := (cv_le_nn (by omega) (by omega)).mp c_9
        refine lv_iload_n hx hb dX1_broken_32 rfl (lv_at hl 1 rfl) ?_
        exact ro_iret hx hb hr hlocks (by rw [show L = i by omega]) dX1_broken_33
      · have c_9 := (not_congr (cv_le_nn (by omega) (by omega))).mp c_9
        refine lv_aload_n hx hb dX1_broken_12 rfl (lv_at hl 0 rfl) ?_
        refine an_get (ci := 1) (v := .ref (g.2.2 4)) (C := RX1) (T := TX1) (N := 5) hx hb hts iw_X1_broken_X1 hown hK hP 3 rfl rfl 0 (by decide) (hts _ fl_X1_broken_9) rfl dX1_broken_13 ?_
        refine lv_iload_n hx hb dX1_broken_16 rfl (lv_at hl 2 rfl) ?_
        refine an_iald (f := bytes) hx hb hK hP 4 0 rfl rfl (by decide) (by omega) dX1_broken_17 ?_
        refine lv_bipush (v := (nI (63))) hx hb dX1_broken_18 (by decide) ?_
        refine lv_icmp_ne (tgt := 26) hx hb dX1_broken_20 (by decide) (fun c_20 => ?_) (fun c_20 => ?_)
        · have c_20 := (not_congr (cv_eq_in (by omega))).mp c_20
          refine lv_iinc (v := (nI (i + 1))) (lv' := [(2, .int (nI (i + 1))), (0, .ref (g.2.2 3)), (1, .int (nI (brk bytes i)))]) hx hb dX1_broken_26 hl (k := 2) rfl (nI_add _ 1) (by decide) rfl (fun ls hl => ?_)
          refine lv_goto (tgt := 4) hx hb dX1_broken_29 (by decide) ?_
          rw [brk_n c_20] at hl
          exact ih_4 (i + 1) (by omega) (by omega) ls (lv_sub hl [1, 2, 0] rfl)
        · have c_20 := (cv_eq_in (by omega)).mp c_20
          refine lv_iinc (v := (nI ((brk bytes i) + 1))) (lv' := [(1, .int (nI ((brk bytes i) + 1))), (0, .ref (g.2.2 3)), (2, .int (nI (i)))]) hx hb dX1_broken_23 hl (k := 1) rfl (nI_add _ 1) (by decide) rfl (fun ls hl => ?_)
          refine lv_iinc (v := (nI (i + 1))) (lv' := [(2, .int (nI (i + 1))), (1, .int (nI ((brk bytes i) + 1))), (0, .ref (g.2.2 3))]) hx hb dX1_broken_26 hl (k := 2) rfl (nI_add _ 1) (by decide) rfl (fun ls hl => ?_)
          refine lv_goto (tgt := 4) hx hb dX1_broken_29 (by decide) ?_
          rw [brk_y c_20] at hl
          exact ih_4 (i + 1) (by omega) (by omega) ls (lv_sub hl [2, 1, 0] rfl)
  exact lp_4 (L - (0) + 1) 0 (Nat.zero_le _) (Nat.lt_succ_self _) ls (lv_sub hl [2, 1, 0] rfl)
set_option maxHeartbeats 200000 in
set_option maxRecDepth 100000 in
theorem c_X3_placeKept (l : Launch) (behind : Nat) (feet : Nat) (rest : Nat) (h1 : behind < 4) (h2 : feet < 9) (h3 : rest ≤ 3000) : Met l yX3_placeKept wsX3_placeKept ({ frames := 0, cells := 0, slots := 0, locals := 0 }) (va_Pc ([.int (nI (behind)), .int (nI (feet)), .int (nI (rest))]) (fun _ => True)) (ro_Q (.int (if behind < 3 ∧ feet ≤ 4 then nI (behind * 3001 + rest) else (-1 : Int32)))) 0 0 (fun _ => False) := by
  refine Met.ofW (cc := cX3_placeKept) (maxL := 3) (ret := (some .int)) (by decide) rfl ?_
  intro p e s m args below meth c s₁ B hml hv
  obtain ⟨rfl, -⟩ := hv
  have hx := B.exec
  have hb := B.bytes
  have hr := B.returns
  have hts := atoms_spec (ws := wsX3_placeKept) B.pre
  have hown : s.vm.findClass RX3 = some m.cls := findClass_of_methodNamed B.named
  have hlocks := B.notSynchronized
  have hl := lv_entry ([.int (nI (behind)), .int (nI (feet)), .int (nI (rest))]) (n := 3) (Nat.le_of_ble_eq_true rfl)
  rw [lg_entry_eq]
  generalize (lg_sl ([.int (nI (behind)), .int (nI (feet)), .int (nI (rest))]) ++ List.replicate (3 - (lg_sl ([.int (nI (behind)), .int (nI (feet)), .int (nI (rest))])).length) Slot.unset).toArray = ls at hl ⊢
  have hl : lv_has ls 3 [(0, .int (nI (behind))), (1, .int (nI (feet))), (2, .int (nI (rest)))] := hl
  refine lv_iload_n hx hb dX3_placeKept_0 rfl (lv_at hl 0 rfl) ?_
  refine lv_iconst (v := (nI (3))) hx hb dX3_placeKept_1 (by decide) ?_
  refine lv_icmp_ge (tgt := 10) hx hb dX3_placeKept_2 (by decide) (fun c_2 => ?_) (fun c_2 => ?_)
  · have c_2 := (cv_le_nn (by omega) (by omega)).mp c_2
    refine lv_iconst (v := ((-1 : Int32))) hx hb dX3_placeKept_10 (by decide) ?_
    exact ro_iret hx hb hr hlocks ((if_neg (by omega)).symm) dX3_placeKept_11
  · have c_2 := (not_congr (cv_le_nn (by omega) (by omega))).mp c_2
    refine lv_iload_n hx hb dX3_placeKept_5 rfl (lv_at hl 1 rfl) ?_
    refine lv_iconst (v := (nI (4))) hx hb dX3_placeKept_6 (by decide) ?_
    refine lv_icmp_le (tgt := 12) hx hb dX3_placeKept_7 (by decide) (fun c_7 => ?_) (fun c_7 => ?_)
    · have c_7 := (cv_le_nn (by omega) (by omega)).mp c_7
      refine lv_iload_n hx hb dX3_placeKept_12 rfl (lv_at hl 0 rfl) ?_
      refine lv_sipush (v := (nI (3001))) hx hb dX3_placeKept_13 (by decide) ?_
      refine ln_imul hx hb dX3_placeKept_16 ?_
      refine lv_iload_n hx hb dX3_placeKept_17 rfl (lv_at hl 2 rfl) ?_
      refine ln_iadd hx hb dX3_placeKept_18 ?_
      exact ro_iret hx hb hr hlocks ((if_pos (by omega)).symm) dX3_placeKept_19
    · have c_7 := (not_congr (cv_le_nn (by omega) (by omega))).mp c_7
      refine lv_iconst (v := ((-1 : Int32))) hx hb dX3_placeKept_10 (by decide) ?_
      exact ro_iret hx hb hr hlocks ((if_neg (by omega)).symm) dX3_placeKept_11
theorem iw_X5_sumOfDraft_X1 : ∀ w ∈ u_ws RX1 TX1 5, w ∈ wsX5_sumOfDraft := by decide +kernel
theorem iw_X5_sumOfDraft_X5 : ∀ w ∈ u_ws RX5 TX5 6, w ∈ wsX5_sumOfDraft := by decide +kernel
theorem fl_X5_sumOfDraft_10 : Cond.fieldLink RX5 10 (TX5 0).1 (TX5 0).2.1 (TX5 0).2.2.1 ∈ wsX5_sumOfDraft := by decide +kernel
theorem fl_X5_sumOfDraft_19 : Cond.fieldLink RX5 19 (TX5 1).1 (TX5 1).2.1 (TX5 1).2.2.1 ∈ wsX5_sumOfDraft := by decide +kernel
theorem fl_X5_sumOfDraft_82 : Cond.fieldLink RX5 82 (TX1 3).1 (TX1 3).2.1 (TX1 3).2.2.1 ∈ wsX5_sumOfDraft := by decide +kernel
theorem fl_X5_sumOfDraft_173 : Cond.fieldLink RX5 173 (TX1 0).1 (TX1 0).2.1 (TX1 0).2.2.1 ∈ wsX5_sumOfDraft := by decide +kernel
set_option maxHeartbeats 200000 in
set_option maxRecDepth 100000 in
theorem c_X5_sumOfDraft (l : Launch) {g : GW} {asked : Int64} {values : Nat → Int32} {bytes : Nat → Int32} {starts : Nat → Int32} {ends : Nat → Int32} {L : Nat} {parts : Int32} {texts : Nat → Int32} {lengths : Nat → Int32} {feet : Nat → Int32} {sorts : Nat → Int32} {nxt : Nat → Int32} {size : Int32} {sums : Nat → Int32} {oneSums : Nat → Int32} {otherSums : Nat → Int32} {byFeet : Nat → Int64} {kept : Nat → Int64} {over : Int32} {rcount : Int32} {rcust : Int32} {ssums : Nat → Int32} {ways : Nat → Int64} {nextWays : Nat → Int64} {reached : Nat → Int64} {nextReached : Nat → Int64} {found : Int32} {least : Int32} {greatest : Int32} (counting : Nat) (custom : Nat) (hc : counting < 3) (hk : custom < 4) (hL2 : L ≤ 40) : Met l yX5_sumOfDraft wsX5_sumOfDraft ({ frames := 4, cells := 0, slots := 0, locals := 92 }) (va_Pc ([.ref (g.2.2 0), .int (nI (counting)), .int (nI (custom))]) (pW g (wX g asked values bytes starts ends (nI (L)) parts texts lengths feet sorts nxt size sums oneSums otherSums byFeet kept over rcount rcust ssums ways nextWays reached nextReached found least greatest))) (ro_Q (.int (smv values counting custom bytes 0 L))) 0 0 (fun _ => False) := by
  refine Met.ofW (cc := cX5_sumOfDraft) (maxL := 3) (ret := (some .int)) (by decide) rfl ?_
  intro p e s m args below meth c s₁ B hml hv
  obtain ⟨rfl, hP, hK, hN⟩ := hv
  have hx := B.exec
  have hb := B.bytes
  have hr := B.returns
  have hts := atoms_spec (ws := wsX5_sumOfDraft) B.pre
  have hown : s.vm.findClass RX5 = some m.cls := findClass_of_methodNamed B.named
  have hlocks := B.notSynchronized
  have hl := lv_entry ([.ref (g.2.2 0), .int (nI (counting)), .int (nI (custom))]) (n := 3) (Nat.le_of_ble_eq_true rfl)
  rw [lg_entry_eq]
  generalize (lg_sl ([.ref (g.2.2 0), .int (nI (counting)), .int (nI (custom))]) ++ List.replicate (3 - (lg_sl ([.ref (g.2.2 0), .int (nI (counting)), .int (nI (custom))])).length) Slot.unset).toArray = ls at hl ⊢
  have hl : lv_has ls 3 [(0, .ref (g.2.2 0)), (1, .int (nI (counting))), (2, .int (nI (custom)))] := hl
  refine lv_aload_n hx hb dX5_sumOfDraft_0 rfl (lv_at hl 0 rfl) ?_
  refine an_get (ci := 5) (v := .ref (g.2.2 1)) (C := RX5) (T := TX5) (N := 6) hx hb hts iw_X5_sumOfDraft_X5 hown hK hP 0 rfl rfl 0 (by decide) (hts _ fl_X5_sumOfDraft_10) rfl dX5_sumOfDraft_1 ?_
  refine lv_iload_n hx hb dX5_sumOfDraft_4 rfl (lv_at hl 1 rfl) ?_
  refine lv_iload_n hx hb dX5_sumOfDraft_5 rfl (lv_at hl 2 rfl) ?_
  refine lv_aload_n hx hb dX5_sumOfDraft_6 rfl (lv_at hl 0 rfl) ?_
  refine an_get (ci := 5) (v := .ref (g.2.2 3)) (C := RX5) (T := TX5) (N := 6) hx hb hts iw_X5_sumOfDraft_X5 hown hK hP 0 rfl rfl 1 (by decide) (hts _ fl_X5_sumOfDraft_19) rfl dX5_sumOfDraft_7 ?_
  refine an_get (ci := 1) (v := .ref (g.2.2 4)) (C := RX1) (T := TX1) (N := 5) hx hb hts iw_X5_sumOfDraft_X1 hown hK hP 3 rfl rfl 0 (by decide) (hts _ fl_X5_sumOfDraft_173) rfl dX5_sumOfDraft_10 ?_
  refine lv_iconst (v := (nI (0))) hx hb dX5_sumOfDraft_13 (by decide) ?_
  refine lv_aload_n hx hb dX5_sumOfDraft_14 rfl (lv_at hl 0 rfl) ?_
  refine an_get (ci := 5) (v := .ref (g.2.2 3)) (C := RX5) (T := TX5) (N := 6) hx hb hts iw_X5_sumOfDraft_X5 hown hK hP 0 rfl rfl 1 (by decide) (hts _ fl_X5_sumOfDraft_19) rfl dX5_sumOfDraft_15 ?_
  refine an_get (ci := 1) (v := .int (nI (L))) (C := RX1) (T := TX1) (N := 5) hx hb hts iw_X5_sumOfDraft_X1 hown hK hP 3 rfl rfl 3 (by decide) (hts _ fl_X5_sumOfDraft_82) rfl dX5_sumOfDraft_18 ?_
  refine ro_call (va_runV (As := [.int (nI (counting)), .int (nI (custom)), .ref (g.2.2 4), .int (nI (0)), .int (nI (L))]) (rest := []) ⟨hx, hb, hml, hown, hts⟩ (c_X0_sumOf_bytes l (g := g) (asked := asked) (values := values) (bytes := bytes) (starts := starts) (ends := ends) (length := nI (L)) (parts := parts) (texts := texts) (lengths := lengths) (feet := feet) (sorts := sorts) (nxt := nxt) (size := size) (sums := sums) (oneSums := oneSums) (otherSums := otherSums) (byFeet := byFeet) (kept := kept) (over := over) (rcount := rcount) (rcust := rcust) (ssums := ssums) (ways := ways) (nextWays := nextWays) (reached := reached) (nextReached := nextReached) (found := found) (least := least) (greatest := greatest) (counting) (custom) (0) (L) hc hk (Nat.zero_le _) hL2) (cwV 5 hts gX5_sumOfDraft_X0_sumOf rfl rfl rfl (by decide +kernel) ⟨Nat.le_of_ble_eq_true rfl, Nat.le_of_ble_eq_true rfl⟩) (pre_V pW_bl (va_recv hK hP (ci := 0) (q0 := 1) rfl rfl) (fun U hU hW => pW_of hP hK hN hU hW)) rfl rfl hl.1 rfl (lv_room (Nat.le_of_ble_eq_true rfl)) dX5_sumOfDraft_21 ⟨Nat.zero_le _, Nat.zero_le _⟩) ?_
  exact ro_iret hx hb hr hlocks (rfl) dX5_sumOfDraft_24
end
section
theorem iw_X0_replace_X0 : ∀ w ∈ u_ws RX0 TX0 1, w ∈ wsX0_replace := by decide +kernel
theorem fl_X0_replace_9 : Cond.fieldLink RX0 9 (TX0 0).1 (TX0 0).2.1 (TX0 0).2.2.1 ∈ wsX0_replace := by decide +kernel
set_option maxHeartbeats 200000 in
set_option maxRecDepth 100000 in
theorem c_X0_replace (l : Launch) {g : GW} {asked : Int64} {values : Nat → Int32} {bytes : Nat → Int32} {starts : Nat → Int32} {ends : Nat → Int32} {length : Int32} {parts : Int32} {texts : Nat → Int32} {lengths : Nat → Int32} {feet : Nat → Int32} {sorts : Nat → Int32} {nxt : Nat → Int32} {size : Int32} {sums : Nat → Int32} {oneSums : Nat → Int32} {otherSums : Nat → Int32} {byFeet : Nat → Int64} {kept : Nat → Int64} {over : Int32} {rcount : Int32} {rcust : Int32} {ssums : Nat → Int32} {ways : Nat → Int64} {nextWays : Nat → Int64} {reached : Nat → Int64} {nextReached : Nat → Int64} {found : Int32} {least : Int32} {greatest : Int32} {sz : Nat} (custom : Nat) (letter : Nat) (v : Int32) (hc : custom < 4) (h1 : 97 ≤ letter) (h2 : letter ≤ 122) (hd : dW 25 g.2.2) : Met l yX0_replace wsX0_replace ({ frames := 0, cells := 0, slots := 0, locals := 0 }) (va_Pc ([.ref (g.2.2 1), .int (nI (custom)), .int (nI (letter)), .int (v)]) (qW g (wX g asked values bytes starts ends length parts texts lengths feet sorts nxt size sums oneSums otherSums byFeet kept over rcount rcust ssums ways nextWays reached nextReached found least greatest) sz)) (va_Qi (fun (r : Int32) (z : (Nat → Int32)) => r = values (26 * custom + (letter - 97)) ∧ z = upd values (26 * custom + (letter - 97)) v) (fun (z : (Nat → Int32)) (t : State) => va_P g.1 vwCl (wX g asked z bytes starts ends length parts texts lengths feet sorts nxt size sums oneSums otherSums byFeet kept over rcount rcust ssums ways nextWays reached nextReached found least greatest) t.heap) (aW 25 g.2.2 sz)) 0 0 (aW 25 g.2.2 sz) := by
  refine Met.ofW (cc := cX0_replace) (maxL := 6) (ret := (some .int)) (by decide) rfl ?_
  intro p e s m args below meth c s₁ B hml hv
  obtain ⟨rfl, hsz9, hP, hK, hN⟩ := hv
  subst hsz9
  have hx := B.exec
  have hb := B.bytes
  have hr := B.returns
  have hts := atoms_spec (ws := wsX0_replace) B.pre
  have hown : s.vm.findClass RX0 = some m.cls := findClass_of_methodNamed B.named
  have hlocks := B.notSynchronized
  have hS : va_S (aW 25 g.2.2 s.heap.size) s.heap s.heap [] := va_S.rf
  have hl := lv_entry ([.ref (g.2.2 1), .int (nI (custom)), .int (nI (letter)), .int (v)]) (n := 6) (Nat.le_of_ble_eq_true rfl)
  rw [lg_entry_eq]
  generalize (lg_sl ([.ref (g.2.2 1), .int (nI (custom)), .int (nI (letter)), .int (v)]) ++ List.replicate (6 - (lg_sl ([.ref (g.2.2 1), .int (nI (custom)), .int (nI (letter)), .int (v)])).length) Slot.unset).toArray = ls at hl ⊢
  have hl : lv_has ls 6 [(0, .ref (g.2.2 1)), (1, .int (nI (custom))), (2, .int (nI (letter))), (3, .int (v))] := hl
  refine lv_iload_n hx hb dX0_replace_0 rfl (lv_at hl 1 rfl) ?_
  refine lv_bipush (v := (nI (26))) hx hb dX0_replace_1 (by decide) ?_
  refine ln_imul hx hb dX0_replace_3 ?_
  refine lv_iload_n hx hb dX0_replace_4 rfl (lv_at hl 2 rfl) ?_
  refine ln_iadd hx hb dX0_replace_5 ?_
  refine lv_bipush (v := (nI (97))) hx hb dX0_replace_6 (by decide) ?_
  refine ln_isub hx hb (by omega) dX0_replace_8 ?_
  refine lv_istore (lv' := [(4, .int (nI (((custom * 26) + letter) - 97))), (0, .ref (g.2.2 1)), (1, .int (nI (custom))), (2, .int (nI (letter))), (3, .int (v))]) hx hb dX0_replace_9 hl (by decide) rfl (fun ls hl => ?_)
  refine lv_aload_n hx hb dX0_replace_11 rfl (lv_at hl 1 rfl) ?_
  refine an_get (ci := 0) (v := .ref (g.2.2 2)) (C := RX0) (T := TX0) (N := 1) hx hb hts iw_X0_replace_X0 hown hK hP 1 rfl rfl 0 (by decide) (hts _ fl_X0_replace_9) rfl dX0_replace_12 ?_
  refine lv_iload hx hb dX0_replace_15 (lv_at hl 0 rfl) ?_
  refine an_iald (f := values) hx hb hK hP 2 0 rfl rfl (by decide) (by omega) dX0_replace_17 ?_
  refine lv_istore (lv' := [(5, .int (values (((custom * 26) + letter) - 97))), (4, .int (nI (((custom * 26) + letter) - 97))), (0, .ref (g.2.2 1)), (1, .int (nI (custom))), (2, .int (nI (letter))), (3, .int (v))]) hx hb dX0_replace_18 hl (by decide) rfl (fun ls hl => ?_)
  refine lv_aload_n hx hb dX0_replace_20 rfl (lv_at hl 2 rfl) ?_
  refine an_get (ci := 0) (v := .ref (g.2.2 2)) (C := RX0) (T := TX0) (N := 1) hx hb hts iw_X0_replace_X0 hown hK hP 1 rfl rfl 0 (by decide) (hts _ fl_X0_replace_9) rfl dX0_replace_21 ?_
  refine lv_iload hx hb dX0_replace_24 (lv_at hl 1 rfl) ?_
  refine lv_iload_n hx hb dX0_replace_26 rfl (lv_at hl 5 rfl) ?_
  refine an_iast (f := values) (ws' := (wX g asked (upd (values) (((custom * 26) + letter) - 97) (v)) bytes starts ends length parts texts lengths feet sorts nxt size sums oneSums otherSums byFeet kept over rcount rcust ssums ways nextWays reached nextReached found least greatest)) hx hb hK hP (wX_D hd) hS 2 0 rfl rfl (by decide) (by omega) rfl dX0_replace_27 (fun H locs hP hS => ?_)
  refine lv_iload hx hb dX0_replace_28 (lv_at hl 0 rfl) ?_
  exact wr_iret (upd (values) (((custom * 26) + letter) - 97) (v)) hx hb hr hlocks (by rw [show 26 * custom + (letter - 97) = custom * 26 + letter - 97 by omega]; exact ⟨rfl, rfl⟩) (fun t ht => show va_P g.1 vwCl (wX g asked (upd (values) (((custom * 26) + letter) - 97) (v)) bytes starts ends length parts texts lengths feet sorts nxt size sums oneSums otherSums byFeet kept over rcount rcust ssums ways nextWays reached nextReached found least greatest) t.heap by rw [ht]; exact hP) hS dX0_replace_30
theorem iw_X3_forget_X3 : ∀ w ∈ u_ws RX3 TX3 10, w ∈ wsX3_forget := by decide +kernel
theorem fl_X3_forget_28 : Cond.fieldLink RX3 28 (TX3 7).1 (TX3 7).2.1 (TX3 7).2.2.1 ∈ wsX3_forget := by decide +kernel
set_option maxHeartbeats 200000 in
set_option maxRecDepth 100000 in
theorem c_X3_forget (l : Launch) {g : GW} {asked : Int64} {values : Nat → Int32} {bytes : Nat → Int32} {starts : Nat → Int32} {ends : Nat → Int32} {length : Int32} {parts : Int32} {texts : Nat → Int32} {lengths : Nat → Int32} {feet : Nat → Int32} {sorts : Nat → Int32} {nxt : Nat → Int32} {size : Int32} {sums : Nat → Int32} {oneSums : Nat → Int32} {otherSums : Nat → Int32} {byFeet : Nat → Int64} {kept : Nat → Int64} {over : Int32} {rcount : Int32} {rcust : Int32} {ssums : Nat → Int32} {ways : Nat → Int64} {nextWays : Nat → Int64} {reached : Nat → Int64} {nextReached : Nat → Int64} {found : Int32} {least : Int32} {greatest : Int32} {sz : Nat}  (hd : dW 25 g.2.2) : Met l yX3_forget wsX3_forget ({ frames := 0, cells := 0, slots := 0, locals := 0 }) (va_Pc ([.ref (g.2.2 13)]) (qW g (wX g asked values bytes starts ends length parts texts lengths feet sorts nxt size sums oneSums otherSums byFeet kept over rcount rcust ssums ways nextWays reached nextReached found least greatest) sz)) (va_Qv (fun (z : Int32) => z = nI 1) (fun (z : Int32) (t : State) => va_P g.1 vwCl (wX g asked values bytes starts ends length parts texts lengths feet sorts nxt size sums oneSums otherSums byFeet kept z rcount rcust ssums ways nextWays reached nextReached found least greatest) t.heap) (aW 25 g.2.2 sz)) 0 0 (aW 25 g.2.2 sz) := by
  refine Met.ofW (cc := cX3_forget) (maxL := 1) (ret := none) (by decide) rfl ?_
  intro p e s m args below meth c s₁ B hml hv
  obtain ⟨rfl, hsz9, hP, hK, hN⟩ := hv
  subst hsz9
  have hx := B.exec
  have hb := B.bytes
  have hr := B.returns
  have hts := atoms_spec (ws := wsX3_forget) B.pre
  have hown : s.vm.findClass RX3 = some m.cls := findClass_of_methodNamed B.named
  have hlocks := B.notSynchronized
  have hS : va_S (aW 25 g.2.2 s.heap.size) s.heap s.heap [] := va_S.rf
  have hl := lv_entry ([.ref (g.2.2 13)]) (n := 1) (Nat.le_of_ble_eq_true rfl)
  rw [lg_entry_eq]
  generalize (lg_sl ([.ref (g.2.2 13)]) ++ List.replicate (1 - (lg_sl ([.ref (g.2.2 13)])).length) Slot.unset).toArray = ls at hl ⊢
  have hl : lv_has ls 1 [(0, .ref (g.2.2 13))] := hl
  refine lv_aload_n hx hb dX3_forget_0 rfl (lv_at hl 0 rfl) ?_
  refine lv_iconst (v := (nI (1))) hx hb dX3_forget_1 (by decide) ?_
  refine an_put (ci := 3) (v := .int (nI (1))) (ty := .boolean) (C := RX3) (T := TX3) (N := 10) (ws' := (wX g asked values bytes starts ends length parts texts lengths feet sorts nxt size sums oneSums otherSums byFeet kept ((nI (1))) rcount rcust ssums ways nextWays reached nextReached found least greatest)) hx hb hts iw_X3_forget_X3 tyX3 tyX3_ok nmX3 hown hK hP (wX_D hd) hS 13 rfl rfl 7 (by decide) (hts _ fl_X3_forget_28) rfl (by decide +kernel) (rfl) (rfl) (Nat.le_of_ble_eq_true rfl) rfl dX3_forget_2 (fun H locs hP hS => ?_)
  exact wr_vret ((nI (1))) hx hb hr hlocks (rfl) (fun t ht => show va_P g.1 vwCl (wX g asked values bytes starts ends length parts texts lengths feet sorts nxt size sums oneSums otherSums byFeet kept ((nI (1))) rcount rcust ssums ways nextWays reached nextReached found least greatest) t.heap by rw [ht]; exact hP) hS dX3_forget_5
theorem iw_X1_wipe_X1 : ∀ w ∈ u_ws RX1 TX1 5, w ∈ wsX1_wipe := by decide +kernel
theorem fl_X1_wipe_21 : Cond.fieldLink RX1 21 (TX1 3).1 (TX1 3).2.1 (TX1 3).2.2.1 ∈ wsX1_wipe := by decide +kernel
theorem fl_X1_wipe_32 : Cond.fieldLink RX1 32 (TX1 4).1 (TX1 4).2.1 (TX1 4).2.2.1 ∈ wsX1_wipe := by decide +kernel
set_option maxHeartbeats 200000 in
set_option maxRecDepth 100000 in
theorem c_X1_wipe (l : Launch) {g : GW} {asked : Int64} {values : Nat → Int32} {bytes : Nat → Int32} {starts : Nat → Int32} {ends : Nat → Int32} {length : Int32} {parts : Int32} {texts : Nat → Int32} {lengths : Nat → Int32} {feet : Nat → Int32} {sorts : Nat → Int32} {nxt : Nat → Int32} {size : Int32} {sums : Nat → Int32} {oneSums : Nat → Int32} {otherSums : Nat → Int32} {byFeet : Nat → Int64} {kept : Nat → Int64} {over : Int32} {rcount : Int32} {rcust : Int32} {ssums : Nat → Int32} {ways : Nat → Int64} {nextWays : Nat → Int64} {reached : Nat → Int64} {nextReached : Nat → Int64} {found : Int32} {least : Int32} {greatest : Int32} {sz : Nat}  (hd : dW 25 g.2.2) : Met l yX1_wipe wsX1_wipe ({ frames := 0, cells := 0, slots := 0, locals := 0 }) (va_Pc ([.ref (g.2.2 3)]) (qW g (wX g asked values bytes starts ends length parts texts lengths feet sorts nxt size sums oneSums otherSums byFeet kept over rcount rcust ssums ways nextWays reached nextReached found least greatest) sz)) (va_Qv (fun (z : Int32 × Int32) => z.1 = nI 0 ∧ z.2 = nI 0) (fun (z : Int32 × Int32) (t : State) => va_P g.1 vwCl (wX g asked values bytes starts ends (z.1) (z.2) texts lengths feet sorts nxt size sums oneSums otherSums byFeet kept over rcount rcust ssums ways nextWays reached nextReached found least greatest) t.heap) (aW 25 g.2.2 sz)) 0 0 (aW 25 g.2.2 sz) := by
  refine Met.ofW (cc := cX1_wipe) (maxL := 1) (ret := none) (by decide) rfl ?_
  intro p e s m args below meth c s₁ B hml hv
  obtain ⟨rfl, hsz9, hP, hK, hN⟩ := hv
  subst hsz9
  have hx := B.exec
  have hb := B.bytes
  have hr := B.returns
  have hts := atoms_spec (ws := wsX1_wipe) B.pre
  have hown : s.vm.findClass RX1 = some m.cls := findClass_of_methodNamed B.named
  have hlocks := B.notSynchronized
  have hS : va_S (aW 25 g.2.2 s.heap.size) s.heap s.heap [] := va_S.rf
  have hl := lv_entry ([.ref (g.2.2 3)]) (n := 1) (Nat.le_of_ble_eq_true rfl)
  rw [lg_entry_eq]
  generalize (lg_sl ([.ref (g.2.2 3)]) ++ List.replicate (1 - (lg_sl ([.ref (g.2.2 3)])).length) Slot.unset).toArray = ls at hl ⊢
  have hl : lv_has ls 1 [(0, .ref (g.2.2 3))] := hl
  refine lv_aload_n hx hb dX1_wipe_0 rfl (lv_at hl 0 rfl) ?_
  refine lv_iconst (v := (nI (0))) hx hb dX1_wipe_1 (by decide) ?_
  refine an_put (ci := 1) (v := .int (nI (0))) (ty := .int) (C := RX1) (T := TX1) (N := 5) (ws' := (wX g asked values bytes starts ends ((nI (0))) parts texts lengths feet sorts nxt size sums oneSums otherSums byFeet kept over rcount rcust ssums ways nextWays reached nextReached found least greatest)) hx hb hts iw_X1_wipe_X1 tyX1 tyX1_ok nmX1 hown hK hP (wX_D hd) hS 3 rfl rfl 3 (by decide) (hts _ fl_X1_wipe_21) rfl (by decide +kernel) (rfl) (rfl) (Nat.le_of_ble_eq_true rfl) rfl dX1_wipe_2 (fun H locs hP hS => ?_)
  refine lv_aload_n hx hb dX1_wipe_5 rfl (lv_at hl 0 rfl) ?_
  refine lv_iconst (v := (nI (0))) hx hb dX1_wipe_6 (by decide) ?_
  refine an_put (ci := 1) (v := .int (nI (0))) (ty := .int) (C := RX1) (T := TX1) (N := 5) (ws' := (wX g asked values bytes starts ends ((nI (0))) ((nI (0))) texts lengths feet sorts nxt size sums oneSums otherSums byFeet kept over rcount rcust ssums ways nextWays reached nextReached found least greatest)) hx hb hts iw_X1_wipe_X1 tyX1 tyX1_ok nmX1 hown hK hP (wX_D hd) hS 3 rfl rfl 4 (by decide) (hts _ fl_X1_wipe_32) rfl (by decide +kernel) (rfl) (rfl) (Nat.le_of_ble_eq_true rfl) rfl dX1_wipe_7 (fun H locs hP hS => ?_)
  exact wr_vret ((nI (0)), (nI (0))) hx hb hr hlocks (⟨rfl, rfl⟩) (fun t ht => show va_P g.1 vwCl (wX g asked values bytes starts ends ((nI (0))) ((nI (0))) texts lengths feet sorts nxt size sums oneSums otherSums byFeet kept over rcount rcust ssums ways nextWays reached nextReached found least greatest) t.heap by rw [ht]; exact hP) hS dX1_wipe_10
theorem iw_X4_take_X1 : ∀ w ∈ u_ws RX1 TX1 5, w ∈ wsX4_take := by decide +kernel
theorem iw_X4_take_X4 : ∀ w ∈ u_ws RX4 TX4 6, w ∈ wsX4_take := by decide +kernel
theorem fl_X4_take_9 : Cond.fieldLink RX4 9 (TX4 0).1 (TX4 0).2.1 (TX4 0).2.2.1 ∈ wsX4_take := by decide +kernel
theorem fl_X4_take_15 : Cond.fieldLink RX4 15 (TX4 1).1 (TX4 1).2.1 (TX4 1).2.2.1 ∈ wsX4_take := by decide +kernel
theorem fl_X4_take_18 : Cond.fieldLink RX4 18 (TX4 2).1 (TX4 2).2.1 (TX4 2).2.2.1 ∈ wsX4_take := by decide +kernel
theorem fl_X4_take_21 : Cond.fieldLink RX4 21 (TX4 3).1 (TX4 3).2.1 (TX4 3).2.2.1 ∈ wsX4_take := by decide +kernel
theorem fl_X4_take_33 : Cond.fieldLink RX4 33 (TX1 0).1 (TX1 0).2.1 (TX1 0).2.2.1 ∈ wsX4_take := by decide +kernel
theorem fl_X4_take_38 : Cond.fieldLink RX4 38 (TX4 5).1 (TX4 5).2.1 (TX4 5).2.2.1 ∈ wsX4_take := by decide +kernel
theorem fl_X4_take_42 : Cond.fieldLink RX4 42 (TX1 3).1 (TX1 3).2.1 (TX1 3).2.2.1 ∈ wsX4_take := by decide +kernel
set_option maxHeartbeats 200000 in
set_option maxRecDepth 100000 in
theorem c_X4_take (l : Launch) {g : GW} {asked : Int64} {values : Nat → Int32} {bytes : Nat → Int32} {starts : Nat → Int32} {ends : Nat → Int32} {L : Nat} {parts : Int32} {texts : Nat → Int32} {lengths : Nat → Int32} {feet : Nat → Int32} {sorts : Nat → Int32} {nxt : Nat → Int32} {nv : Nat} {sums : Nat → Int32} {oneSums : Nat → Int32} {otherSums : Nat → Int32} {byFeet : Nat → Int64} {kept : Nat → Int64} {over : Int32} {rcount : Int32} {rcust : Int32} {ssums : Nat → Int32} {ways : Nat → Int64} {nextWays : Nat → Int64} {reached : Nat → Int64} {nextReached : Nat → Int64} {found : Int32} {least : Int32} {greatest : Int32} {sz : Nat} (itsFeet : Int32) (itsSort : Int32) (hnv : nv < 10) (hL2 : L ≤ 8) (hd : dW 25 g.2.2) : Met l yX4_take wsX4_take ({ frames := 1, cells := 0, slots := 0, locals := 60 }) (va_Pc ([.ref (g.2.2 7), .ref (g.2.2 3), .int (itsFeet), .int (itsSort)]) (qW g (wX g asked values bytes starts ends (nI (L)) parts texts lengths feet sorts nxt (nI (nv)) sums oneSums otherSums byFeet kept over rcount rcust ssums ways nextWays reached nextReached found least greatest) sz)) (va_Qv (fun (z : (Nat → Int32) × (Nat → Int32) × (Nat → Int32) × (Nat → Int32) × Int32) => z.1 = va_cpy bytes texts 0 (nv * 8) L ∧ z.2.1 = upd lengths nv (nI L) ∧ z.2.2.1 = upd feet nv itsFeet ∧ z.2.2.2.1 = upd sorts nv itsSort ∧ z.2.2.2.2 = nI (nv + 1)) (fun (z : (Nat → Int32) × (Nat → Int32) × (Nat → Int32) × (Nat → Int32) × Int32) (t : State) => va_P g.1 vwCl (wX g asked values bytes starts ends (nI (L)) parts (z.1) (z.2.1) (z.2.2.1) (z.2.2.2.1) nxt (z.2.2.2.2) sums oneSums otherSums byFeet kept over rcount rcust ssums ways nextWays reached nextReached found least greatest) t.heap) (aW 25 g.2.2 sz)) 0 0 (aW 25 g.2.2 sz) := by
  refine Met.ofW (cc := cX4_take) (maxL := 4) (ret := none) (by decide) rfl ?_
  intro p e s m args below meth c s₁ B hml hv
  obtain ⟨rfl, hsz9, hP, hK, hN⟩ := hv
  subst hsz9
  have hx := B.exec
  have hb := B.bytes
  have hr := B.returns
  have hts := atoms_spec (ws := wsX4_take) B.pre
  have hown : s.vm.findClass RX4 = some m.cls := findClass_of_methodNamed B.named
  have hlocks := B.notSynchronized
  have hS : va_S (aW 25 g.2.2 s.heap.size) s.heap s.heap [] := va_S.rf
  have hl := lv_entry ([.ref (g.2.2 7), .ref (g.2.2 3), .int (itsFeet), .int (itsSort)]) (n := 4) (Nat.le_of_ble_eq_true rfl)
  rw [lg_entry_eq]
  generalize (lg_sl ([.ref (g.2.2 7), .ref (g.2.2 3), .int (itsFeet), .int (itsSort)]) ++ List.replicate (4 - (lg_sl ([.ref (g.2.2 7), .ref (g.2.2 3), .int (itsFeet), .int (itsSort)])).length) Slot.unset).toArray = ls at hl ⊢
  have hl : lv_has ls 4 [(0, .ref (g.2.2 7)), (1, .ref (g.2.2 3)), (2, .int (itsFeet)), (3, .int (itsSort))] := hl
  refine lv_aload_n hx hb dX4_take_0 rfl (lv_at hl 1 rfl) ?_
  refine an_get (ci := 1) (v := .ref (g.2.2 4)) (C := RX1) (T := TX1) (N := 5) hx hb hts iw_X4_take_X1 hown hK hP 3 rfl rfl 0 (by decide) (hts _ fl_X4_take_33) rfl dX4_take_1 ?_
  refine lv_iconst (v := (nI (0))) hx hb dX4_take_4 (by decide) ?_
  refine lv_aload_n hx hb dX4_take_5 rfl (lv_at hl 0 rfl) ?_
  refine an_get (ci := 4) (v := .ref (g.2.2 8)) (C := RX4) (T := TX4) (N := 6) hx hb hts iw_X4_take_X4 hown hK hP 7 rfl rfl 0 (by decide) (hts _ fl_X4_take_9) rfl dX4_take_6 ?_
  refine lv_aload_n hx hb dX4_take_9 rfl (lv_at hl 0 rfl) ?_
  refine an_get (ci := 4) (v := .int (nI (nv))) (C := RX4) (T := TX4) (N := 6) hx hb hts iw_X4_take_X4 hown hK hP 7 rfl rfl 5 (by decide) (hts _ fl_X4_take_38) rfl dX4_take_10 ?_
  refine lv_bipush (v := (nI (8))) hx hb dX4_take_13 (by decide) ?_
  refine ln_imul hx hb dX4_take_15 ?_
  refine lv_aload_n hx hb dX4_take_16 rfl (lv_at hl 1 rfl) ?_
  refine an_get (ci := 1) (v := .int (nI (L))) (C := RX1) (T := TX1) (N := 5) hx hb hts iw_X4_take_X1 hown hK hP 3 rfl rfl 3 (by decide) (hts _ fl_X4_take_42) rfl dX4_take_17 ?_
  refine an_copyi (f := bytes) (f1 := texts) (ws' := (wX g asked values bytes starts ends (nI (L)) parts (va_cpy (bytes) (texts) (0) (nv * 8) (L)) lengths feet sorts nxt (nI (nv)) sums oneSums otherSums byFeet kept over rcount rcust ssums ways nextWays reached nextReached found least greatest)) hx hb (by rw [hml]; exact hl.1.symm) hown (hts (.methodLink RX4 45 arraycopyName) (by decide +kernel)) (hts (.native arraycopyName) (by decide +kernel)) (hts (.static arraycopyName) (by decide +kernel)) (hts (.initialized "java/lang/System") (by decide +kernel)) hK hP (wX_D hd) hS 4 8 0 rfl rfl rfl (by omega) (by omega) (by omega) (by omega) (by omega) rfl (Nat.le_of_ble_eq_true rfl) (Nat.le_of_ble_eq_true rfl) dX4_take_20 (fun H locs hP hS => ?_)
  refine lv_aload_n hx hb dX4_take_23 rfl (lv_at hl 0 rfl) ?_
  refine an_get (ci := 4) (v := .ref (g.2.2 9)) (C := RX4) (T := TX4) (N := 6) hx hb hts iw_X4_take_X4 hown hK hP 7 rfl rfl 1 (by decide) (hts _ fl_X4_take_15) rfl dX4_take_24 ?_
  refine lv_aload_n hx hb dX4_take_27 rfl (lv_at hl 0 rfl) ?_
  refine an_get (ci := 4) (v := .int (nI (nv))) (C := RX4) (T := TX4) (N := 6) hx hb hts iw_X4_take_X4 hown hK hP 7 rfl rfl 5 (by decide) (hts _ fl_X4_take_38) rfl dX4_take_28 ?_
  refine lv_aload_n hx hb dX4_take_31 rfl (lv_at hl 1 rfl) ?_
  refine an_get (ci := 1) (v := .int (nI (L))) (C := RX1) (T := TX1) (N := 5) hx hb hts iw_X4_take_X1 hown hK hP 3 rfl rfl 3 (by decide) (hts _ fl_X4_take_42) rfl dX4_take_32 ?_
  refine an_iast (f := lengths) (ws' := (wX g asked values bytes starts ends (nI (L)) parts (va_cpy (bytes) (texts) (0) (nv * 8) (L)) (upd (lengths) (nv) (nI (L))) feet sorts nxt (nI (nv)) sums oneSums otherSums byFeet kept over rcount rcust ssums ways nextWays reached nextReached found least greatest)) hx hb hK hP (wX_D hd) hS 9 0 rfl rfl (by decide) (by omega) rfl dX4_take_35 (fun H locs hP hS => ?_)
  refine lv_aload_n hx hb dX4_take_36 rfl (lv_at hl 0 rfl) ?_
  refine an_get (ci := 4) (v := .ref (g.2.2 10)) (C := RX4) (T := TX4) (N := 6) hx hb hts iw_X4_take_X4 hown hK hP 7 rfl rfl 2 (by decide) (hts _ fl_X4_take_18) rfl dX4_take_37 ?_
  refine lv_aload_n hx hb dX4_take_40 rfl (lv_at hl 0 rfl) ?_
  refine an_get (ci := 4) (v := .int (nI (nv))) (C := RX4) (T := TX4) (N := 6) hx hb hts iw_X4_take_X4 hown hK hP 7 rfl rfl 5 (by decide) (hts _ fl_X4_take_38) rfl dX4_take_41 ?_
  refine lv_iload_n hx hb dX4_take_44 rfl (lv_at hl 2 rfl) ?_
  refine an_iast (f := feet) (ws' := (wX g asked values bytes starts ends (nI (L)) parts (va_cpy (bytes) (texts) (0) (nv * 8) (L)) (upd (lengths) (nv) (nI (L))) (upd (feet) (nv) (itsFeet)) sorts nxt (nI (nv)) sums oneSums otherSums byFeet kept over rcount rcust ssums ways nextWays reached nextReached found least greatest)) hx hb hK hP (wX_D hd) hS 10 0 rfl rfl (by decide) (by omega) rfl dX4_take_45 (fun H locs hP hS => ?_)
  refine lv_aload_n hx hb dX4_take_46 rfl (lv_at hl 0 rfl) ?_
  refine an_get (ci := 4) (v := .ref (g.2.2 11)) (C := RX4) (T := TX4) (N := 6) hx hb hts iw_X4_take_X4 hown hK hP 7 rfl rfl 3 (by decide) (hts _ fl_X4_take_21) rfl dX4_take_47 ?_
  refine lv_aload_n hx hb dX4_take_50 rfl (lv_at hl 0 rfl) ?_
  refine an_get (ci := 4) (v := .int (nI (nv))) (C := RX4) (T := TX4) (N := 6) hx hb hts iw_X4_take_X4 hown hK hP 7 rfl rfl 5 (by decide) (hts _ fl_X4_take_38) rfl dX4_take_51 ?_
  refine lv_iload_n hx hb dX4_take_54 rfl (lv_at hl 3 rfl) ?_
  refine an_iast (f := sorts) (ws' := (wX g asked values bytes starts ends (nI (L)) parts (va_cpy (bytes) (texts) (0) (nv * 8) (L)) (upd (lengths) (nv) (nI (L))) (upd (feet) (nv) (itsFeet)) (upd (sorts) (nv) (itsSort)) nxt (nI (nv)) sums oneSums otherSums byFeet kept over rcount rcust ssums ways nextWays reached nextReached found least greatest)) hx hb hK hP (wX_D hd) hS 11 0 rfl rfl (by decide) (by omega) rfl dX4_take_55 (fun H locs hP hS => ?_)
  refine lv_aload_n hx hb dX4_take_56 rfl (lv_at hl 0 rfl) ?_
  refine lv_dup hx hb dX4_take_57 rfl ?_
  refine an_get (ci := 4) (v := .int (nI (nv))) (C := RX4) (T := TX4) (N := 6) hx hb hts iw_X4_take_X4 hown hK hP 7 rfl rfl 5 (by decide) (hts _ fl_X4_take_38) rfl dX4_take_58 ?_
  refine lv_iconst (v := (nI (1))) hx hb dX4_take_61 (by decide) ?_
  refine ln_iadd hx hb dX4_take_62 ?_
  refine an_put (ci := 4) (v := .int (nI (nv + 1))) (ty := .int) (C := RX4) (T := TX4) (N := 6) (ws' := (wX g asked values bytes starts ends (nI (L)) parts (va_cpy (bytes) (texts) (0) (nv * 8) (L)) (upd (lengths) (nv) (nI (L))) (upd (feet) (nv) (itsFeet)) (upd (sorts) (nv) (itsSort)) nxt ((nI (nv + 1))) sums oneSums otherSums byFeet kept over rcount rcust ssums ways nextWays reached nextReached found least greatest)) hx hb hts iw_X4_take_X4 tyX4 tyX4_ok nmX4 hown hK hP (wX_D hd) hS 7 rfl rfl 5 (by decide) (hts _ fl_X4_take_38) rfl (by decide +kernel) (rfl) (rfl) (Nat.le_of_ble_eq_true rfl) rfl dX4_take_63 (fun H locs hP hS => ?_)
  exact wr_vret (va_cpy (bytes) (texts) (0) (nv * 8) (L), upd (lengths) (nv) (nI (L)), upd (feet) (nv) (itsFeet), upd (sorts) (nv) (itsSort), (nI (nv + 1))) hx hb hr hlocks (⟨rfl, rfl, rfl, rfl, rfl⟩) (fun t ht => show va_P g.1 vwCl (wX g asked values bytes starts ends (nI (L)) parts (va_cpy (bytes) (texts) (0) (nv * 8) (L)) (upd (lengths) (nv) (nI (L))) (upd (feet) (nv) (itsFeet)) (upd (sorts) (nv) (itsSort)) nxt ((nI (nv + 1))) sums oneSums otherSums byFeet kept over rcount rcust ssums ways nextWays reached nextReached found least greatest) t.heap by rw [ht]; exact hP) hS dX4_take_66
set_option maxHeartbeats 200000 in
set_option maxRecDepth 100000 in
theorem c_J7_fill_kept (l : Launch) {g : GW} {asked : Int64} {values : Nat → Int32} {bytes : Nat → Int32} {starts : Nat → Int32} {ends : Nat → Int32} {length : Int32} {parts : Int32} {texts : Nat → Int32} {lengths : Nat → Int32} {feet : Nat → Int32} {sorts : Nat → Int32} {nxt : Nat → Int32} {size : Int32} {sums : Nat → Int32} {oneSums : Nat → Int32} {otherSums : Nat → Int32} {byFeet : Nat → Int64} {kept : Nat → Int64} {over : Int32} {rcount : Int32} {rcust : Int32} {ssums : Nat → Int32} {ways : Nat → Int64} {nextWays : Nat → Int64} {reached : Nat → Int64} {nextReached : Nat → Int64} {found : Int32} {least : Int32} {greatest : Int32} {sz : Nat} (v : Nat)  (hd : dW 25 g.2.2) : Met l yJ7_fill_d0a16 wsJ7_fill_d0a16 ({ frames := 0, cells := 0, slots := 0, locals := 0 }) (va_Pc ([.ref (g.2.2 18), .long (lN (v))]) (qW g (wX g asked values bytes starts ends length parts texts lengths feet sorts nxt size sums oneSums otherSums byFeet kept over rcount rcust ssums ways nextWays reached nextReached found least greatest) sz)) (va_Qv (fun (z : (Nat → Int64)) => ∀ k, k < 9003 → z k = lN v) (fun (z : (Nat → Int64)) (t : State) => va_P g.1 vwCl (wX g asked values bytes starts ends length parts texts lengths feet sorts nxt size sums oneSums otherSums byFeet z over rcount rcust ssums ways nextWays reached nextReached found least greatest) t.heap) (aW 25 g.2.2 sz)) 0 0 (aW 25 g.2.2 sz) := by
  refine Met.ofW (cc := cJ7_fill_d0a16) (maxL := 5) (ret := none) (by decide) rfl ?_
  intro p e s m args below meth c s₁ B hml hv
  obtain ⟨rfl, hsz9, hP, hK, hN⟩ := hv
  subst hsz9
  have hx := B.exec
  have hb := B.bytes
  have hr := B.returns
  have hts := atoms_spec (ws := wsJ7_fill_d0a16) B.pre
  have hown : s.vm.findClass RJ7 = some m.cls := findClass_of_methodNamed B.named
  have hlocks := B.notSynchronized
  have hS : va_S (aW 25 g.2.2 s.heap.size) s.heap s.heap [] := va_S.rf
  have hl := lv_entry ([.ref (g.2.2 18), .long (lN (v))]) (n := 5) (Nat.le_of_ble_eq_true rfl)
  rw [lg_entry_eq]
  generalize (lg_sl ([.ref (g.2.2 18), .long (lN (v))]) ++ List.replicate (5 - (lg_sl ([.ref (g.2.2 18), .long (lN (v))])).length) Slot.unset).toArray = ls at hl ⊢
  have hl : lv_has ls 5 [(0, .ref (g.2.2 18)), (1, .long (lN (v)))] := hl
  refine lv_iconst (v := (nI (0))) hx hb dJ7_fill_d0a16_0 (by decide) ?_
  refine lv_istore_n (lv' := [(3, .int (nI (0))), (0, .ref (g.2.2 18)), (1, .long (lN (v)))]) hx hb dJ7_fill_d0a16_1 rfl hl (by decide) rfl (fun ls hl => ?_)
  refine lv_aload_n hx hb dJ7_fill_d0a16_2 rfl (lv_at hl 1 rfl) ?_
  refine va_alen (v := nI 9003) hx hb hK hP 18 1 rfl rfl rfl dJ7_fill_d0a16_3 ?_
  refine lv_istore (lv' := [(4, .int (nI (9003))), (3, .int (nI (0))), (0, .ref (g.2.2 18)), (1, .long (lN (v)))]) hx hb dJ7_fill_d0a16_4 hl (by decide) rfl (fun ls hl => ?_)
  have lp_6 : ∀ (n : Nat) (i : Nat) (u : Nat → Int64), (i ≤ 9003) → (∀ k, k < i → u k = lN v) → 9003 - i < n → ∀ (H : Heap) (locs : List Loc), va_P g.1 vwCl (wX g asked values bytes starts ends length parts texts lengths feet sorts nxt size sums oneSums otherSums byFeet u over rcount rcust ssums ways nextWays reached nextReached found least greatest) H → va_S (aW 25 g.2.2 s.heap.size) s.heap H locs → ∀ (ls : Array Slot), lv_has ls 5 [(0, .ref (g.2.2 18)), (1, .long (lN (v))), (3, .int (nI (i))), (4, .int (nI (9003)))] → W p l e (headSpec wsJ7_fill_d0a16 ({ frames := 0, cells := 0, slots := 0, locals := 0 })).room s m (([.ref (g.2.2 18), .long (lN (v))] : List Value).toArray) below meth c H locs 0 0 (MQ below (va_Qv (fun (z : (Nat → Int64)) => ∀ k, k < 9003 → z k = lN v) (fun (z : (Nat → Int64)) (t : State) => va_P g.1 vwCl (wX g asked values bytes starts ends length parts texts lengths feet sorts nxt size sums oneSums otherSums byFeet z over rcount rcust ssums ways nextWays reached nextReached found least greatest) t.heap) (aW 25 g.2.2 s.heap.size)) (([.ref (g.2.2 18), .long (lN (v))] : List Value).toArray) s 0 0 (aW 25 g.2.2 s.heap.size)) (F0 m 6 ls []) := by
    intro n
    induction n with
    | zero => intro i u hi hu hm; exact absurd hm (Nat.not_lt_zero _)
    | succ n ih_6 =>
      intro i u hi hu hm_6 H locs hP hS ls hl
      refine lv_iload_n hx hb dJ7_fill_d0a16_6 rfl (lv_at hl 2 rfl) ?_
      refine lv_iload hx hb dJ7_fill_d0a16_7 (lv_at hl 3 rfl) ?_
      refine lv_icmp_ge (tgt := 22) hx hb dJ7_fill_d0a16_9 (by decide) (fun c_9 => ?_) (fun c_9 => ?_)
      · have c_9 := (cv_le_nn (by omega) (by omega)).mp c_9
        exact wr_vret (u) hx hb hr hlocks (fun k hk => hu k (by omega)) (fun t ht => show va_P g.1 vwCl (wX g asked values bytes starts ends length parts texts lengths feet sorts nxt size sums oneSums otherSums byFeet u over rcount rcust ssums ways nextWays reached nextReached found least greatest) t.heap by rw [ht]; exact hP) hS dJ7_fill_d0a16_22
      · have c_9 := (not_congr (cv_le_nn (by omega) (by omega))).mp c_9
        refine lv_aload_n hx hb dJ7_fill_d0a16_12 rfl (lv_at hl 0 rfl) ?_
        refine lv_iload_n hx hb dJ7_fill_d0a16_13 rfl (lv_at hl 2 rfl) ?_
        refine lv_lload_n hx hb dJ7_fill_d0a16_14 rfl (lv_at hl 1 rfl) ?_
        refine an_last (f := u) (ws' := (wX g asked values bytes starts ends length parts texts lengths feet sorts nxt size sums oneSums otherSums byFeet (vp_updL (u) (i) (lN (v))) over rcount rcust ssums ways nextWays reached nextReached found least greatest)) hx hb hK hP (wX_D hd) hS 18 1 rfl rfl (by decide) (by omega) rfl dJ7_fill_d0a16_15 (fun H locs hP hS => ?_)
        refine lv_iinc (v := (nI (i + 1))) (lv' := [(3, .int (nI (i + 1))), (0, .ref (g.2.2 18)), (1, .long (lN (v))), (4, .int (nI (9003)))]) hx hb dJ7_fill_d0a16_16 hl (k := 2) rfl (nI_add _ 1) (by decide) rfl (fun ls hl => ?_)
        refine lv_goto (tgt := 6) hx hb dJ7_fill_d0a16_19 (by decide) ?_
        exact ih_6 (i + 1) (vp_updL u i (lN v)) (by omega) (fillL_s hu) (by omega) _ _ hP hS ls (lv_sub hl [1, 2, 0, 3] rfl)
  exact lp_6 (9003 - (0) + 1) 0 kept (Nat.zero_le _) (fun k hk => absurd hk (Nat.not_lt_zero k)) (Nat.lt_succ_self _) _ _ hP hS ls (lv_sub hl [2, 3, 1, 0] rfl)
set_option maxHeartbeats 200000 in
set_option maxRecDepth 100000 in
theorem c_J7_fill_ways (l : Launch) {g : GW} {asked : Int64} {values : Nat → Int32} {bytes : Nat → Int32} {starts : Nat → Int32} {ends : Nat → Int32} {length : Int32} {parts : Int32} {texts : Nat → Int32} {lengths : Nat → Int32} {feet : Nat → Int32} {sorts : Nat → Int32} {nxt : Nat → Int32} {size : Int32} {sums : Nat → Int32} {oneSums : Nat → Int32} {otherSums : Nat → Int32} {byFeet : Nat → Int64} {kept : Nat → Int64} {over : Int32} {rcount : Int32} {rcust : Int32} {ssums : Nat → Int32} {ways : Nat → Int64} {nextWays : Nat → Int64} {reached : Nat → Int64} {nextReached : Nat → Int64} {found : Int32} {least : Int32} {greatest : Int32} {sz : Nat} (v : Nat)  (hd : dW 25 g.2.2) : Met l yJ7_fill_d0a16 wsJ7_fill_d0a16 ({ frames := 0, cells := 0, slots := 0, locals := 0 }) (va_Pc ([.ref (g.2.2 21), .long (lN (v))]) (qW g (wX g asked values bytes starts ends length parts texts lengths feet sorts nxt size sums oneSums otherSums byFeet kept over rcount rcust ssums ways nextWays reached nextReached found least greatest) sz)) (va_Qv (fun (z : (Nat → Int64)) => ∀ k, k < 4 → z k = lN v) (fun (z : (Nat → Int64)) (t : State) => va_P g.1 vwCl (wX g asked values bytes starts ends length parts texts lengths feet sorts nxt size sums oneSums otherSums byFeet kept over rcount rcust ssums z nextWays reached nextReached found least greatest) t.heap) (aW 25 g.2.2 sz)) 0 0 (aW 25 g.2.2 sz) := by
  refine Met.ofW (cc := cJ7_fill_d0a16) (maxL := 5) (ret := none) (by decide) rfl ?_
  intro p e s m args below meth c s₁ B hml hv
  obtain ⟨rfl, hsz9, hP, hK, hN⟩ := hv
  subst hsz9
  have hx := B.exec
  have hb := B.bytes
  have hr := B.returns
  have hts := atoms_spec (ws := wsJ7_fill_d0a16) B.pre
  have hown : s.vm.findClass RJ7 = some m.cls := findClass_of_methodNamed B.named
  have hlocks := B.notSynchronized
  have hS : va_S (aW 25 g.2.2 s.heap.size) s.heap s.heap [] := va_S.rf
  have hl := lv_entry ([.ref (g.2.2 21), .long (lN (v))]) (n := 5) (Nat.le_of_ble_eq_true rfl)
  rw [lg_entry_eq]
  generalize (lg_sl ([.ref (g.2.2 21), .long (lN (v))]) ++ List.replicate (5 - (lg_sl ([.ref (g.2.2 21), .long (lN (v))])).length) Slot.unset).toArray = ls at hl ⊢
  have hl : lv_has ls 5 [(0, .ref (g.2.2 21)), (1, .long (lN (v)))] := hl
  refine lv_iconst (v := (nI (0))) hx hb dJ7_fill_d0a16_0 (by decide) ?_
  refine lv_istore_n (lv' := [(3, .int (nI (0))), (0, .ref (g.2.2 21)), (1, .long (lN (v)))]) hx hb dJ7_fill_d0a16_1 rfl hl (by decide) rfl (fun ls hl => ?_)
  refine lv_aload_n hx hb dJ7_fill_d0a16_2 rfl (lv_at hl 1 rfl) ?_
  refine va_alen (v := nI 4) hx hb hK hP 21 1 rfl rfl rfl dJ7_fill_d0a16_3 ?_
  refine lv_istore (lv' := [(4, .int (nI (4))), (3, .int (nI (0))), (0, .ref (g.2.2 21)), (1, .long (lN (v)))]) hx hb dJ7_fill_d0a16_4 hl (by decide) rfl (fun ls hl => ?_)
  have lp_6 : ∀ (n : Nat) (i : Nat) (u : Nat → Int64), (i ≤ 4) → (∀ k, k < i → u k = lN v) → 4 - i < n → ∀ (H : Heap) (locs : List Loc), va_P g.1 vwCl (wX g asked values bytes starts ends length parts texts lengths feet sorts nxt size sums oneSums otherSums byFeet kept over rcount rcust ssums u nextWays reached nextReached found least greatest) H → va_S (aW 25 g.2.2 s.heap.size) s.heap H locs → ∀ (ls : Array Slot), lv_has ls 5 [(0, .ref (g.2.2 21)), (1, .long (lN (v))), (3, .int (nI (i))), (4, .int (nI (4)))] → W p l e (headSpec wsJ7_fill_d0a16 ({ frames := 0, cells := 0, slots := 0, locals := 0 })).room s m (([.ref (g.2.2 21), .long (lN (v))] : List Value).toArray) below meth c H locs 0 0 (MQ below (va_Qv (fun (z : (Nat → Int64)) => ∀ k, k < 4 → z k = lN v) (fun (z : (Nat → Int64)) (t : State) => va_P g.1 vwCl (wX g asked values bytes starts ends length parts texts lengths feet sorts nxt size sums oneSums otherSums byFeet kept over rcount rcust ssums z nextWays reached nextReached found least greatest) t.heap) (aW 25 g.2.2 s.heap.size)) (([.ref (g.2.2 21), .long (lN (v))] : List Value).toArray) s 0 0 (aW 25 g.2.2 s.heap.size)) (F0 m 6 ls []) := by
    intro n
    induction n with
    | zero => intro i u hi hu hm; exact absurd hm (Nat.not_lt_zero _)
    | succ n ih_6 =>
      intro i u hi hu hm_6 H locs hP hS ls hl
      refine lv_iload_n hx hb dJ7_fill_d0a16_6 rfl (lv_at hl 2 rfl) ?_
      refine lv_iload hx hb dJ7_fill_d0a16_7 (lv_at hl 3 rfl) ?_
      refine lv_icmp_ge (tgt := 22) hx hb dJ7_fill_d0a16_9 (by decide) (fun c_9 => ?_) (fun c_9 => ?_)
      · have c_9 := (cv_le_nn (by omega) (by omega)).mp c_9
        exact wr_vret (u) hx hb hr hlocks (fun k hk => hu k (by omega)) (fun t ht => show va_P g.1 vwCl (wX g asked values bytes starts ends length parts texts lengths feet sorts nxt size sums oneSums otherSums byFeet kept over rcount rcust ssums u nextWays reached nextReached found least greatest) t.heap by rw [ht]; exact hP) hS dJ7_fill_d0a16_22
      · have c_9 := (not_congr (cv_le_nn (by omega) (by omega))).mp c_9
        refine lv_aload_n hx hb dJ7_fill_d0a16_12 rfl (lv_at hl 0 rfl) ?_
        refine lv_iload_n hx hb dJ7_fill_d0a16_13 rfl (lv_at hl 2 rfl) ?_
        refine lv_lload_n hx hb dJ7_fill_d0a16_14 rfl (lv_at hl 1 rfl) ?_
        refine an_last (f := u) (ws' := (wX g asked values bytes starts ends length parts texts lengths feet sorts nxt size sums oneSums otherSums byFeet kept over rcount rcust ssums (vp_updL (u) (i) (lN (v))) nextWays reached nextReached found least greatest)) hx hb hK hP (wX_D hd) hS 21 1 rfl rfl (by decide) (by omega) rfl dJ7_fill_d0a16_15 (fun H locs hP hS => ?_)
        refine lv_iinc (v := (nI (i + 1))) (lv' := [(3, .int (nI (i + 1))), (0, .ref (g.2.2 21)), (1, .long (lN (v))), (4, .int (nI (4)))]) hx hb dJ7_fill_d0a16_16 hl (k := 2) rfl (nI_add _ 1) (by decide) rfl (fun ls hl => ?_)
        refine lv_goto (tgt := 6) hx hb dJ7_fill_d0a16_19 (by decide) ?_
        exact ih_6 (i + 1) (vp_updL u i (lN v)) (by omega) (fillL_s hu) (by omega) _ _ hP hS ls (lv_sub hl [1, 2, 0, 3] rfl)
  exact lp_6 (4 - (0) + 1) 0 ways (Nat.zero_le _) (fun k hk => absurd hk (Nat.not_lt_zero k)) (Nat.lt_succ_self _) _ _ hP hS ls (lv_sub hl [2, 3, 1, 0] rfl)
set_option maxHeartbeats 200000 in
set_option maxRecDepth 100000 in
theorem c_J7_fill_nextWays (l : Launch) {g : GW} {asked : Int64} {values : Nat → Int32} {bytes : Nat → Int32} {starts : Nat → Int32} {ends : Nat → Int32} {length : Int32} {parts : Int32} {texts : Nat → Int32} {lengths : Nat → Int32} {feet : Nat → Int32} {sorts : Nat → Int32} {nxt : Nat → Int32} {size : Int32} {sums : Nat → Int32} {oneSums : Nat → Int32} {otherSums : Nat → Int32} {byFeet : Nat → Int64} {kept : Nat → Int64} {over : Int32} {rcount : Int32} {rcust : Int32} {ssums : Nat → Int32} {ways : Nat → Int64} {nextWays : Nat → Int64} {reached : Nat → Int64} {nextReached : Nat → Int64} {found : Int32} {least : Int32} {greatest : Int32} {sz : Nat} (v : Nat)  (hd : dW 25 g.2.2) : Met l yJ7_fill_d0a16 wsJ7_fill_d0a16 ({ frames := 0, cells := 0, slots := 0, locals := 0 }) (va_Pc ([.ref (g.2.2 22), .long (lN (v))]) (qW g (wX g asked values bytes starts ends length parts texts lengths feet sorts nxt size sums oneSums otherSums byFeet kept over rcount rcust ssums ways nextWays reached nextReached found least greatest) sz)) (va_Qv (fun (z : (Nat → Int64)) => ∀ k, k < 4 → z k = lN v) (fun (z : (Nat → Int64)) (t : State) => va_P g.1 vwCl (wX g asked values bytes starts ends length parts texts lengths feet sorts nxt size sums oneSums otherSums byFeet kept over rcount rcust ssums ways z reached nextReached found least greatest) t.heap) (aW 25 g.2.2 sz)) 0 0 (aW 25 g.2.2 sz) := by
  refine Met.ofW (cc := cJ7_fill_d0a16) (maxL := 5) (ret := none) (by decide) rfl ?_
  intro p e s m args below meth c s₁ B hml hv
  obtain ⟨rfl, hsz9, hP, hK, hN⟩ := hv
  subst hsz9
  have hx := B.exec
  have hb := B.bytes
  have hr := B.returns
  have hts := atoms_spec (ws := wsJ7_fill_d0a16) B.pre
  have hown : s.vm.findClass RJ7 = some m.cls := findClass_of_methodNamed B.named
  have hlocks := B.notSynchronized
  have hS : va_S (aW 25 g.2.2 s.heap.size) s.heap s.heap [] := va_S.rf
  have hl := lv_entry ([.ref (g.2.2 22), .long (lN (v))]) (n := 5) (Nat.le_of_ble_eq_true rfl)
  rw [lg_entry_eq]
  generalize (lg_sl ([.ref (g.2.2 22), .long (lN (v))]) ++ List.replicate (5 - (lg_sl ([.ref (g.2.2 22), .long (lN (v))])).length) Slot.unset).toArray = ls at hl ⊢
  have hl : lv_has ls 5 [(0, .ref (g.2.2 22)), (1, .long (lN (v)))] := hl
  refine lv_iconst (v := (nI (0))) hx hb dJ7_fill_d0a16_0 (by decide) ?_
  refine lv_istore_n (lv' := [(3, .int (nI (0))), (0, .ref (g.2.2 22)), (1, .long (lN (v)))]) hx hb dJ7_fill_d0a16_1 rfl hl (by decide) rfl (fun ls hl => ?_)
  refine lv_aload_n hx hb dJ7_fill_d0a16_2 rfl (lv_at hl 1 rfl) ?_
  refine va_alen (v := nI 4) hx hb hK hP 22 1 rfl rfl rfl dJ7_fill_d0a16_3 ?_
  refine lv_istore (lv' := [(4, .int (nI (4))), (3, .int (nI (0))), (0, .ref (g.2.2 22)), (1, .long (lN (v)))]) hx hb dJ7_fill_d0a16_4 hl (by decide) rfl (fun ls hl => ?_)
  have lp_6 : ∀ (n : Nat) (i : Nat) (u : Nat → Int64), (i ≤ 4) → (∀ k, k < i → u k = lN v) → 4 - i < n → ∀ (H : Heap) (locs : List Loc), va_P g.1 vwCl (wX g asked values bytes starts ends length parts texts lengths feet sorts nxt size sums oneSums otherSums byFeet kept over rcount rcust ssums ways u reached nextReached found least greatest) H → va_S (aW 25 g.2.2 s.heap.size) s.heap H locs → ∀ (ls : Array Slot), lv_has ls 5 [(0, .ref (g.2.2 22)), (1, .long (lN (v))), (3, .int (nI (i))), (4, .int (nI (4)))] → W p l e (headSpec wsJ7_fill_d0a16 ({ frames := 0, cells := 0, slots := 0, locals := 0 })).room s m (([.ref (g.2.2 22), .long (lN (v))] : List Value).toArray) below meth c H locs 0 0 (MQ below (va_Qv (fun (z : (Nat → Int64)) => ∀ k, k < 4 → z k = lN v) (fun (z : (Nat → Int64)) (t : State) => va_P g.1 vwCl (wX g asked values bytes starts ends length parts texts lengths feet sorts nxt size sums oneSums otherSums byFeet kept over rcount rcust ssums ways z reached nextReached found least greatest) t.heap) (aW 25 g.2.2 s.heap.size)) (([.ref (g.2.2 22), .long (lN (v))] : List Value).toArray) s 0 0 (aW 25 g.2.2 s.heap.size)) (F0 m 6 ls []) := by
    intro n
    induction n with
    | zero => intro i u hi hu hm; exact absurd hm (Nat.not_lt_zero _)
    | succ n ih_6 =>
      intro i u hi hu hm_6 H locs hP hS ls hl
      refine lv_iload_n hx hb dJ7_fill_d0a16_6 rfl (lv_at hl 2 rfl) ?_
      refine lv_iload hx hb dJ7_fill_d0a16_7 (lv_at hl 3 rfl) ?_
      refine lv_icmp_ge (tgt := 22) hx hb dJ7_fill_d0a16_9 (by decide) (fun c_9 => ?_) (fun c_9 => ?_)
      · have c_9 := (cv_le_nn (by omega) (by omega)).mp c_9
        exact wr_vret (u) hx hb hr hlocks (fun k hk => hu k (by omega)) (fun t ht => show va_P g.1 vwCl (wX g asked values bytes starts ends length parts texts lengths feet sorts nxt size sums oneSums otherSums byFeet kept over rcount rcust ssums ways u reached nextReached found least greatest) t.heap by rw [ht]; exact hP) hS dJ7_fill_d0a16_22
      · have c_9 := (not_congr (cv_le_nn (by omega) (by omega))).mp c_9
        refine lv_aload_n hx hb dJ7_fill_d0a16_12 rfl (lv_at hl 0 rfl) ?_
        refine lv_iload_n hx hb dJ7_fill_d0a16_13 rfl (lv_at hl 2 rfl) ?_
        refine lv_lload_n hx hb dJ7_fill_d0a16_14 rfl (lv_at hl 1 rfl) ?_
        refine an_last (f := u) (ws' := (wX g asked values bytes starts ends length parts texts lengths feet sorts nxt size sums oneSums otherSums byFeet kept over rcount rcust ssums ways (vp_updL (u) (i) (lN (v))) reached nextReached found least greatest)) hx hb hK hP (wX_D hd) hS 22 1 rfl rfl (by decide) (by omega) rfl dJ7_fill_d0a16_15 (fun H locs hP hS => ?_)
        refine lv_iinc (v := (nI (i + 1))) (lv' := [(3, .int (nI (i + 1))), (0, .ref (g.2.2 22)), (1, .long (lN (v))), (4, .int (nI (4)))]) hx hb dJ7_fill_d0a16_16 hl (k := 2) rfl (nI_add _ 1) (by decide) rfl (fun ls hl => ?_)
        refine lv_goto (tgt := 6) hx hb dJ7_fill_d0a16_19 (by decide) ?_
        exact ih_6 (i + 1) (vp_updL u i (lN v)) (by omega) (fillL_s hu) (by omega) _ _ hP hS ls (lv_sub hl [1, 2, 0, 3] rfl)
  exact lp_6 (4 - (0) + 1) 0 nextWays (Nat.zero_le _) (fun k hk => absurd hk (Nat.not_lt_zero k)) (Nat.lt_succ_self _) _ _ hP hS ls (lv_sub hl [2, 3, 1, 0] rfl)
set_option maxHeartbeats 200000 in
set_option maxRecDepth 100000 in
theorem c_J7_fill_reached (l : Launch) {g : GW} {asked : Int64} {values : Nat → Int32} {bytes : Nat → Int32} {starts : Nat → Int32} {ends : Nat → Int32} {length : Int32} {parts : Int32} {texts : Nat → Int32} {lengths : Nat → Int32} {feet : Nat → Int32} {sorts : Nat → Int32} {nxt : Nat → Int32} {size : Int32} {sums : Nat → Int32} {oneSums : Nat → Int32} {otherSums : Nat → Int32} {byFeet : Nat → Int64} {kept : Nat → Int64} {over : Int32} {rcount : Int32} {rcust : Int32} {ssums : Nat → Int32} {ways : Nat → Int64} {nextWays : Nat → Int64} {reached : Nat → Int64} {nextReached : Nat → Int64} {found : Int32} {least : Int32} {greatest : Int32} {sz : Nat} (v : Nat)  (hd : dW 25 g.2.2) : Met l yJ7_fill_d0a16 wsJ7_fill_d0a16 ({ frames := 0, cells := 0, slots := 0, locals := 0 }) (va_Pc ([.ref (g.2.2 23), .long (lN (v))]) (qW g (wX g asked values bytes starts ends length parts texts lengths feet sorts nxt size sums oneSums otherSums byFeet kept over rcount rcust ssums ways nextWays reached nextReached found least greatest) sz)) (va_Qv (fun (z : (Nat → Int64)) => ∀ k, k < 188 → z k = lN v) (fun (z : (Nat → Int64)) (t : State) => va_P g.1 vwCl (wX g asked values bytes starts ends length parts texts lengths feet sorts nxt size sums oneSums otherSums byFeet kept over rcount rcust ssums ways nextWays z nextReached found least greatest) t.heap) (aW 25 g.2.2 sz)) 0 0 (aW 25 g.2.2 sz) := by
  refine Met.ofW (cc := cJ7_fill_d0a16) (maxL := 5) (ret := none) (by decide) rfl ?_
  intro p e s m args below meth c s₁ B hml hv
  obtain ⟨rfl, hsz9, hP, hK, hN⟩ := hv
  subst hsz9
  have hx := B.exec
  have hb := B.bytes
  have hr := B.returns
  have hts := atoms_spec (ws := wsJ7_fill_d0a16) B.pre
  have hown : s.vm.findClass RJ7 = some m.cls := findClass_of_methodNamed B.named
  have hlocks := B.notSynchronized
  have hS : va_S (aW 25 g.2.2 s.heap.size) s.heap s.heap [] := va_S.rf
  have hl := lv_entry ([.ref (g.2.2 23), .long (lN (v))]) (n := 5) (Nat.le_of_ble_eq_true rfl)
  rw [lg_entry_eq]
  generalize (lg_sl ([.ref (g.2.2 23), .long (lN (v))]) ++ List.replicate (5 - (lg_sl ([.ref (g.2.2 23), .long (lN (v))])).length) Slot.unset).toArray = ls at hl ⊢
  have hl : lv_has ls 5 [(0, .ref (g.2.2 23)), (1, .long (lN (v)))] := hl
  refine lv_iconst (v := (nI (0))) hx hb dJ7_fill_d0a16_0 (by decide) ?_
  refine lv_istore_n (lv' := [(3, .int (nI (0))), (0, .ref (g.2.2 23)), (1, .long (lN (v)))]) hx hb dJ7_fill_d0a16_1 rfl hl (by decide) rfl (fun ls hl => ?_)
  refine lv_aload_n hx hb dJ7_fill_d0a16_2 rfl (lv_at hl 1 rfl) ?_
  refine va_alen (v := nI 188) hx hb hK hP 23 1 rfl rfl rfl dJ7_fill_d0a16_3 ?_
  refine lv_istore (lv' := [(4, .int (nI (188))), (3, .int (nI (0))), (0, .ref (g.2.2 23)), (1, .long (lN (v)))]) hx hb dJ7_fill_d0a16_4 hl (by decide) rfl (fun ls hl => ?_)
  have lp_6 : ∀ (n : Nat) (i : Nat) (u : Nat → Int64), (i ≤ 188) → (∀ k, k < i → u k = lN v) → 188 - i < n → ∀ (H : Heap) (locs : List Loc), va_P g.1 vwCl (wX g asked values bytes starts ends length parts texts lengths feet sorts nxt size sums oneSums otherSums byFeet kept over rcount rcust ssums ways nextWays u nextReached found least greatest) H → va_S (aW 25 g.2.2 s.heap.size) s.heap H locs → ∀ (ls : Array Slot), lv_has ls 5 [(0, .ref (g.2.2 23)), (1, .long (lN (v))), (3, .int (nI (i))), (4, .int (nI (188)))] → W p l e (headSpec wsJ7_fill_d0a16 ({ frames := 0, cells := 0, slots := 0, locals := 0 })).room s m (([.ref (g.2.2 23), .long (lN (v))] : List Value).toArray) below meth c H locs 0 0 (MQ below (va_Qv (fun (z : (Nat → Int64)) => ∀ k, k < 188 → z k = lN v) (fun (z : (Nat → Int64)) (t : State) => va_P g.1 vwCl (wX g asked values bytes starts ends length parts texts lengths feet sorts nxt size sums oneSums otherSums byFeet kept over rcount rcust ssums ways nextWays z nextReached found least greatest) t.heap) (aW 25 g.2.2 s.heap.size)) (([.ref (g.2.2 23), .long (lN (v))] : List Value).toArray) s 0 0 (aW 25 g.2.2 s.heap.size)) (F0 m 6 ls []) := by
    intro n
    induction n with
    | zero => intro i u hi hu hm; exact absurd hm (Nat.not_lt_zero _)
    | succ n ih_6 =>
      intro i u hi hu hm_6 H locs hP hS ls hl
      refine lv_iload_n hx hb dJ7_fill_d0a16_6 rfl (lv_at hl 2 rfl) ?_
      refine lv_iload hx hb dJ7_fill_d0a16_7 (lv_at hl 3 rfl) ?_
      refine lv_icmp_ge (tgt := 22) hx hb dJ7_fill_d0a16_9 (by decide) (fun c_9 => ?_) (fun c_9 => ?_)
      · have c_9 := (cv_le_nn (by omega) (by omega)).mp c_9
        exact wr_vret (u) hx hb hr hlocks (fun k hk => hu k (by omega)) (fun t ht => show va_P g.1 vwCl (wX g asked values bytes starts ends length parts texts lengths feet sorts nxt size sums oneSums otherSums byFeet kept over rcount rcust ssums ways nextWays u nextReached found least greatest) t.heap by rw [ht]; exact hP) hS dJ7_fill_d0a16_22
      · have c_9 := (not_congr (cv_le_nn (by omega) (by omega))).mp c_9
        refine lv_aload_n hx hb dJ7_fill_d0a16_12 rfl (lv_at hl 0 rfl) ?_
        refine lv_iload_n hx hb dJ7_fill_d0a16_13 rfl (lv_at hl 2 rfl) ?_
        refine lv_lload_n hx hb dJ7_fill_d0a16_14 rfl (lv_at hl 1 rfl) ?_
        refine an_last (f := u) (ws' := (wX g asked values bytes starts ends length parts texts lengths feet sorts nxt size sums oneSums otherSums byFeet kept over rcount rcust ssums ways nextWays (vp_updL (u) (i) (lN (v))) nextReached found least greatest)) hx hb hK hP (wX_D hd) hS 23 1 rfl rfl (by decide) (by omega) rfl dJ7_fill_d0a16_15 (fun H locs hP hS => ?_)
        refine lv_iinc (v := (nI (i + 1))) (lv' := [(3, .int (nI (i + 1))), (0, .ref (g.2.2 23)), (1, .long (lN (v))), (4, .int (nI (188)))]) hx hb dJ7_fill_d0a16_16 hl (k := 2) rfl (nI_add _ 1) (by decide) rfl (fun ls hl => ?_)
        refine lv_goto (tgt := 6) hx hb dJ7_fill_d0a16_19 (by decide) ?_
        exact ih_6 (i + 1) (vp_updL u i (lN v)) (by omega) (fillL_s hu) (by omega) _ _ hP hS ls (lv_sub hl [1, 2, 0, 3] rfl)
  exact lp_6 (188 - (0) + 1) 0 reached (Nat.zero_le _) (fun k hk => absurd hk (Nat.not_lt_zero k)) (Nat.lt_succ_self _) _ _ hP hS ls (lv_sub hl [2, 3, 1, 0] rfl)
set_option maxHeartbeats 200000 in
set_option maxRecDepth 100000 in
theorem c_J7_fill_nextReached (l : Launch) {g : GW} {asked : Int64} {values : Nat → Int32} {bytes : Nat → Int32} {starts : Nat → Int32} {ends : Nat → Int32} {length : Int32} {parts : Int32} {texts : Nat → Int32} {lengths : Nat → Int32} {feet : Nat → Int32} {sorts : Nat → Int32} {nxt : Nat → Int32} {size : Int32} {sums : Nat → Int32} {oneSums : Nat → Int32} {otherSums : Nat → Int32} {byFeet : Nat → Int64} {kept : Nat → Int64} {over : Int32} {rcount : Int32} {rcust : Int32} {ssums : Nat → Int32} {ways : Nat → Int64} {nextWays : Nat → Int64} {reached : Nat → Int64} {nextReached : Nat → Int64} {found : Int32} {least : Int32} {greatest : Int32} {sz : Nat} (v : Nat)  (hd : dW 25 g.2.2) : Met l yJ7_fill_d0a16 wsJ7_fill_d0a16 ({ frames := 0, cells := 0, slots := 0, locals := 0 }) (va_Pc ([.ref (g.2.2 24), .long (lN (v))]) (qW g (wX g asked values bytes starts ends length parts texts lengths feet sorts nxt size sums oneSums otherSums byFeet kept over rcount rcust ssums ways nextWays reached nextReached found least greatest) sz)) (va_Qv (fun (z : (Nat → Int64)) => ∀ k, k < 188 → z k = lN v) (fun (z : (Nat → Int64)) (t : State) => va_P g.1 vwCl (wX g asked values bytes starts ends length parts texts lengths feet sorts nxt size sums oneSums otherSums byFeet kept over rcount rcust ssums ways nextWays reached z found least greatest) t.heap) (aW 25 g.2.2 sz)) 0 0 (aW 25 g.2.2 sz) := by
  refine Met.ofW (cc := cJ7_fill_d0a16) (maxL := 5) (ret := none) (by decide) rfl ?_
  intro p e s m args below meth c s₁ B hml hv
  obtain ⟨rfl, hsz9, hP, hK, hN⟩ := hv
  subst hsz9
  have hx := B.exec
  have hb := B.bytes
  have hr := B.returns
  have hts := atoms_spec (ws := wsJ7_fill_d0a16) B.pre
  have hown : s.vm.findClass RJ7 = some m.cls := findClass_of_methodNamed B.named
  have hlocks := B.notSynchronized
  have hS : va_S (aW 25 g.2.2 s.heap.size) s.heap s.heap [] := va_S.rf
  have hl := lv_entry ([.ref (g.2.2 24), .long (lN (v))]) (n := 5) (Nat.le_of_ble_eq_true rfl)
  rw [lg_entry_eq]
  generalize (lg_sl ([.ref (g.2.2 24), .long (lN (v))]) ++ List.replicate (5 - (lg_sl ([.ref (g.2.2 24), .long (lN (v))])).length) Slot.unset).toArray = ls at hl ⊢
  have hl : lv_has ls 5 [(0, .ref (g.2.2 24)), (1, .long (lN (v)))] := hl
  refine lv_iconst (v := (nI (0))) hx hb dJ7_fill_d0a16_0 (by decide) ?_
  refine lv_istore_n (lv' := [(3, .int (nI (0))), (0, .ref (g.2.2 24)), (1, .long (lN (v)))]) hx hb dJ7_fill_d0a16_1 rfl hl (by decide) rfl (fun ls hl => ?_)
  refine lv_aload_n hx hb dJ7_fill_d0a16_2 rfl (lv_at hl 1 rfl) ?_
  refine va_alen (v := nI 188) hx hb hK hP 24 1 rfl rfl rfl dJ7_fill_d0a16_3 ?_
  refine lv_istore (lv' := [(4, .int (nI (188))), (3, .int (nI (0))), (0, .ref (g.2.2 24)), (1, .long (lN (v)))]) hx hb dJ7_fill_d0a16_4 hl (by decide) rfl (fun ls hl => ?_)
  have lp_6 : ∀ (n : Nat) (i : Nat) (u : Nat → Int64), (i ≤ 188) → (∀ k, k < i → u k = lN v) → 188 - i < n → ∀ (H : Heap) (locs : List Loc), va_P g.1 vwCl (wX g asked values bytes starts ends length parts texts lengths feet sorts nxt size sums oneSums otherSums byFeet kept over rcount rcust ssums ways nextWays reached u found least greatest) H → va_S (aW 25 g.2.2 s.heap.size) s.heap H locs → ∀ (ls : Array Slot), lv_has ls 5 [(0, .ref (g.2.2 24)), (1, .long (lN (v))), (3, .int (nI (i))), (4, .int (nI (188)))] → W p l e (headSpec wsJ7_fill_d0a16 ({ frames := 0, cells := 0, slots := 0, locals := 0 })).room s m (([.ref (g.2.2 24), .long (lN (v))] : List Value).toArray) below meth c H locs 0 0 (MQ below (va_Qv (fun (z : (Nat → Int64)) => ∀ k, k < 188 → z k = lN v) (fun (z : (Nat → Int64)) (t : State) => va_P g.1 vwCl (wX g asked values bytes starts ends length parts texts lengths feet sorts nxt size sums oneSums otherSums byFeet kept over rcount rcust ssums ways nextWays reached z found least greatest) t.heap) (aW 25 g.2.2 s.heap.size)) (([.ref (g.2.2 24), .long (lN (v))] : List Value).toArray) s 0 0 (aW 25 g.2.2 s.heap.size)) (F0 m 6 ls []) := by
    intro n
    induction n with
    | zero => intro i u hi hu hm; exact absurd hm (Nat.not_lt_zero _)
    | succ n ih_6 =>
      intro i u hi hu hm_6 H locs hP hS ls hl
      refine lv_iload_n hx hb dJ7_fill_d0a16_6 rfl (lv_at hl 2 rfl) ?_
      refine lv_iload hx hb dJ7_fill_d0a16_7 (lv_at hl 3 rfl) ?_
      refine lv_icmp_ge (tgt := 22) hx hb dJ7_fill_d0a16_9 (by decide) (fun c_9 => ?_) (fun c_9 => ?_)
      · have c_9 := (cv_le_nn (by omega) (by omega)).mp c_9
        exact wr_vret (u) hx hb hr hlocks (fun k hk => hu k (by omega)) (fun t ht => show va_P g.1 vwCl (wX g asked values bytes starts ends length parts texts lengths feet sorts nxt size sums oneSums otherSums byFeet kept over rcount rcust ssums ways nextWays reached u found least greatest) t.heap by rw [ht]; exact hP) hS dJ7_fill_d0a16_22
      · have c_9 := (not_congr (cv_le_nn (by omega) (by omega))).mp c_9
        refine lv_aload_n hx hb dJ7_fill_d0a16_12 rfl (lv_at hl 0 rfl) ?_
        refine lv_iload_n hx hb dJ7_fill_d0a16_13 rfl (lv_at hl 2 rfl) ?_
        refine lv_lload_n hx hb dJ7_fill_d0a16_14 rfl (lv_at hl 1 rfl) ?_
        refine an_last (f := u) (ws' := (wX g asked values bytes starts ends length parts texts lengths feet sorts nxt size sums oneSums otherSums byFeet kept over rcount rcust ssums ways nextWays reached (vp_updL (u) (i) (lN (v))) found least greatest)) hx hb hK hP (wX_D hd) hS 24 1 rfl rfl (by decide) (by omega) rfl dJ7_fill_d0a16_15 (fun H locs hP hS => ?_)
        refine lv_iinc (v := (nI (i + 1))) (lv' := [(3, .int (nI (i + 1))), (0, .ref (g.2.2 24)), (1, .long (lN (v))), (4, .int (nI (188)))]) hx hb dJ7_fill_d0a16_16 hl (k := 2) rfl (nI_add _ 1) (by decide) rfl (fun ls hl => ?_)
        refine lv_goto (tgt := 6) hx hb dJ7_fill_d0a16_19 (by decide) ?_
        exact ih_6 (i + 1) (vp_updL u i (lN v)) (by omega) (fillL_s hu) (by omega) _ _ hP hS ls (lv_sub hl [1, 2, 0, 3] rfl)
  exact lp_6 (188 - (0) + 1) 0 nextReached (Nat.zero_le _) (fun k hk => absurd hk (Nat.not_lt_zero k)) (Nat.lt_succ_self _) _ _ hP hS ls (lv_sub hl [2, 3, 1, 0] rfl)
theorem iw_X4_putSums_X4 : ∀ w ∈ u_ws RX4 TX4 6, w ∈ wsX4_putSums := by decide +kernel
theorem fl_X4_putSums_9 : Cond.fieldLink RX4 9 (TX4 0).1 (TX4 0).2.1 (TX4 0).2.2.1 ∈ wsX4_putSums := by decide +kernel
theorem fl_X4_putSums_15 : Cond.fieldLink RX4 15 (TX4 1).1 (TX4 1).2.1 (TX4 1).2.2.1 ∈ wsX4_putSums := by decide +kernel
theorem fl_X4_putSums_38 : Cond.fieldLink RX4 38 (TX4 5).1 (TX4 5).2.1 (TX4 5).2.2.1 ∈ wsX4_putSums := by decide +kernel
set_option maxHeartbeats 200000 in
set_option maxRecDepth 100000 in
theorem c_X4_putSums_sums (l : Launch) {g : GW} {asked : Int64} {values : Nat → Int32} {bytes : Nat → Int32} {starts : Nat → Int32} {ends : Nat → Int32} {length : Int32} {parts : Int32} {texts : Nat → Int32} {lengths : Nat → Int32} {feet : Nat → Int32} {sorts : Nat → Int32} {nxt : Nat → Int32} {nv : Nat} {sums : Nat → Int32} {oneSums : Nat → Int32} {otherSums : Nat → Int32} {byFeet : Nat → Int64} {kept : Nat → Int64} {over : Int32} {rcount : Int32} {rcust : Int32} {ssums : Nat → Int32} {ways : Nat → Int64} {nextWays : Nat → Int64} {reached : Nat → Int64} {nextReached : Nat → Int64} {found : Int32} {least : Int32} {greatest : Int32} {sz : Nat} (counting : Nat) (custom : Nat) (hc : counting < 3) (hk : custom < 4) (hnv : nv ≤ 10) (hle : okV lengths nv 1 8) (hd : dW 25 g.2.2) : Met l yX4_putSums wsX4_putSums ({ frames := 4, cells := 0, slots := 0, locals := 92 }) (va_Pc ([.ref (g.2.2 7), .ref (g.2.2 14), .ref (g.2.2 1), .int (nI (counting)), .int (nI (custom))]) (qW g (wX g asked values bytes starts ends length parts texts lengths feet sorts nxt (nI (nv)) sums oneSums otherSums byFeet kept over rcount rcust ssums ways nextWays reached nextReached found least greatest) sz)) (va_Qv (fun (z : (Nat → Int32)) => ∀ v, v < nv → z v = vsm values texts lengths counting custom v) (fun (z : (Nat → Int32)) (t : State) => va_P g.1 vwCl (wX g asked values bytes starts ends length parts texts lengths feet sorts nxt (nI (nv)) z oneSums otherSums byFeet kept over rcount rcust ssums ways nextWays reached nextReached found least greatest) t.heap) (aW 25 g.2.2 sz)) 0 0 (aW 25 g.2.2 sz) := by
  refine Met.ofW (cc := cX4_putSums) (maxL := 7) (ret := none) (by decide) rfl ?_
  intro p e s m args below meth c s₁ B hml hv
  obtain ⟨rfl, hsz9, hP, hK, hN⟩ := hv
  subst hsz9
  have hx := B.exec
  have hb := B.bytes
  have hr := B.returns
  have hts := atoms_spec (ws := wsX4_putSums) B.pre
  have hown : s.vm.findClass RX4 = some m.cls := findClass_of_methodNamed B.named
  have hlocks := B.notSynchronized
  have hS : va_S (aW 25 g.2.2 s.heap.size) s.heap s.heap [] := va_S.rf
  have hl := lv_entry ([.ref (g.2.2 7), .ref (g.2.2 14), .ref (g.2.2 1), .int (nI (counting)), .int (nI (custom))]) (n := 7) (Nat.le_of_ble_eq_true rfl)
  rw [lg_entry_eq]
  generalize (lg_sl ([.ref (g.2.2 7), .ref (g.2.2 14), .ref (g.2.2 1), .int (nI (counting)), .int (nI (custom))]) ++ List.replicate (7 - (lg_sl ([.ref (g.2.2 7), .ref (g.2.2 14), .ref (g.2.2 1), .int (nI (counting)), .int (nI (custom))])).length) Slot.unset).toArray = ls at hl ⊢
  have hl : lv_has ls 7 [(0, .ref (g.2.2 7)), (1, .ref (g.2.2 14)), (2, .ref (g.2.2 1)), (3, .int (nI (counting))), (4, .int (nI (custom)))] := hl
  refine lv_iconst (v := (nI (0))) hx hb dX4_putSums_0 (by decide) ?_
  refine lv_istore (lv' := [(5, .int (nI (0))), (0, .ref (g.2.2 7)), (1, .ref (g.2.2 14)), (2, .ref (g.2.2 1)), (3, .int (nI (counting))), (4, .int (nI (custom)))]) hx hb dX4_putSums_1 hl (by decide) rfl (fun ls hl => ?_)
  have lp_3 : ∀ (n : Nat) (i : Nat) (u : Nat → Int32), (i ≤ nv) → (∀ v, v < i → u v = vsm values texts lengths counting custom v) → nv - i < n → ∀ (H : Heap) (locs : List Loc), va_P g.1 vwCl (wX g asked values bytes starts ends length parts texts lengths feet sorts nxt (nI (nv)) u oneSums otherSums byFeet kept over rcount rcust ssums ways nextWays reached nextReached found least greatest) H → va_S (aW 25 g.2.2 s.heap.size) s.heap H locs → ∀ (ls : Array Slot), lv_has ls 7 [(0, .ref (g.2.2 7)), (1, .ref (g.2.2 14)), (2, .ref (g.2.2 1)), (3, .int (nI (counting))), (4, .int (nI (custom))), (5, .int (nI (i)))] → W p l e (headSpec wsX4_putSums ({ frames := 4, cells := 0, slots := 0, locals := 92 })).room s m (([.ref (g.2.2 7), .ref (g.2.2 14), .ref (g.2.2 1), .int (nI (counting)), .int (nI (custom))] : List Value).toArray) below meth c H locs 0 0 (MQ below (va_Qv (fun (z : (Nat → Int32)) => ∀ v, v < nv → z v = vsm values texts lengths counting custom v) (fun (z : (Nat → Int32)) (t : State) => va_P g.1 vwCl (wX g asked values bytes starts ends length parts texts lengths feet sorts nxt (nI (nv)) z oneSums otherSums byFeet kept over rcount rcust ssums ways nextWays reached nextReached found least greatest) t.heap) (aW 25 g.2.2 s.heap.size)) (([.ref (g.2.2 7), .ref (g.2.2 14), .ref (g.2.2 1), .int (nI (counting)), .int (nI (custom))] : List Value).toArray) s 0 0 (aW 25 g.2.2 s.heap.size)) (F0 m 3 ls []) := by
    intro n
    induction n with
    | zero => intro i u hi hu hm; exact absurd hm (Nat.not_lt_zero _)
    | succ n ih_3 =>
      intro i u hi hu hm_3 H locs hP hS ls hl
      refine lv_iload hx hb dX4_putSums_3 (lv_at hl 5 rfl) ?_
      refine lv_aload_n hx hb dX4_putSums_5 rfl (lv_at hl 0 rfl) ?_
      refine an_get (ci := 4) (v := .int (nI (nv))) (C := RX4) (T := TX4) (N := 6) hx hb hts iw_X4_putSums_X4 hown hK hP 7 rfl rfl 5 (by decide) (hts _ fl_X4_putSums_38) rfl dX4_putSums_6 ?_
      refine lv_icmp_ge (tgt := 52) hx hb dX4_putSums_9 (by decide) (fun c_9 => ?_) (fun c_9 => ?_)
      · have c_9 := (cv_le_nn (by omega) (by omega)).mp c_9
        exact wr_vret (u) hx hb hr hlocks (fun v hv => hu v (by omega)) (fun t ht => show va_P g.1 vwCl (wX g asked values bytes starts ends length parts texts lengths feet sorts nxt (nI (nv)) u oneSums otherSums byFeet kept over rcount rcust ssums ways nextWays reached nextReached found least greatest) t.heap by rw [ht]; exact hP) hS dX4_putSums_52
      · have c_9 := (not_congr (cv_le_nn (by omega) (by omega))).mp c_9
        refine lv_iload hx hb dX4_putSums_12 (lv_at hl 5 rfl) ?_
        refine lv_bipush (v := (nI (8))) hx hb dX4_putSums_14 (by decide) ?_
        refine ln_imul hx hb dX4_putSums_16 ?_
        refine lv_istore (lv' := [(6, .int (nI (i * 8))), (0, .ref (g.2.2 7)), (1, .ref (g.2.2 14)), (2, .ref (g.2.2 1)), (3, .int (nI (counting))), (4, .int (nI (custom))), (5, .int (nI (i)))]) hx hb dX4_putSums_17 hl (by decide) rfl (fun ls hl => ?_)
        refine lv_aload_n hx hb dX4_putSums_19 rfl (lv_at hl 2 rfl) ?_
        refine lv_iload hx hb dX4_putSums_20 (lv_at hl 6 rfl) ?_
        refine lv_aload_n hx hb dX4_putSums_22 rfl (lv_at hl 3 rfl) ?_
        refine lv_iload_n hx hb dX4_putSums_23 rfl (lv_at hl 4 rfl) ?_
        refine lv_iload hx hb dX4_putSums_24 (lv_at hl 5 rfl) ?_
        refine lv_aload_n hx hb dX4_putSums_26 rfl (lv_at hl 1 rfl) ?_
        refine an_get (ci := 4) (v := .ref (g.2.2 8)) (C := RX4) (T := TX4) (N := 6) hx hb hts iw_X4_putSums_X4 hown hK hP 7 rfl rfl 0 (by decide) (hts _ fl_X4_putSums_9) rfl dX4_putSums_27 ?_
        refine lv_iload hx hb dX4_putSums_30 (lv_at hl 0 rfl) ?_
        refine lv_iload hx hb dX4_putSums_32 (lv_at hl 0 rfl) ?_
        refine lv_aload_n hx hb dX4_putSums_34 rfl (lv_at hl 1 rfl) ?_
        refine an_get (ci := 4) (v := .ref (g.2.2 9)) (C := RX4) (T := TX4) (N := 6) hx hb hts iw_X4_putSums_X4 hown hK hP 7 rfl rfl 1 (by decide) (hts _ fl_X4_putSums_15) rfl dX4_putSums_35 ?_
        refine lv_iload hx hb dX4_putSums_38 (lv_at hl 6 rfl) ?_
        have hl8 := hle i (by omega)
        refine an_iald (f := lengths) hx hb hK hP 9 0 rfl rfl (by decide) (by omega) dX4_putSums_40 ?_
        refine ln_toi (y := (nI (tn (lengths i)))) (hl8.1) ?_
        refine ln_iadd hx hb dX4_putSums_41 ?_
        refine ro_call (va_runV (As := [.int (nI (counting)), .int (nI (custom)), .ref (g.2.2 8), .int (nI (i * 8)), .int (nI ((i * 8) + (tn (lengths i))))]) (rest := [.int (nI (i)), .ref (g.2.2 14)]) ⟨hx, hb, hml, hown, hts⟩ (c_X0_sumOf_texts l (g := g) (asked := asked) (values := values) (bytes := bytes) (starts := starts) (ends := ends) (length := length) (parts := parts) (texts := texts) (lengths := lengths) (feet := feet) (sorts := sorts) (nxt := nxt) (size := nI (nv)) (sums := u) (oneSums := oneSums) (otherSums := otherSums) (byFeet := byFeet) (kept := kept) (over := over) (rcount := rcount) (rcust := rcust) (ssums := ssums) (ways := ways) (nextWays := nextWays) (reached := reached) (nextReached := nextReached) (found := found) (least := least) (greatest := greatest) (counting) (custom) (i * 8) ((i * 8) + (tn (lengths i))) hc hk (by omega) (by omega)) (cwV 5 hts gX4_putSums_X0_sumOf rfl rfl rfl (by decide +kernel) ⟨Nat.le_of_ble_eq_true rfl, Nat.le_of_ble_eq_true rfl⟩) (pre_V pW_bl (va_recv hK hP (ci := 0) (q0 := 1) rfl rfl) (fun U hU hW => pW_of hP hK hN hU hW)) rfl rfl hl.1 rfl (lv_room (Nat.le_of_ble_eq_true rfl)) dX4_putSums_42 ⟨Nat.zero_le _, Nat.zero_le _⟩) ?_
        refine ln_toi (y := (vsm values texts lengths counting custom i)) (by show smv values counting custom texts (i * 8) (i * 8 + tn (lengths i) - i * 8) = _; rw [Nat.add_sub_cancel_left]; rfl) ?_
        refine an_iast (f := u) (ws' := (wX g asked values bytes starts ends length parts texts lengths feet sorts nxt (nI (nv)) (upd (u) (i) (vsm values texts lengths counting custom i)) oneSums otherSums byFeet kept over rcount rcust ssums ways nextWays reached nextReached found least greatest)) hx hb hK hP (wX_D hd) hS 14 0 rfl rfl (by decide) (by omega) rfl dX4_putSums_45 (fun H locs hP hS => ?_)
        refine lv_iinc (v := (nI (i + 1))) (lv' := [(5, .int (nI (i + 1))), (6, .int (nI (i * 8))), (0, .ref (g.2.2 7)), (1, .ref (g.2.2 14)), (2, .ref (g.2.2 1)), (3, .int (nI (counting))), (4, .int (nI (custom)))]) hx hb dX4_putSums_46 hl (k := 6) rfl (nI_add _ 1) (by decide) rfl (fun ls hl => ?_)
        refine lv_goto (tgt := 3) hx hb dX4_putSums_49 (by decide) ?_
        exact ih_3 (i + 1) (upd u i (vsm values texts lengths counting custom i)) (by omega) (fillI_s (w := vsm values texts lengths counting custom) hu) (by omega) _ _ hP hS ls (lv_sub hl [2, 3, 4, 5, 6, 0] rfl)
  exact lp_3 (nv - (0) + 1) 0 sums (Nat.zero_le _) (fun k hk => absurd hk (Nat.not_lt_zero k)) (Nat.lt_succ_self _) _ _ hP hS ls (lv_sub hl [1, 2, 3, 4, 5, 0] rfl)
set_option maxHeartbeats 200000 in
set_option maxRecDepth 100000 in
theorem c_X4_putSums_oneSums (l : Launch) {g : GW} {asked : Int64} {values : Nat → Int32} {bytes : Nat → Int32} {starts : Nat → Int32} {ends : Nat → Int32} {length : Int32} {parts : Int32} {texts : Nat → Int32} {lengths : Nat → Int32} {feet : Nat → Int32} {sorts : Nat → Int32} {nxt : Nat → Int32} {nv : Nat} {sums : Nat → Int32} {oneSums : Nat → Int32} {otherSums : Nat → Int32} {byFeet : Nat → Int64} {kept : Nat → Int64} {over : Int32} {rcount : Int32} {rcust : Int32} {ssums : Nat → Int32} {ways : Nat → Int64} {nextWays : Nat → Int64} {reached : Nat → Int64} {nextReached : Nat → Int64} {found : Int32} {least : Int32} {greatest : Int32} {sz : Nat} (counting : Nat) (custom : Nat) (hc : counting < 3) (hk : custom < 4) (hnv : nv ≤ 10) (hle : okV lengths nv 1 8) (hd : dW 25 g.2.2) : Met l yX4_putSums wsX4_putSums ({ frames := 4, cells := 0, slots := 0, locals := 92 }) (va_Pc ([.ref (g.2.2 7), .ref (g.2.2 15), .ref (g.2.2 1), .int (nI (counting)), .int (nI (custom))]) (qW g (wX g asked values bytes starts ends length parts texts lengths feet sorts nxt (nI (nv)) sums oneSums otherSums byFeet kept over rcount rcust ssums ways nextWays reached nextReached found least greatest) sz)) (va_Qv (fun (z : (Nat → Int32)) => ∀ v, v < nv → z v = vsm values texts lengths counting custom v) (fun (z : (Nat → Int32)) (t : State) => va_P g.1 vwCl (wX g asked values bytes starts ends length parts texts lengths feet sorts nxt (nI (nv)) sums z otherSums byFeet kept over rcount rcust ssums ways nextWays reached nextReached found least greatest) t.heap) (aW 25 g.2.2 sz)) 0 0 (aW 25 g.2.2 sz) := by
  refine Met.ofW (cc := cX4_putSums) (maxL := 7) (ret := none) (by decide) rfl ?_
  intro p e s m args below meth c s₁ B hml hv
  obtain ⟨rfl, hsz9, hP, hK, hN⟩ := hv
  subst hsz9
  have hx := B.exec
  have hb := B.bytes
  have hr := B.returns
  have hts := atoms_spec (ws := wsX4_putSums) B.pre
  have hown : s.vm.findClass RX4 = some m.cls := findClass_of_methodNamed B.named
  have hlocks := B.notSynchronized
  have hS : va_S (aW 25 g.2.2 s.heap.size) s.heap s.heap [] := va_S.rf
  have hl := lv_entry ([.ref (g.2.2 7), .ref (g.2.2 15), .ref (g.2.2 1), .int (nI (counting)), .int (nI (custom))]) (n := 7) (Nat.le_of_ble_eq_true rfl)
  rw [lg_entry_eq]
  generalize (lg_sl ([.ref (g.2.2 7), .ref (g.2.2 15), .ref (g.2.2 1), .int (nI (counting)), .int (nI (custom))]) ++ List.replicate (7 - (lg_sl ([.ref (g.2.2 7), .ref (g.2.2 15), .ref (g.2.2 1), .int (nI (counting)), .int (nI (custom))])).length) Slot.unset).toArray = ls at hl ⊢
  have hl : lv_has ls 7 [(0, .ref (g.2.2 7)), (1, .ref (g.2.2 15)), (2, .ref (g.2.2 1)), (3, .int (nI (counting))), (4, .int (nI (custom)))] := hl
  refine lv_iconst (v := (nI (0))) hx hb dX4_putSums_0 (by decide) ?_
  refine lv_istore (lv' := [(5, .int (nI (0))), (0, .ref (g.2.2 7)), (1, .ref (g.2.2 15)), (2, .ref (g.2.2 1)), (3, .int (nI (counting))), (4, .int (nI (custom)))]) hx hb dX4_putSums_1 hl (by decide) rfl (fun ls hl => ?_)
  have lp_3 : ∀ (n : Nat) (i : Nat) (u : Nat → Int32), (i ≤ nv) → (∀ v, v < i → u v = vsm values texts lengths counting custom v) → nv - i < n → ∀ (H : Heap) (locs : List Loc), va_P g.1 vwCl (wX g asked values bytes starts ends length parts texts lengths feet sorts nxt (nI (nv)) sums u otherSums byFeet kept over rcount rcust ssums ways nextWays reached nextReached found least greatest) H → va_S (aW 25 g.2.2 s.heap.size) s.heap H locs → ∀ (ls : Array Slot), lv_has ls 7 [(0, .ref (g.2.2 7)), (1, .ref (g.2.2 15)), (2, .ref (g.2.2 1)), (3, .int (nI (counting))), (4, .int (nI (custom))), (5, .int (nI (i)))] → W p l e (headSpec wsX4_putSums ({ frames := 4, cells := 0, slots := 0, locals := 92 })).room s m (([.ref (g.2.2 7), .ref (g.2.2 15), .ref (g.2.2 1), .int (nI (counting)), .int (nI (custom))] : List Value).toArray) below meth c H locs 0 0 (MQ below (va_Qv (fun (z : (Nat → Int32)) => ∀ v, v < nv → z v = vsm values texts lengths counting custom v) (fun (z : (Nat → Int32)) (t : State) => va_P g.1 vwCl (wX g asked values bytes starts ends length parts texts lengths feet sorts nxt (nI (nv)) sums z otherSums byFeet kept over rcount rcust ssums ways nextWays reached nextReached found least greatest) t.heap) (aW 25 g.2.2 s.heap.size)) (([.ref (g.2.2 7), .ref (g.2.2 15), .ref (g.2.2 1), .int (nI (counting)), .int (nI (custom))] : List Value).toArray) s 0 0 (aW 25 g.2.2 s.heap.size)) (F0 m 3 ls []) := by
    intro n
    induction n with
    | zero => intro i u hi hu hm; exact absurd hm (Nat.not_lt_zero _)
    | succ n ih_3 =>
      intro i u hi hu hm_3 H locs hP hS ls hl
      refine lv_iload hx hb dX4_putSums_3 (lv_at hl 5 rfl) ?_
      refine lv_aload_n hx hb dX4_putSums_5 rfl (lv_at hl 0 rfl) ?_
      refine an_get (ci := 4) (v := .int (nI (nv))) (C := RX4) (T := TX4) (N := 6) hx hb hts iw_X4_putSums_X4 hown hK hP 7 rfl rfl 5 (by decide) (hts _ fl_X4_putSums_38) rfl dX4_putSums_6 ?_
      refine lv_icmp_ge (tgt := 52) hx hb dX4_putSums_9 (by decide) (fun c_9 => ?_) (fun c_9 => ?_)
      · have c_9 := (cv_le_nn (by omega) (by omega)).mp c_9
        exact wr_vret (u) hx hb hr hlocks (fun v hv => hu v (by omega)) (fun t ht => show va_P g.1 vwCl (wX g asked values bytes starts ends length parts texts lengths feet sorts nxt (nI (nv)) sums u otherSums byFeet kept over rcount rcust ssums ways nextWays reached nextReached found least greatest) t.heap by rw [ht]; exact hP) hS dX4_putSums_52
      · have c_9 := (not_congr (cv_le_nn (by omega) (by omega))).mp c_9
        refine lv_iload hx hb dX4_putSums_12 (lv_at hl 5 rfl) ?_
        refine lv_bipush (v := (nI (8))) hx hb dX4_putSums_14 (by decide) ?_
        refine ln_imul hx hb dX4_putSums_16 ?_
        refine lv_istore (lv' := [(6, .int (nI (i * 8))), (0, .ref (g.2.2 7)), (1, .ref (g.2.2 15)), (2, .ref (g.2.2 1)), (3, .int (nI (counting))), (4, .int (nI (custom))), (5, .int (nI (i)))]) hx hb dX4_putSums_17 hl (by decide) rfl (fun ls hl => ?_)
        refine lv_aload_n hx hb dX4_putSums_19 rfl (lv_at hl 2 rfl) ?_
        refine lv_iload hx hb dX4_putSums_20 (lv_at hl 6 rfl) ?_
        refine lv_aload_n hx hb dX4_putSums_22 rfl (lv_at hl 3 rfl) ?_
        refine lv_iload_n hx hb dX4_putSums_23 rfl (lv_at hl 4 rfl) ?_
        refine lv_iload hx hb dX4_putSums_24 (lv_at hl 5 rfl) ?_
        refine lv_aload_n hx hb dX4_putSums_26 rfl (lv_at hl 1 rfl) ?_
        refine an_get (ci := 4) (v := .ref (g.2.2 8)) (C := RX4) (T := TX4) (N := 6) hx hb hts iw_X4_putSums_X4 hown hK hP 7 rfl rfl 0 (by decide) (hts _ fl_X4_putSums_9) rfl dX4_putSums_27 ?_
        refine lv_iload hx hb dX4_putSums_30 (lv_at hl 0 rfl) ?_
        refine lv_iload hx hb dX4_putSums_32 (lv_at hl 0 rfl) ?_
        refine lv_aload_n hx hb dX4_putSums_34 rfl (lv_at hl 1 rfl) ?_
        refine an_get (ci := 4) (v := .ref (g.2.2 9)) (C := RX4) (T := TX4) (N := 6) hx hb hts iw_X4_putSums_X4 hown hK hP 7 rfl rfl 1 (by decide) (hts _ fl_X4_putSums_15) rfl dX4_putSums_35 ?_
        refine lv_iload hx hb dX4_putSums_38 (lv_at hl 6 rfl) ?_
        have hl8 := hle i (by omega)
        refine an_iald (f := lengths) hx hb hK hP 9 0 rfl rfl (by decide) (by omega) dX4_putSums_40 ?_
        refine ln_toi (y := (nI (tn (lengths i)))) (hl8.1) ?_
        refine ln_iadd hx hb dX4_putSums_41 ?_
        refine ro_call (va_runV (As := [.int (nI (counting)), .int (nI (custom)), .ref (g.2.2 8), .int (nI (i * 8)), .int (nI ((i * 8) + (tn (lengths i))))]) (rest := [.int (nI (i)), .ref (g.2.2 15)]) ⟨hx, hb, hml, hown, hts⟩ (c_X0_sumOf_texts l (g := g) (asked := asked) (values := values) (bytes := bytes) (starts := starts) (ends := ends) (length := length) (parts := parts) (texts := texts) (lengths := lengths) (feet := feet) (sorts := sorts) (nxt := nxt) (size := nI (nv)) (sums := sums) (oneSums := u) (otherSums := otherSums) (byFeet := byFeet) (kept := kept) (over := over) (rcount := rcount) (rcust := rcust) (ssums := ssums) (ways := ways) (nextWays := nextWays) (reached := reached) (nextReached := nextReached) (found := found) (least := least) (greatest := greatest) (counting) (custom) (i * 8) ((i * 8) + (tn (lengths i))) hc hk (by omega) (by omega)) (cwV 5 hts gX4_putSums_X0_sumOf rfl rfl rfl (by decide +kernel) ⟨Nat.le_of_ble_eq_true rfl, Nat.le_of_ble_eq_true rfl⟩) (pre_V pW_bl (va_recv hK hP (ci := 0) (q0 := 1) rfl rfl) (fun U hU hW => pW_of hP hK hN hU hW)) rfl rfl hl.1 rfl (lv_room (Nat.le_of_ble_eq_true rfl)) dX4_putSums_42 ⟨Nat.zero_le _, Nat.zero_le _⟩) ?_
        refine ln_toi (y := (vsm values texts lengths counting custom i)) (by show smv values counting custom texts (i * 8) (i * 8 + tn (lengths i) - i * 8) = _; rw [Nat.add_sub_cancel_left]; rfl) ?_
        refine an_iast (f := u) (ws' := (wX g asked values bytes starts ends length parts texts lengths feet sorts nxt (nI (nv)) sums (upd (u) (i) (vsm values texts lengths counting custom i)) otherSums byFeet kept over rcount rcust ssums ways nextWays reached nextReached found least greatest)) hx hb hK hP (wX_D hd) hS 15 0 rfl rfl (by decide) (by omega) rfl dX4_putSums_45 (fun H locs hP hS => ?_)
        refine lv_iinc (v := (nI (i + 1))) (lv' := [(5, .int (nI (i + 1))), (6, .int (nI (i * 8))), (0, .ref (g.2.2 7)), (1, .ref (g.2.2 15)), (2, .ref (g.2.2 1)), (3, .int (nI (counting))), (4, .int (nI (custom)))]) hx hb dX4_putSums_46 hl (k := 6) rfl (nI_add _ 1) (by decide) rfl (fun ls hl => ?_)
        refine lv_goto (tgt := 3) hx hb dX4_putSums_49 (by decide) ?_
        exact ih_3 (i + 1) (upd u i (vsm values texts lengths counting custom i)) (by omega) (fillI_s (w := vsm values texts lengths counting custom) hu) (by omega) _ _ hP hS ls (lv_sub hl [2, 3, 4, 5, 6, 0] rfl)
  exact lp_3 (nv - (0) + 1) 0 oneSums (Nat.zero_le _) (fun k hk => absurd hk (Nat.not_lt_zero k)) (Nat.lt_succ_self _) _ _ hP hS ls (lv_sub hl [1, 2, 3, 4, 5, 0] rfl)
set_option maxHeartbeats 200000 in
set_option maxRecDepth 100000 in
theorem c_X4_putSums_otherSums (l : Launch) {g : GW} {asked : Int64} {values : Nat → Int32} {bytes : Nat → Int32} {starts : Nat → Int32} {ends : Nat → Int32} {length : Int32} {parts : Int32} {texts : Nat → Int32} {lengths : Nat → Int32} {feet : Nat → Int32} {sorts : Nat → Int32} {nxt : Nat → Int32} {nv : Nat} {sums : Nat → Int32} {oneSums : Nat → Int32} {otherSums : Nat → Int32} {byFeet : Nat → Int64} {kept : Nat → Int64} {over : Int32} {rcount : Int32} {rcust : Int32} {ssums : Nat → Int32} {ways : Nat → Int64} {nextWays : Nat → Int64} {reached : Nat → Int64} {nextReached : Nat → Int64} {found : Int32} {least : Int32} {greatest : Int32} {sz : Nat} (counting : Nat) (custom : Nat) (hc : counting < 3) (hk : custom < 4) (hnv : nv ≤ 10) (hle : okV lengths nv 1 8) (hd : dW 25 g.2.2) : Met l yX4_putSums wsX4_putSums ({ frames := 4, cells := 0, slots := 0, locals := 92 }) (va_Pc ([.ref (g.2.2 7), .ref (g.2.2 16), .ref (g.2.2 1), .int (nI (counting)), .int (nI (custom))]) (qW g (wX g asked values bytes starts ends length parts texts lengths feet sorts nxt (nI (nv)) sums oneSums otherSums byFeet kept over rcount rcust ssums ways nextWays reached nextReached found least greatest) sz)) (va_Qv (fun (z : (Nat → Int32)) => ∀ v, v < nv → z v = vsm values texts lengths counting custom v) (fun (z : (Nat → Int32)) (t : State) => va_P g.1 vwCl (wX g asked values bytes starts ends length parts texts lengths feet sorts nxt (nI (nv)) sums oneSums z byFeet kept over rcount rcust ssums ways nextWays reached nextReached found least greatest) t.heap) (aW 25 g.2.2 sz)) 0 0 (aW 25 g.2.2 sz) := by
  refine Met.ofW (cc := cX4_putSums) (maxL := 7) (ret := none) (by decide) rfl ?_
  intro p e s m args below meth c s₁ B hml hv
  obtain ⟨rfl, hsz9, hP, hK, hN⟩ := hv
  subst hsz9
  have hx := B.exec
  have hb := B.bytes
  have hr := B.returns
  have hts := atoms_spec (ws := wsX4_putSums) B.pre
  have hown : s.vm.findClass RX4 = some m.cls := findClass_of_methodNamed B.named
  have hlocks := B.notSynchronized
  have hS : va_S (aW 25 g.2.2 s.heap.size) s.heap s.heap [] := va_S.rf
  have hl := lv_entry ([.ref (g.2.2 7), .ref (g.2.2 16), .ref (g.2.2 1), .int (nI (counting)), .int (nI (custom))]) (n := 7) (Nat.le_of_ble_eq_true rfl)
  rw [lg_entry_eq]
  generalize (lg_sl ([.ref (g.2.2 7), .ref (g.2.2 16), .ref (g.2.2 1), .int (nI (counting)), .int (nI (custom))]) ++ List.replicate (7 - (lg_sl ([.ref (g.2.2 7), .ref (g.2.2 16), .ref (g.2.2 1), .int (nI (counting)), .int (nI (custom))])).length) Slot.unset).toArray = ls at hl ⊢
  have hl : lv_has ls 7 [(0, .ref (g.2.2 7)), (1, .ref (g.2.2 16)), (2, .ref (g.2.2 1)), (3, .int (nI (counting))), (4, .int (nI (custom)))] := hl
  refine lv_iconst (v := (nI (0))) hx hb dX4_putSums_0 (by decide) ?_
  refine lv_istore (lv' := [(5, .int (nI (0))), (0, .ref (g.2.2 7)), (1, .ref (g.2.2 16)), (2, .ref (g.2.2 1)), (3, .int (nI (counting))), (4, .int (nI (custom)))]) hx hb dX4_putSums_1 hl (by decide) rfl (fun ls hl => ?_)
  have lp_3 : ∀ (n : Nat) (i : Nat) (u : Nat → Int32), (i ≤ nv) → (∀ v, v < i → u v = vsm values texts lengths counting custom v) → nv - i < n → ∀ (H : Heap) (locs : List Loc), va_P g.1 vwCl (wX g asked values bytes starts ends length parts texts lengths feet sorts nxt (nI (nv)) sums oneSums u byFeet kept over rcount rcust ssums ways nextWays reached nextReached found least greatest) H → va_S (aW 25 g.2.2 s.heap.size) s.heap H locs → ∀ (ls : Array Slot), lv_has ls 7 [(0, .ref (g.2.2 7)), (1, .ref (g.2.2 16)), (2, .ref (g.2.2 1)), (3, .int (nI (counting))), (4, .int (nI (custom))), (5, .int (nI (i)))] → W p l e (headSpec wsX4_putSums ({ frames := 4, cells := 0, slots := 0, locals := 92 })).room s m (([.ref (g.2.2 7), .ref (g.2.2 16), .ref (g.2.2 1), .int (nI (counting)), .int (nI (custom))] : List Value).toArray) below meth c H locs 0 0 (MQ below (va_Qv (fun (z : (Nat → Int32)) => ∀ v, v < nv → z v = vsm values texts lengths counting custom v) (fun (z : (Nat → Int32)) (t : State) => va_P g.1 vwCl (wX g asked values bytes starts ends length parts texts lengths feet sorts nxt (nI (nv)) sums oneSums z byFeet kept over rcount rcust ssums ways nextWays reached nextReached found least greatest) t.heap) (aW 25 g.2.2 s.heap.size)) (([.ref (g.2.2 7), .ref (g.2.2 16), .ref (g.2.2 1), .int (nI (counting)), .int (nI (custom))] : List Value).toArray) s 0 0 (aW 25 g.2.2 s.heap.size)) (F0 m 3 ls []) := by
    intro n
    induction n with
    | zero => intro i u hi hu hm; exact absurd hm (Nat.not_lt_zero _)
    | succ n ih_3 =>
      intro i u hi hu hm_3 H locs hP hS ls hl
      refine lv_iload hx hb dX4_putSums_3 (lv_at hl 5 rfl) ?_
      refine lv_aload_n hx hb dX4_putSums_5 rfl (lv_at hl 0 rfl) ?_
      refine an_get (ci := 4) (v := .int (nI (nv))) (C := RX4) (T := TX4) (N := 6) hx hb hts iw_X4_putSums_X4 hown hK hP 7 rfl rfl 5 (by decide) (hts _ fl_X4_putSums_38) rfl dX4_putSums_6 ?_
      refine lv_icmp_ge (tgt := 52) hx hb dX4_putSums_9 (by decide) (fun c_9 => ?_) (fun c_9 => ?_)
      · have c_9 := (cv_le_nn (by omega) (by omega)).mp c_9
        exact wr_vret (u) hx hb hr hlocks (fun v hv => hu v (by omega)) (fun t ht => show va_P g.1 vwCl (wX g asked values bytes starts ends length parts texts lengths feet sorts nxt (nI (nv)) sums oneSums u byFeet kept over rcount rcust ssums ways nextWays reached nextReached found least greatest) t.heap by rw [ht]; exact hP) hS dX4_putSums_52
      · have c_9 := (not_congr (cv_le_nn (by omega) (by omega))).mp c_9
        refine lv_iload hx hb dX4_putSums_12 (lv_at hl 5 rfl) ?_
        refine lv_bipush (v := (nI (8))) hx hb dX4_putSums_14 (by decide) ?_
        refine ln_imul hx hb dX4_putSums_16 ?_
        refine lv_istore (lv' := [(6, .int (nI (i * 8))), (0, .ref (g.2.2 7)), (1, .ref (g.2.2 16)), (2, .ref (g.2.2 1)), (3, .int (nI (counting))), (4, .int (nI (custom))), (5, .int (nI (i)))]) hx hb dX4_putSums_17 hl (by decide) rfl (fun ls hl => ?_)
        refine lv_aload_n hx hb dX4_putSums_19 rfl (lv_at hl 2 rfl) ?_
        refine lv_iload hx hb dX4_putSums_20 (lv_at hl 6 rfl) ?_
        refine lv_aload_n hx hb dX4_putSums_22 rfl (lv_at hl 3 rfl) ?_
        refine lv_iload_n hx hb dX4_putSums_23 rfl (lv_at hl 4 rfl) ?_
        refine lv_iload hx hb dX4_putSums_24 (lv_at hl 5 rfl) ?_
        refine lv_aload_n hx hb dX4_putSums_26 rfl (lv_at hl 1 rfl) ?_
        refine an_get (ci := 4) (v := .ref (g.2.2 8)) (C := RX4) (T := TX4) (N := 6) hx hb hts iw_X4_putSums_X4 hown hK hP 7 rfl rfl 0 (by decide) (hts _ fl_X4_putSums_9) rfl dX4_putSums_27 ?_
        refine lv_iload hx hb dX4_putSums_30 (lv_at hl 0 rfl) ?_
        refine lv_iload hx hb dX4_putSums_32 (lv_at hl 0 rfl) ?_
        refine lv_aload_n hx hb dX4_putSums_34 rfl (lv_at hl 1 rfl) ?_
        refine an_get (ci := 4) (v := .ref (g.2.2 9)) (C := RX4) (T := TX4) (N := 6) hx hb hts iw_X4_putSums_X4 hown hK hP 7 rfl rfl 1 (by decide) (hts _ fl_X4_putSums_15) rfl dX4_putSums_35 ?_
        refine lv_iload hx hb dX4_putSums_38 (lv_at hl 6 rfl) ?_
        have hl8 := hle i (by omega)
        refine an_iald (f := lengths) hx hb hK hP 9 0 rfl rfl (by decide) (by omega) dX4_putSums_40 ?_
        refine ln_toi (y := (nI (tn (lengths i)))) (hl8.1) ?_
        refine ln_iadd hx hb dX4_putSums_41 ?_
        refine ro_call (va_runV (As := [.int (nI (counting)), .int (nI (custom)), .ref (g.2.2 8), .int (nI (i * 8)), .int (nI ((i * 8) + (tn (lengths i))))]) (rest := [.int (nI (i)), .ref (g.2.2 16)]) ⟨hx, hb, hml, hown, hts⟩ (c_X0_sumOf_texts l (g := g) (asked := asked) (values := values) (bytes := bytes) (starts := starts) (ends := ends) (length := length) (parts := parts) (texts := texts) (lengths := lengths) (feet := feet) (sorts := sorts) (nxt := nxt) (size := nI (nv)) (sums := sums) (oneSums := oneSums) (otherSums := u) (byFeet := byFeet) (kept := kept) (over := over) (rcount := rcount) (rcust := rcust) (ssums := ssums) (ways := ways) (nextWays := nextWays) (reached := reached) (nextReached := nextReached) (found := found) (least := least) (greatest := greatest) (counting) (custom) (i * 8) ((i * 8) + (tn (lengths i))) hc hk (by omega) (by omega)) (cwV 5 hts gX4_putSums_X0_sumOf rfl rfl rfl (by decide +kernel) ⟨Nat.le_of_ble_eq_true rfl, Nat.le_of_ble_eq_true rfl⟩) (pre_V pW_bl (va_recv hK hP (ci := 0) (q0 := 1) rfl rfl) (fun U hU hW => pW_of hP hK hN hU hW)) rfl rfl hl.1 rfl (lv_room (Nat.le_of_ble_eq_true rfl)) dX4_putSums_42 ⟨Nat.zero_le _, Nat.zero_le _⟩) ?_
        refine ln_toi (y := (vsm values texts lengths counting custom i)) (by show smv values counting custom texts (i * 8) (i * 8 + tn (lengths i) - i * 8) = _; rw [Nat.add_sub_cancel_left]; rfl) ?_
        refine an_iast (f := u) (ws' := (wX g asked values bytes starts ends length parts texts lengths feet sorts nxt (nI (nv)) sums oneSums (upd (u) (i) (vsm values texts lengths counting custom i)) byFeet kept over rcount rcust ssums ways nextWays reached nextReached found least greatest)) hx hb hK hP (wX_D hd) hS 16 0 rfl rfl (by decide) (by omega) rfl dX4_putSums_45 (fun H locs hP hS => ?_)
        refine lv_iinc (v := (nI (i + 1))) (lv' := [(5, .int (nI (i + 1))), (6, .int (nI (i * 8))), (0, .ref (g.2.2 7)), (1, .ref (g.2.2 16)), (2, .ref (g.2.2 1)), (3, .int (nI (counting))), (4, .int (nI (custom)))]) hx hb dX4_putSums_46 hl (k := 6) rfl (nI_add _ 1) (by decide) rfl (fun ls hl => ?_)
        refine lv_goto (tgt := 3) hx hb dX4_putSums_49 (by decide) ?_
        exact ih_3 (i + 1) (upd u i (vsm values texts lengths counting custom i)) (by omega) (fillI_s (w := vsm values texts lengths counting custom) hu) (by omega) _ _ hP hS ls (lv_sub hl [2, 3, 4, 5, 6, 0] rfl)
  exact lp_3 (nv - (0) + 1) 0 otherSums (Nat.zero_le _) (fun k hk => absurd hk (Nat.not_lt_zero k)) (Nat.lt_succ_self _) _ _ hP hS ls (lv_sub hl [1, 2, 3, 4, 5, 0] rfl)
set_option maxHeartbeats 200000 in
set_option maxRecDepth 100000 in
theorem c_X4_putSums_ssums (l : Launch) {g : GW} {asked : Int64} {values : Nat → Int32} {bytes : Nat → Int32} {starts : Nat → Int32} {ends : Nat → Int32} {length : Int32} {parts : Int32} {texts : Nat → Int32} {lengths : Nat → Int32} {feet : Nat → Int32} {sorts : Nat → Int32} {nxt : Nat → Int32} {nv : Nat} {sums : Nat → Int32} {oneSums : Nat → Int32} {otherSums : Nat → Int32} {byFeet : Nat → Int64} {kept : Nat → Int64} {over : Int32} {rcount : Int32} {rcust : Int32} {ssums : Nat → Int32} {ways : Nat → Int64} {nextWays : Nat → Int64} {reached : Nat → Int64} {nextReached : Nat → Int64} {found : Int32} {least : Int32} {greatest : Int32} {sz : Nat} (counting : Nat) (custom : Nat) (hc : counting < 3) (hk : custom < 4) (hnv : nv ≤ 10) (hle : okV lengths nv 1 8) (hd : dW 25 g.2.2) : Met l yX4_putSums wsX4_putSums ({ frames := 4, cells := 0, slots := 0, locals := 92 }) (va_Pc ([.ref (g.2.2 7), .ref (g.2.2 20), .ref (g.2.2 1), .int (nI (counting)), .int (nI (custom))]) (qW g (wX g asked values bytes starts ends length parts texts lengths feet sorts nxt (nI (nv)) sums oneSums otherSums byFeet kept over rcount rcust ssums ways nextWays reached nextReached found least greatest) sz)) (va_Qv (fun (z : (Nat → Int32)) => ∀ v, v < nv → z v = vsm values texts lengths counting custom v) (fun (z : (Nat → Int32)) (t : State) => va_P g.1 vwCl (wX g asked values bytes starts ends length parts texts lengths feet sorts nxt (nI (nv)) sums oneSums otherSums byFeet kept over rcount rcust z ways nextWays reached nextReached found least greatest) t.heap) (aW 25 g.2.2 sz)) 0 0 (aW 25 g.2.2 sz) := by
  refine Met.ofW (cc := cX4_putSums) (maxL := 7) (ret := none) (by decide) rfl ?_
  intro p e s m args below meth c s₁ B hml hv
  obtain ⟨rfl, hsz9, hP, hK, hN⟩ := hv
  subst hsz9
  have hx := B.exec
  have hb := B.bytes
  have hr := B.returns
  have hts := atoms_spec (ws := wsX4_putSums) B.pre
  have hown : s.vm.findClass RX4 = some m.cls := findClass_of_methodNamed B.named
  have hlocks := B.notSynchronized
  have hS : va_S (aW 25 g.2.2 s.heap.size) s.heap s.heap [] := va_S.rf
  have hl := lv_entry ([.ref (g.2.2 7), .ref (g.2.2 20), .ref (g.2.2 1), .int (nI (counting)), .int (nI (custom))]) (n := 7) (Nat.le_of_ble_eq_true rfl)
  rw [lg_entry_eq]
  generalize (lg_sl ([.ref (g.2.2 7), .ref (g.2.2 20), .ref (g.2.2 1), .int (nI (counting)), .int (nI (custom))]) ++ List.replicate (7 - (lg_sl ([.ref (g.2.2 7), .ref (g.2.2 20), .ref (g.2.2 1), .int (nI (counting)), .int (nI (custom))])).length) Slot.unset).toArray = ls at hl ⊢
  have hl : lv_has ls 7 [(0, .ref (g.2.2 7)), (1, .ref (g.2.2 20)), (2, .ref (g.2.2 1)), (3, .int (nI (counting))), (4, .int (nI (custom)))] := hl
  refine lv_iconst (v := (nI (0))) hx hb dX4_putSums_0 (by decide) ?_
  refine lv_istore (lv' := [(5, .int (nI (0))), (0, .ref (g.2.2 7)), (1, .ref (g.2.2 20)), (2, .ref (g.2.2 1)), (3, .int (nI (counting))), (4, .int (nI (custom)))]) hx hb dX4_putSums_1 hl (by decide) rfl (fun ls hl => ?_)
  have lp_3 : ∀ (n : Nat) (i : Nat) (u : Nat → Int32), (i ≤ nv) → (∀ v, v < i → u v = vsm values texts lengths counting custom v) → nv - i < n → ∀ (H : Heap) (locs : List Loc), va_P g.1 vwCl (wX g asked values bytes starts ends length parts texts lengths feet sorts nxt (nI (nv)) sums oneSums otherSums byFeet kept over rcount rcust u ways nextWays reached nextReached found least greatest) H → va_S (aW 25 g.2.2 s.heap.size) s.heap H locs → ∀ (ls : Array Slot), lv_has ls 7 [(0, .ref (g.2.2 7)), (1, .ref (g.2.2 20)), (2, .ref (g.2.2 1)), (3, .int (nI (counting))), (4, .int (nI (custom))), (5, .int (nI (i)))] → W p l e (headSpec wsX4_putSums ({ frames := 4, cells := 0, slots := 0, locals := 92 })).room s m (([.ref (g.2.2 7), .ref (g.2.2 20), .ref (g.2.2 1), .int (nI (counting)), .int (nI (custom))] : List Value).toArray) below meth c H locs 0 0 (MQ below (va_Qv (fun (z : (Nat → Int32)) => ∀ v, v < nv → z v = vsm values texts lengths counting custom v) (fun (z : (Nat → Int32)) (t : State) => va_P g.1 vwCl (wX g asked values bytes starts ends length parts texts lengths feet sorts nxt (nI (nv)) sums oneSums otherSums byFeet kept over rcount rcust z ways nextWays reached nextReached found least greatest) t.heap) (aW 25 g.2.2 s.heap.size)) (([.ref (g.2.2 7), .ref (g.2.2 20), .ref (g.2.2 1), .int (nI (counting)), .int (nI (custom))] : List Value).toArray) s 0 0 (aW 25 g.2.2 s.heap.size)) (F0 m 3 ls []) := by
    intro n
    induction n with
    | zero => intro i u hi hu hm; exact absurd hm (Nat.not_lt_zero _)
    | succ n ih_3 =>
      intro i u hi hu hm_3 H locs hP hS ls hl
      refine lv_iload hx hb dX4_putSums_3 (lv_at hl 5 rfl) ?_
      refine lv_aload_n hx hb dX4_putSums_5 rfl (lv_at hl 0 rfl) ?_
      refine an_get (ci := 4) (v := .int (nI (nv))) (C := RX4) (T := TX4) (N := 6) hx hb hts iw_X4_putSums_X4 hown hK hP 7 rfl rfl 5 (by decide) (hts _ fl_X4_putSums_38) rfl dX4_putSums_6 ?_
      refine lv_icmp_ge (tgt := 52) hx hb dX4_putSums_9 (by decide) (fun c_9 => ?_) (fun c_9 => ?_)
      · have c_9 := (cv_le_nn (by omega) (by omega)).mp c_9
        exact wr_vret (u) hx hb hr hlocks (fun v hv => hu v (by omega)) (fun t ht => show va_P g.1 vwCl (wX g asked values bytes starts ends length parts texts lengths feet sorts nxt (nI (nv)) sums oneSums otherSums byFeet kept over rcount rcust u ways nextWays reached nextReached found least greatest) t.heap by rw [ht]; exact hP) hS dX4_putSums_52
      · have c_9 := (not_congr (cv_le_nn (by omega) (by omega))).mp c_9
        refine lv_iload hx hb dX4_putSums_12 (lv_at hl 5 rfl) ?_
        refine lv_bipush (v := (nI (8))) hx hb dX4_putSums_14 (by decide) ?_
        refine ln_imul hx hb dX4_putSums_16 ?_
        refine lv_istore (lv' := [(6, .int (nI (i * 8))), (0, .ref (g.2.2 7)), (1, .ref (g.2.2 20)), (2, .ref (g.2.2 1)), (3, .int (nI (counting))), (4, .int (nI (custom))), (5, .int (nI (i)))]) hx hb dX4_putSums_17 hl (by decide) rfl (fun ls hl => ?_)
        refine lv_aload_n hx hb dX4_putSums_19 rfl (lv_at hl 2 rfl) ?_
        refine lv_iload hx hb dX4_putSums_20 (lv_at hl 6 rfl) ?_
        refine lv_aload_n hx hb dX4_putSums_22 rfl (lv_at hl 3 rfl) ?_
        refine lv_iload_n hx hb dX4_putSums_23 rfl (lv_at hl 4 rfl) ?_
        refine lv_iload hx hb dX4_putSums_24 (lv_at hl 5 rfl) ?_
        refine lv_aload_n hx hb dX4_putSums_26 rfl (lv_at hl 1 rfl) ?_
        refine an_get (ci := 4) (v := .ref (g.2.2 8)) (C := RX4) (T := TX4) (N := 6) hx hb hts iw_X4_putSums_X4 hown hK hP 7 rfl rfl 0 (by decide) (hts _ fl_X4_putSums_9) rfl dX4_putSums_27 ?_
        refine lv_iload hx hb dX4_putSums_30 (lv_at hl 0 rfl) ?_
        refine lv_iload hx hb dX4_putSums_32 (lv_at hl 0 rfl) ?_
        refine lv_aload_n hx hb dX4_putSums_34 rfl (lv_at hl 1 rfl) ?_
        refine an_get (ci := 4) (v := .ref (g.2.2 9)) (C := RX4) (T := TX4) (N := 6) hx hb hts iw_X4_putSums_X4 hown hK hP 7 rfl rfl 1 (by decide) (hts _ fl_X4_putSums_15) rfl dX4_putSums_35 ?_
        refine lv_iload hx hb dX4_putSums_38 (lv_at hl 6 rfl) ?_
        have hl8 := hle i (by omega)
        refine an_iald (f := lengths) hx hb hK hP 9 0 rfl rfl (by decide) (by omega) dX4_putSums_40 ?_
        refine ln_toi (y := (nI (tn (lengths i)))) (hl8.1) ?_
        refine ln_iadd hx hb dX4_putSums_41 ?_
        refine ro_call (va_runV (As := [.int (nI (counting)), .int (nI (custom)), .ref (g.2.2 8), .int (nI (i * 8)), .int (nI ((i * 8) + (tn (lengths i))))]) (rest := [.int (nI (i)), .ref (g.2.2 20)]) ⟨hx, hb, hml, hown, hts⟩ (c_X0_sumOf_texts l (g := g) (asked := asked) (values := values) (bytes := bytes) (starts := starts) (ends := ends) (length := length) (parts := parts) (texts := texts) (lengths := lengths) (feet := feet) (sorts := sorts) (nxt := nxt) (size := nI (nv)) (sums := sums) (oneSums := oneSums) (otherSums := otherSums) (byFeet := byFeet) (kept := kept) (over := over) (rcount := rcount) (rcust := rcust) (ssums := u) (ways := ways) (nextWays := nextWays) (reached := reached) (nextReached := nextReached) (found := found) (least := least) (greatest := greatest) (counting) (custom) (i * 8) ((i * 8) + (tn (lengths i))) hc hk (by omega) (by omega)) (cwV 5 hts gX4_putSums_X0_sumOf rfl rfl rfl (by decide +kernel) ⟨Nat.le_of_ble_eq_true rfl, Nat.le_of_ble_eq_true rfl⟩) (pre_V pW_bl (va_recv hK hP (ci := 0) (q0 := 1) rfl rfl) (fun U hU hW => pW_of hP hK hN hU hW)) rfl rfl hl.1 rfl (lv_room (Nat.le_of_ble_eq_true rfl)) dX4_putSums_42 ⟨Nat.zero_le _, Nat.zero_le _⟩) ?_
        refine ln_toi (y := (vsm values texts lengths counting custom i)) (by show smv values counting custom texts (i * 8) (i * 8 + tn (lengths i) - i * 8) = _; rw [Nat.add_sub_cancel_left]; rfl) ?_
        refine an_iast (f := u) (ws' := (wX g asked values bytes starts ends length parts texts lengths feet sorts nxt (nI (nv)) sums oneSums otherSums byFeet kept over rcount rcust (upd (u) (i) (vsm values texts lengths counting custom i)) ways nextWays reached nextReached found least greatest)) hx hb hK hP (wX_D hd) hS 20 0 rfl rfl (by decide) (by omega) rfl dX4_putSums_45 (fun H locs hP hS => ?_)
        refine lv_iinc (v := (nI (i + 1))) (lv' := [(5, .int (nI (i + 1))), (6, .int (nI (i * 8))), (0, .ref (g.2.2 7)), (1, .ref (g.2.2 20)), (2, .ref (g.2.2 1)), (3, .int (nI (counting))), (4, .int (nI (custom)))]) hx hb dX4_putSums_46 hl (k := 6) rfl (nI_add _ 1) (by decide) rfl (fun ls hl => ?_)
        refine lv_goto (tgt := 3) hx hb dX4_putSums_49 (by decide) ?_
        exact ih_3 (i + 1) (upd u i (vsm values texts lengths counting custom i)) (by omega) (fillI_s (w := vsm values texts lengths counting custom) hu) (by omega) _ _ hP hS ls (lv_sub hl [2, 3, 4, 5, 6, 0] rfl)
  exact lp_3 (nv - (0) + 1) 0 ssums (Nat.zero_le _) (fun k hk => absurd hk (Nat.not_lt_zero k)) (Nat.lt_succ_self _) _ _ hP hS ls (lv_sub hl [1, 2, 3, 4, 5, 0] rfl)
theorem iw_X1_findParts_X1 : ∀ w ∈ u_ws RX1 TX1 5, w ∈ wsX1_findParts := by decide +kernel
theorem fl_X1_findParts_9 : Cond.fieldLink RX1 9 (TX1 0).1 (TX1 0).2.1 (TX1 0).2.2.1 ∈ wsX1_findParts := by decide +kernel
theorem fl_X1_findParts_15 : Cond.fieldLink RX1 15 (TX1 1).1 (TX1 1).2.1 (TX1 1).2.2.1 ∈ wsX1_findParts := by decide +kernel
theorem fl_X1_findParts_18 : Cond.fieldLink RX1 18 (TX1 2).1 (TX1 2).2.1 (TX1 2).2.2.1 ∈ wsX1_findParts := by decide +kernel
theorem fl_X1_findParts_21 : Cond.fieldLink RX1 21 (TX1 3).1 (TX1 3).2.1 (TX1 3).2.2.1 ∈ wsX1_findParts := by decide +kernel
theorem fl_X1_findParts_32 : Cond.fieldLink RX1 32 (TX1 4).1 (TX1 4).2.1 (TX1 4).2.2.1 ∈ wsX1_findParts := by decide +kernel
set_option maxHeartbeats 200000 in
set_option maxRecDepth 100000 in
theorem c_X1_findParts (l : Launch) {g : GW} {asked : Int64} {values : Nat → Int32} {bytes : Nat → Int32} {starts : Nat → Int32} {ends : Nat → Int32} {L : Nat} {parts : Int32} {texts : Nat → Int32} {lengths : Nat → Int32} {feet : Nat → Int32} {sorts : Nat → Int32} {nxt : Nat → Int32} {size : Int32} {sums : Nat → Int32} {oneSums : Nat → Int32} {otherSums : Nat → Int32} {byFeet : Nat → Int64} {kept : Nat → Int64} {over : Int32} {rcount : Int32} {rcust : Int32} {ssums : Nat → Int32} {ways : Nat → Int64} {nextWays : Nat → Int64} {reached : Nat → Int64} {nextReached : Nat → Int64} {found : Int32} {least : Int32} {greatest : Int32} {sz : Nat} (hL2 : L ≤ 40) (hd : dW 25 g.2.2) : Met l yX1_findParts wsX1_findParts ({ frames := 0, cells := 0, slots := 0, locals := 0 }) (va_Pc ([.ref (g.2.2 3)]) (qW g (wX g asked values bytes starts ends (nI (L)) parts texts lengths feet sorts nxt size sums oneSums otherSums byFeet kept over rcount rcust ssums ways nextWays reached nextReached found least greatest) sz)) (va_Qv (fun (z : (Nat → Int32) × (Nat → Int32) × Int32) => z.2.2 = nI (pn bytes L) ∧ prow bytes L z.1 z.2.1) (fun (z : (Nat → Int32) × (Nat → Int32) × Int32) (t : State) => va_P g.1 vwCl (wX g asked values bytes (z.1) (z.2.1) (nI (L)) (z.2.2) texts lengths feet sorts nxt size sums oneSums otherSums byFeet kept over rcount rcust ssums ways nextWays reached nextReached found least greatest) t.heap) (aW 25 g.2.2 sz)) 0 0 (aW 25 g.2.2 sz) := by
  refine Met.ofW (cc := cX1_findParts) (maxL := 3) (ret := none) (by decide) rfl ?_
  intro p e s m args below meth c s₁ B hml hv
  obtain ⟨rfl, hsz9, hP, hK, hN⟩ := hv
  subst hsz9
  have hx := B.exec
  have hb := B.bytes
  have hr := B.returns
  have hts := atoms_spec (ws := wsX1_findParts) B.pre
  have hown : s.vm.findClass RX1 = some m.cls := findClass_of_methodNamed B.named
  have hlocks := B.notSynchronized
  have hS : va_S (aW 25 g.2.2 s.heap.size) s.heap s.heap [] := va_S.rf
  have hl := lv_entry ([.ref (g.2.2 3)]) (n := 3) (Nat.le_of_ble_eq_true rfl)
  rw [lg_entry_eq]
  generalize (lg_sl ([.ref (g.2.2 3)]) ++ List.replicate (3 - (lg_sl ([.ref (g.2.2 3)])).length) Slot.unset).toArray = ls at hl ⊢
  have hl : lv_has ls 3 [(0, .ref (g.2.2 3))] := hl
  refine lv_aload_n hx hb dX1_findParts_0 rfl (lv_at hl 0 rfl) ?_
  refine lv_iconst (v := (nI (0))) hx hb dX1_findParts_1 (by decide) ?_
  refine an_put (ci := 1) (v := .int (nI (0))) (ty := .int) (C := RX1) (T := TX1) (N := 5) (ws' := (wX g asked values bytes starts ends (nI (L)) ((nI (0))) texts lengths feet sorts nxt size sums oneSums otherSums byFeet kept over rcount rcust ssums ways nextWays reached nextReached found least greatest)) hx hb hts iw_X1_findParts_X1 tyX1 tyX1_ok nmX1 hown hK hP (wX_D hd) hS 3 rfl rfl 4 (by decide) (hts _ fl_X1_findParts_32) rfl (by decide +kernel) (rfl) (rfl) (Nat.le_of_ble_eq_true rfl) rfl dX1_findParts_2 (fun H locs hP hS => ?_)
  refine lv_bipush (v := (nI (32))) hx hb dX1_findParts_5 (by decide) ?_
  refine lv_istore_n (lv' := [(1, .int (nI (32))), (0, .ref (g.2.2 3))]) hx hb dX1_findParts_7 rfl hl (by decide) rfl (fun ls hl => ?_)
  refine lv_iconst (v := (nI (0))) hx hb dX1_findParts_8 (by decide) ?_
  refine lv_istore_n (lv' := [(2, .int (nI (0))), (1, .int (nI (32))), (0, .ref (g.2.2 3))]) hx hb dX1_findParts_9 rfl hl (by decide) rfl (fun ls hl => ?_)
  have lp_10 : ∀ (n : Nat) (k : Nat) (st : Nat → Int32) (en : Nat → Int32), (k ≤ L) → (prow bytes k st en) → L - k < n → ∀ (H : Heap) (locs : List Loc), va_P g.1 vwCl (wX g asked values bytes st en (nI (L)) (nI (pn bytes k)) texts lengths feet sorts nxt size sums oneSums otherSums byFeet kept over rcount rcust ssums ways nextWays reached nextReached found least greatest) H → va_S (aW 25 g.2.2 s.heap.size) s.heap H locs → ∀ (ls : Array Slot), lv_has ls 3 [(0, .ref (g.2.2 3)), (1, .int (ahd bytes 0 k)), (2, .int (nI (k)))] → W p l e (headSpec wsX1_findParts ({ frames := 0, cells := 0, slots := 0, locals := 0 })).room s m (([.ref (g.2.2 3)] : List Value).toArray) below meth c H locs 0 0 (MQ below (va_Qv (fun (z : (Nat → Int32) × (Nat → Int32) × Int32) => z.2.2 = nI (pn bytes L) ∧ prow bytes L z.1 z.2.1) (fun (z : (Nat → Int32) × (Nat → Int32) × Int32) (t : State) => va_P g.1 vwCl (wX g asked values bytes (z.1) (z.2.1) (nI (L)) (z.2.2) texts lengths feet sorts nxt size sums oneSums otherSums byFeet kept over rcount rcust ssums ways nextWays reached nextReached found least greatest) t.heap) (aW 25 g.2.2 s.heap.size)) (([.ref (g.2.2 3)] : List Value).toArray) s 0 0 (aW 25 g.2.2 s.heap.size)) (F0 m 10 ls []) := by
    intro n
    induction n with
    | zero => intro k st en hi hrr hm; exact absurd hm (Nat.not_lt_zero _)
    | succ n ih_10 =>
      intro k st en hi hrr hm_10 H locs hP hS ls hl
      have hrm := pn_room bytes k
      have hah : bytes k = ahd bytes 0 (k + 1) := by show _ = bytes (0 + k); rw [Nat.zero_add]
      refine lv_iload_n hx hb dX1_findParts_10 rfl (lv_at hl 2 rfl) ?_
      refine lv_aload_n hx hb dX1_findParts_11 rfl (lv_at hl 0 rfl) ?_
      refine an_get (ci := 1) (v := .int (nI (L))) (C := RX1) (T := TX1) (N := 5) hx hb hts iw_X1_findParts_X1 hown hK hP 3 rfl rfl 3 (by decide) (hts _ fl_X1_findParts_21) rfl dX1_findParts_12 ?_
      refine lv_icmp_ge (tgt := 82) hx hb dX1_findParts_15 (by decide) (fun c_15 => ?_) (fun c_15 => ?_)
      · have c_15 := (cv_le_nn (by omega) (by omega)).mp c_15
        exact wr_vret (st, en, nI (pn bytes k)) hx hb hr hlocks (by rw [show L = k by omega]; exact ⟨rfl, hrr⟩) (fun t ht => show va_P g.1 vwCl (wX g asked values bytes st en (nI (L)) (nI (pn bytes k)) texts lengths feet sorts nxt size sums oneSums otherSums byFeet kept over rcount rcust ssums ways nextWays reached nextReached found least greatest) t.heap by rw [ht]; exact hP) hS dX1_findParts_82
      · have c_15 := (not_congr (cv_le_nn (by omega) (by omega))).mp c_15
        refine lv_aload_n hx hb dX1_findParts_18 rfl (lv_at hl 0 rfl) ?_
        refine an_get (ci := 1) (v := .ref (g.2.2 4)) (C := RX1) (T := TX1) (N := 5) hx hb hts iw_X1_findParts_X1 hown hK hP 3 rfl rfl 0 (by decide) (hts _ fl_X1_findParts_9) rfl dX1_findParts_19 ?_
        refine lv_iload_n hx hb dX1_findParts_22 rfl (lv_at hl 2 rfl) ?_
        refine an_iald (f := bytes) hx hb hK hP 4 0 rfl rfl (by decide) (by omega) dX1_findParts_23 ?_
        refine lv_bipush (v := (nI (32))) hx hb dX1_findParts_24 (by decide) ?_
        refine lv_icmp_eq (tgt := 69) hx hb dX1_findParts_26 (by decide) (fun c_26 => ?_) (fun c_26 => ?_)
        · have c_26 := (cv_eq_in (by omega)).mp c_26
          refine lv_aload_n hx hb dX1_findParts_69 rfl (lv_at hl 0 rfl) ?_
          refine an_get (ci := 1) (v := .ref (g.2.2 4)) (C := RX1) (T := TX1) (N := 5) hx hb hts iw_X1_findParts_X1 hown hK hP 3 rfl rfl 0 (by decide) (hts _ fl_X1_findParts_9) rfl dX1_findParts_70 ?_
          refine lv_iload_n hx hb dX1_findParts_73 rfl (lv_at hl 2 rfl) ?_
          refine an_iald (f := bytes) hx hb hK hP 4 0 rfl rfl (by decide) (by omega) dX1_findParts_74 ?_
          refine lv_istore_n (lv' := [(1, .int (bytes (k))), (0, .ref (g.2.2 3)), (2, .int (nI (k)))]) hx hb dX1_findParts_75 rfl hl (by decide) rfl (fun ls hl => ?_)
          refine lv_iinc (v := (nI (k + 1))) (lv' := [(2, .int (nI (k + 1))), (1, .int (bytes (k))), (0, .ref (g.2.2 3))]) hx hb dX1_findParts_76 hl (k := 2) rfl (nI_add _ 1) (by decide) rfl (fun ls hl => ?_)
          refine lv_goto (tgt := 10) hx hb dX1_findParts_79 (by decide) ?_
          rw [← pn_old (Or.inl c_26)] at hP
          rw [hah] at hl
          exact ih_10 (k + 1) st en (by omega) (prow_sp hrr c_26) (by omega) _ _ hP hS ls (lv_sub hl [2, 1, 0] rfl)
        · have c_26 := (not_congr (cv_eq_in (by omega))).mp c_26
          refine lv_iload_n hx hb dX1_findParts_29 rfl (lv_at hl 1 rfl) ?_
          refine lv_bipush (v := (nI (32))) hx hb dX1_findParts_30 (by decide) ?_
          refine lv_icmp_ne (tgt := 55) hx hb dX1_findParts_32 (by decide) (fun c_32 => ?_) (fun c_32 => ?_)
          · have c_32 := (not_congr (cv_eq_in (by omega))).mp c_32
            have h55 : 1 ≤ pn bytes k ∨ (ahd bytes 0 k).toInt = 32 := by by_cases z : (ahd bytes 0 k).toInt = 32; exact Or.inr z; exact Or.inl (hrm.2.2 z)
            refine lv_aload_n hx hb dX1_findParts_55 rfl (lv_at hl 0 rfl) ?_
            refine an_get (ci := 1) (v := .ref (g.2.2 6)) (C := RX1) (T := TX1) (N := 5) hx hb hts iw_X1_findParts_X1 hown hK hP 3 rfl rfl 2 (by decide) (hts _ fl_X1_findParts_18) rfl dX1_findParts_56 ?_
            refine lv_aload_n hx hb dX1_findParts_59 rfl (lv_at hl 0 rfl) ?_
            refine an_get (ci := 1) (v := .int (nI (pn bytes k))) (C := RX1) (T := TX1) (N := 5) hx hb hts iw_X1_findParts_X1 hown hK hP 3 rfl rfl 4 (by decide) (hts _ fl_X1_findParts_32) rfl dX1_findParts_60 ?_
            refine lv_iconst (v := (nI (1))) hx hb dX1_findParts_63 (by decide) ?_
            refine ln_isub hx hb (by omega) dX1_findParts_64 ?_
            refine lv_iload_n hx hb dX1_findParts_65 rfl (lv_at hl 2 rfl) ?_
            refine lv_iconst (v := (nI (1))) hx hb dX1_findParts_66 (by decide) ?_
            refine ln_iadd hx hb dX1_findParts_67 ?_
            refine an_iast (f := en) (ws' := (wX g asked values bytes st (upd (en) ((pn bytes k) - 1) (nI (k + 1))) (nI (L)) (nI (pn bytes k)) texts lengths feet sorts nxt size sums oneSums otherSums byFeet kept over rcount rcust ssums ways nextWays reached nextReached found least greatest)) hx hb hK hP (wX_D hd) hS 6 0 rfl rfl (by decide) (by omega) rfl dX1_findParts_68 (fun H locs hP hS => ?_)
            refine lv_aload_n hx hb dX1_findParts_69 rfl (lv_at hl 0 rfl) ?_
            refine an_get (ci := 1) (v := .ref (g.2.2 4)) (C := RX1) (T := TX1) (N := 5) hx hb hts iw_X1_findParts_X1 hown hK hP 3 rfl rfl 0 (by decide) (hts _ fl_X1_findParts_9) rfl dX1_findParts_70 ?_
            refine lv_iload_n hx hb dX1_findParts_73 rfl (lv_at hl 2 rfl) ?_
            refine an_iald (f := bytes) hx hb hK hP 4 0 rfl rfl (by decide) (by omega) dX1_findParts_74 ?_
            refine lv_istore_n (lv' := [(1, .int (bytes (k))), (0, .ref (g.2.2 3)), (2, .int (nI (k)))]) hx hb dX1_findParts_75 rfl hl (by decide) rfl (fun ls hl => ?_)
            refine lv_iinc (v := (nI (k + 1))) (lv' := [(2, .int (nI (k + 1))), (1, .int (bytes (k))), (0, .ref (g.2.2 3))]) hx hb dX1_findParts_76 hl (k := 2) rfl (nI_add _ 1) (by decide) rfl (fun ls hl => ?_)
            refine lv_goto (tgt := 10) hx hb dX1_findParts_79 (by decide) ?_
            rw [← pn_old (Or.inr c_32)] at hP
            rw [hah] at hl
            exact ih_10 (k + 1) st (upd en (pn bytes (k + 1) - 1) (nI (k + 1))) (by omega) (by rw [pn_old (Or.inr c_32)]; exact prow_in hrr c_26 c_32) (by omega) _ _ hP hS ls (lv_sub hl [2, 1, 0] rfl)
          · have c_32 := (cv_eq_in (by omega)).mp c_32
            have h35 := hrm.2.1 (by omega)
            refine lv_aload_n hx hb dX1_findParts_35 rfl (lv_at hl 0 rfl) ?_
            refine an_get (ci := 1) (v := .ref (g.2.2 5)) (C := RX1) (T := TX1) (N := 5) hx hb hts iw_X1_findParts_X1 hown hK hP 3 rfl rfl 1 (by decide) (hts _ fl_X1_findParts_15) rfl dX1_findParts_36 ?_
            refine lv_aload_n hx hb dX1_findParts_39 rfl (lv_at hl 0 rfl) ?_
            refine an_get (ci := 1) (v := .int (nI (pn bytes k))) (C := RX1) (T := TX1) (N := 5) hx hb hts iw_X1_findParts_X1 hown hK hP 3 rfl rfl 4 (by decide) (hts _ fl_X1_findParts_32) rfl dX1_findParts_40 ?_
            refine lv_iload_n hx hb dX1_findParts_43 rfl (lv_at hl 2 rfl) ?_
            refine an_iast (f := st) (ws' := (wX g asked values bytes (upd (st) (pn bytes k) (nI (k))) en (nI (L)) (nI (pn bytes k)) texts lengths feet sorts nxt size sums oneSums otherSums byFeet kept over rcount rcust ssums ways nextWays reached nextReached found least greatest)) hx hb hK hP (wX_D hd) hS 5 0 rfl rfl (by decide) (by omega) rfl dX1_findParts_44 (fun H locs hP hS => ?_)
            refine lv_aload_n hx hb dX1_findParts_45 rfl (lv_at hl 0 rfl) ?_
            refine lv_dup hx hb dX1_findParts_46 rfl ?_
            refine an_get (ci := 1) (v := .int (nI (pn bytes k))) (C := RX1) (T := TX1) (N := 5) hx hb hts iw_X1_findParts_X1 hown hK hP 3 rfl rfl 4 (by decide) (hts _ fl_X1_findParts_32) rfl dX1_findParts_47 ?_
            refine lv_iconst (v := (nI (1))) hx hb dX1_findParts_50 (by decide) ?_
            refine ln_iadd hx hb dX1_findParts_51 ?_
            refine an_put (ci := 1) (v := .int (nI ((pn bytes k) + 1))) (ty := .int) (C := RX1) (T := TX1) (N := 5) (ws' := (wX g asked values bytes (upd (st) (pn bytes k) (nI (k))) en (nI (L)) ((nI ((pn bytes k) + 1))) texts lengths feet sorts nxt size sums oneSums otherSums byFeet kept over rcount rcust ssums ways nextWays reached nextReached found least greatest)) hx hb hts iw_X1_findParts_X1 tyX1 tyX1_ok nmX1 hown hK hP (wX_D hd) hS 3 rfl rfl 4 (by decide) (hts _ fl_X1_findParts_32) rfl (by decide +kernel) (rfl) (rfl) (Nat.le_of_ble_eq_true rfl) rfl dX1_findParts_52 (fun H locs hP hS => ?_)
            have h55 : 1 ≤ pn bytes k ∨ (ahd bytes 0 k).toInt = 32 := by by_cases z : (ahd bytes 0 k).toInt = 32; exact Or.inr z; exact Or.inl (hrm.2.2 z)
            refine lv_aload_n hx hb dX1_findParts_55 rfl (lv_at hl 0 rfl) ?_
            refine an_get (ci := 1) (v := .ref (g.2.2 6)) (C := RX1) (T := TX1) (N := 5) hx hb hts iw_X1_findParts_X1 hown hK hP 3 rfl rfl 2 (by decide) (hts _ fl_X1_findParts_18) rfl dX1_findParts_56 ?_
            refine lv_aload_n hx hb dX1_findParts_59 rfl (lv_at hl 0 rfl) ?_
            refine an_get (ci := 1) (v := .int (nI ((pn bytes k) + 1))) (C := RX1) (T := TX1) (N := 5) hx hb hts iw_X1_findParts_X1 hown hK hP 3 rfl rfl 4 (by decide) (hts _ fl_X1_findParts_32) rfl dX1_findParts_60 ?_
            refine lv_iconst (v := (nI (1))) hx hb dX1_findParts_63 (by decide) ?_
            refine ln_isub hx hb (by omega) dX1_findParts_64 ?_
            refine lv_iload_n hx hb dX1_findParts_65 rfl (lv_at hl 2 rfl) ?_
            refine lv_iconst (v := (nI (1))) hx hb dX1_findParts_66 (by decide) ?_
            refine ln_iadd hx hb dX1_findParts_67 ?_
            refine an_iast (f := en) (ws' := (wX g asked values bytes (upd (st) (pn bytes k) (nI (k))) (upd (en) (((pn bytes k) + 1) - 1) (nI (k + 1))) (nI (L)) ((nI ((pn bytes k) + 1))) texts lengths feet sorts nxt size sums oneSums otherSums byFeet kept over rcount rcust ssums ways nextWays reached nextReached found least greatest)) hx hb hK hP (wX_D hd) hS 6 0 rfl rfl (by decide) (by omega) rfl dX1_findParts_68 (fun H locs hP hS => ?_)
            refine lv_aload_n hx hb dX1_findParts_69 rfl (lv_at hl 0 rfl) ?_
            refine an_get (ci := 1) (v := .ref (g.2.2 4)) (C := RX1) (T := TX1) (N := 5) hx hb hts iw_X1_findParts_X1 hown hK hP 3 rfl rfl 0 (by decide) (hts _ fl_X1_findParts_9) rfl dX1_findParts_70 ?_
            refine lv_iload_n hx hb dX1_findParts_73 rfl (lv_at hl 2 rfl) ?_
            refine an_iald (f := bytes) hx hb hK hP 4 0 rfl rfl (by decide) (by omega) dX1_findParts_74 ?_
            refine lv_istore_n (lv' := [(1, .int (bytes (k))), (0, .ref (g.2.2 3)), (2, .int (nI (k)))]) hx hb dX1_findParts_75 rfl hl (by decide) rfl (fun ls hl => ?_)
            refine lv_iinc (v := (nI (k + 1))) (lv' := [(2, .int (nI (k + 1))), (1, .int (bytes (k))), (0, .ref (g.2.2 3))]) hx hb dX1_findParts_76 hl (k := 2) rfl (nI_add _ 1) (by decide) rfl (fun ls hl => ?_)
            refine lv_goto (tgt := 10) hx hb dX1_findParts_79 (by decide) ?_
            rw [Nat.add_sub_cancel] at hP
            rw [← pn_new c_26 c_32] at hP
            rw [hah] at hl
            exact ih_10 (k + 1) (upd st (pn bytes k) (nI k)) (upd en (pn bytes k) (nI (k + 1))) (by omega) (prow_new hrr c_26 c_32) (by omega) _ _ hP hS ls (lv_sub hl [2, 1, 0] rfl)
  exact lp_10 (L - (0) + 1) 0 starts ends (Nat.zero_le _) (fun i hi => absurd hi (Nat.not_lt_zero i)) (Nat.lt_succ_self _) _ _ hP hS ls (lv_sub hl [2, 1, 0] rfl)
end
section
theorem iw_X4_fitsPart_X1 : ∀ w ∈ u_ws RX1 TX1 5, w ∈ wsX4_fitsPart := by decide +kernel
theorem iw_X4_fitsPart_X4 : ∀ w ∈ u_ws RX4 TX4 6, w ∈ wsX4_fitsPart := by decide +kernel
theorem fl_X4_fitsPart_9 : Cond.fieldLink RX4 9 (TX4 0).1 (TX4 0).2.1 (TX4 0).2.2.1 ∈ wsX4_fitsPart := by decide +kernel
theorem fl_X4_fitsPart_15 : Cond.fieldLink RX4 15 (TX4 1).1 (TX4 1).2.1 (TX4 1).2.2.1 ∈ wsX4_fitsPart := by decide +kernel
theorem fl_X4_fitsPart_33 : Cond.fieldLink RX4 33 (TX1 0).1 (TX1 0).2.1 (TX1 0).2.2.1 ∈ wsX4_fitsPart := by decide +kernel
theorem fl_X4_fitsPart_51 : Cond.fieldLink RX4 51 (TX1 1).1 (TX1 1).2.1 (TX1 1).2.2.1 ∈ wsX4_fitsPart := by decide +kernel
theorem fl_X4_fitsPart_54 : Cond.fieldLink RX4 54 (TX1 2).1 (TX1 2).2.1 (TX1 2).2.2.1 ∈ wsX4_fitsPart := by decide +kernel
set_option maxHeartbeats 200000 in
set_option maxRecDepth 100000 in
theorem c_X4_fitsPart (l : Launch) {g : GW} {asked : Int64} {values : Nat → Int32} {bytes : Nat → Int32} {starts : Nat → Int32} {ends : Nat → Int32} {L : Nat} {parts : Int32} {texts : Nat → Int32} {lengths : Nat → Int32} {feet : Nat → Int32} {sorts : Nat → Int32} {nxt : Nat → Int32} {size : Int32} {sums : Nat → Int32} {oneSums : Nat → Int32} {otherSums : Nat → Int32} {byFeet : Nat → Int64} {kept : Nat → Int64} {over : Int32} {rcount : Int32} {rcust : Int32} {ssums : Nat → Int32} {ways : Nat → Int64} {nextWays : Nat → Int64} {reached : Nat → Int64} {nextReached : Nat → Int64} {found : Int32} {least : Int32} {greatest : Int32} (vocable : Nat) (part : Nat) (nv : Nat) (hnv : nv ≤ 10) (hv : vocable < nv) (hL2 : L ≤ 40) (hpt : part < pn bytes L) (hrow : prow bytes L starts ends) (hle : okV lengths nv 1 8) : Met l yX4_fitsPart wsX4_fitsPart ({ frames := 0, cells := 0, slots := 0, locals := 0 }) (va_Pc ([.ref (g.2.2 7), .int (nI (vocable)), .ref (g.2.2 3), .int (nI (part))]) (pW g (wX g asked values bytes starts ends (nI (L)) parts texts lengths feet sorts nxt size sums oneSums otherSums byFeet kept over rcount rcust ssums ways nextWays reached nextReached found least greatest))) (ro_Q (.int (if fitP bytes texts lengths L part vocable then 1 else 0))) 0 0 (fun _ => False) := by
  refine Met.ofW (cc := cX4_fitsPart) (maxL := 8) (ret := (some .boolean)) (by decide) rfl ?_
  intro p e s m args below meth c s₁ B hml hv
  obtain ⟨rfl, hP, hK, hN⟩ := hv
  have hx := B.exec
  have hb := B.bytes
  have hr := B.returns
  have hts := atoms_spec (ws := wsX4_fitsPart) B.pre
  have hown : s.vm.findClass RX4 = some m.cls := findClass_of_methodNamed B.named
  have hlocks := B.notSynchronized
  have hl := lv_entry ([.ref (g.2.2 7), .int (nI (vocable)), .ref (g.2.2 3), .int (nI (part))]) (n := 8) (Nat.le_of_ble_eq_true rfl)
  rw [lg_entry_eq]
  generalize (lg_sl ([.ref (g.2.2 7), .int (nI (vocable)), .ref (g.2.2 3), .int (nI (part))]) ++ List.replicate (8 - (lg_sl ([.ref (g.2.2 7), .int (nI (vocable)), .ref (g.2.2 3), .int (nI (part))])).length) Slot.unset).toArray = ls at hl ⊢
  have hl : lv_has ls 8 [(0, .ref (g.2.2 7)), (1, .int (nI (vocable))), (2, .ref (g.2.2 3)), (3, .int (nI (part)))] := hl
  have hpr := hrow part hpt
  have hpe := pse bytes L part hpt
  have hlv := hle vocable hv
  have hp20 := pn_room bytes L
  refine lv_aload_n hx hb dX4_fitsPart_0 rfl (lv_at hl 2 rfl) ?_
  refine an_get (ci := 1) (v := .ref (g.2.2 5)) (C := RX1) (T := TX1) (N := 5) hx hb hts iw_X4_fitsPart_X1 hown hK hP 3 rfl rfl 1 (by decide) (hts _ fl_X4_fitsPart_51) rfl dX4_fitsPart_1 ?_
  refine lv_iload_n hx hb dX4_fitsPart_4 rfl (lv_at hl 3 rfl) ?_
  refine an_iald (f := starts) hx hb hK hP 5 0 rfl rfl (by decide) (by omega) dX4_fitsPart_5 ?_
  refine ln_toi (y := (nI (psx bytes L part))) (hpr.1) ?_
  refine lv_istore (lv' := [(4, .int (nI (psx bytes L part))), (0, .ref (g.2.2 7)), (1, .int (nI (vocable))), (2, .ref (g.2.2 3)), (3, .int (nI (part)))]) hx hb dX4_fitsPart_6 hl (by decide) rfl (fun ls hl => ?_)
  refine lv_aload_n hx hb dX4_fitsPart_8 rfl (lv_at hl 3 rfl) ?_
  refine an_get (ci := 1) (v := .ref (g.2.2 6)) (C := RX1) (T := TX1) (N := 5) hx hb hts iw_X4_fitsPart_X1 hown hK hP 3 rfl rfl 2 (by decide) (hts _ fl_X4_fitsPart_54) rfl dX4_fitsPart_9 ?_
  refine lv_iload_n hx hb dX4_fitsPart_12 rfl (lv_at hl 4 rfl) ?_
  refine an_iald (f := ends) hx hb hK hP 6 0 rfl rfl (by decide) (by omega) dX4_fitsPart_13 ?_
  refine ln_toi (y := (nI (pex bytes L part))) (hpr.2) ?_
  refine lv_iload hx hb dX4_fitsPart_14 (lv_at hl 0 rfl) ?_
  refine ln_isub hx hb (by omega) dX4_fitsPart_16 ?_
  refine lv_istore (lv' := [(5, .int (nI ((pex bytes L part) - (psx bytes L part)))), (4, .int (nI (psx bytes L part))), (0, .ref (g.2.2 7)), (1, .int (nI (vocable))), (2, .ref (g.2.2 3)), (3, .int (nI (part)))]) hx hb dX4_fitsPart_17 hl (by decide) rfl (fun ls hl => ?_)
  refine lv_iload hx hb dX4_fitsPart_19 (lv_at hl 0 rfl) ?_
  refine lv_aload_n hx hb dX4_fitsPart_21 rfl (lv_at hl 2 rfl) ?_
  refine an_get (ci := 4) (v := .ref (g.2.2 9)) (C := RX4) (T := TX4) (N := 6) hx hb hts iw_X4_fitsPart_X4 hown hK hP 7 rfl rfl 1 (by decide) (hts _ fl_X4_fitsPart_15) rfl dX4_fitsPart_22 ?_
  refine lv_iload_n hx hb dX4_fitsPart_25 rfl (lv_at hl 3 rfl) ?_
  refine an_iald (f := lengths) hx hb hK hP 9 0 rfl rfl (by decide) (by omega) dX4_fitsPart_26 ?_
  refine ln_toi (y := (nI (tn (lengths vocable)))) (hlv.1) ?_
  refine lv_icmp_eq (tgt := 32) hx hb dX4_fitsPart_27 (by decide) (fun c_27 => ?_) (fun c_27 => ?_)
  · have c_27 := (cv_eq_nn (by omega) (by omega)).mp c_27
    refine lv_iconst (v := (nI (0))) hx hb dX4_fitsPart_32 (by decide) ?_
    refine lv_istore (lv' := [(6, .int (nI (0))), (5, .int (nI ((pex bytes L part) - (psx bytes L part)))), (4, .int (nI (psx bytes L part))), (0, .ref (g.2.2 7)), (1, .int (nI (vocable))), (2, .ref (g.2.2 3)), (3, .int (nI (part)))]) hx hb dX4_fitsPart_33 hl (by decide) rfl (fun ls hl => ?_)
    have lp_35 : ∀ (n : Nat) (i : Nat), (i ≤ pex bytes L part - psx bytes L part) → (∀ k, k < i → ((bytes (psx bytes L part + k)).toInt = 63 ∨ (bytes (psx bytes L part + k)).toInt = (texts (vocable * 8 + k)).toInt)) → pex bytes L part - psx bytes L part - i < n → ∀ (ls : Array Slot), lv_has ls 8 [(0, .ref (g.2.2 7)), (1, .int (nI (vocable))), (2, .ref (g.2.2 3)), (3, .int (nI (part))), (4, .int (nI (psx bytes L part))), (5, .int (nI ((pex bytes L part) - (psx bytes L part)))), (6, .int (nI (i)))] → W p l e (headSpec wsX4_fitsPart ({ frames := 0, cells := 0, slots := 0, locals := 0 })).room s m (([.ref (g.2.2 7), .int (nI (vocable)), .ref (g.2.2 3), .int (nI (part))] : List Value).toArray) below meth c s.heap [] 0 0 (MQ below (ro_Q (.int (if fitP bytes texts lengths L part vocable then 1 else 0))) (([.ref (g.2.2 7), .int (nI (vocable)), .ref (g.2.2 3), .int (nI (part))] : List Value).toArray) s 0 0 (fun _ => False)) (F0 m 35 ls []) := by
      intro n
      induction n with
      | zero => intro i hi ho hm; exact absurd hm (Nat.not_lt_zero _)
      | succ n ih_35 =>
        intro i hi ho hm_35 ls hl
        refine lv_iload hx hb dX4_fitsPart_35 (lv_at hl 6 rfl) ?_
        refine lv_iload hx hb dX4_fitsPart_37 (lv_at hl 5 rfl) ?_
        refine lv_icmp_ge (tgt := 86) hx hb dX4_fitsPart_39 (by decide) (fun c_39 => ?_) (fun c_39 => ?_)
        · have c_39 := (cv_le_nn (by omega) (by omega)).mp c_39
          refine lv_iconst (v := (nI (1))) hx hb dX4_fitsPart_86 (by decide) ?_
          exact ro_zret hx hb hr hlocks (rfl) (one_if ⟨by omega, fun k hk => ho k (by omega)⟩) dX4_fitsPart_87
        · have c_39 := (not_congr (cv_le_nn (by omega) (by omega))).mp c_39
          refine lv_aload_n hx hb dX4_fitsPart_42 rfl (lv_at hl 2 rfl) ?_
          refine an_get (ci := 1) (v := .ref (g.2.2 4)) (C := RX1) (T := TX1) (N := 5) hx hb hts iw_X4_fitsPart_X1 hown hK hP 3 rfl rfl 0 (by decide) (hts _ fl_X4_fitsPart_33) rfl dX4_fitsPart_43 ?_
          refine lv_iload hx hb dX4_fitsPart_46 (lv_at hl 4 rfl) ?_
          refine lv_iload hx hb dX4_fitsPart_48 (lv_at hl 6 rfl) ?_
          refine ln_iadd hx hb dX4_fitsPart_50 ?_
          refine an_iald (f := bytes) hx hb hK hP 4 0 rfl rfl (by decide) (by omega) dX4_fitsPart_51 ?_
          refine lv_istore (lv' := [(7, .int (bytes ((psx bytes L part) + i))), (0, .ref (g.2.2 7)), (1, .int (nI (vocable))), (2, .ref (g.2.2 3)), (3, .int (nI (part))), (4, .int (nI (psx bytes L part))), (5, .int (nI ((pex bytes L part) - (psx bytes L part)))), (6, .int (nI (i)))]) hx hb dX4_fitsPart_52 hl (by decide) rfl (fun ls hl => ?_)
          refine lv_iload hx hb dX4_fitsPart_54 (lv_at hl 0 rfl) ?_
          refine lv_bipush (v := (nI (63))) hx hb dX4_fitsPart_56 (by decide) ?_
          refine lv_icmp_eq (tgt := 80) hx hb dX4_fitsPart_58 (by decide) (fun c_58 => ?_) (fun c_58 => ?_)
          · have c_58 := (cv_eq_in (by omega)).mp c_58
            refine lv_iinc (v := (nI (i + 1))) (lv' := [(6, .int (nI (i + 1))), (7, .int (bytes ((psx bytes L part) + i))), (0, .ref (g.2.2 7)), (1, .int (nI (vocable))), (2, .ref (g.2.2 3)), (3, .int (nI (part))), (4, .int (nI (psx bytes L part))), (5, .int (nI ((pex bytes L part) - (psx bytes L part))))]) hx hb dX4_fitsPart_80 hl (k := 7) rfl (nI_add _ 1) (by decide) rfl (fun ls hl => ?_)
            refine lv_goto (tgt := 35) hx hb dX4_fitsPart_83 (by decide) ?_
            exact ih_35 (i + 1) (by omega) (lt_s ho (Or.inl (by omega))) (by omega) ls (lv_sub hl [2, 3, 4, 5, 6, 7, 0] rfl)
          · have c_58 := (not_congr (cv_eq_in (by omega))).mp c_58
            refine lv_iload hx hb dX4_fitsPart_61 (lv_at hl 0 rfl) ?_
            refine lv_aload_n hx hb dX4_fitsPart_63 rfl (lv_at hl 1 rfl) ?_
            refine an_get (ci := 4) (v := .ref (g.2.2 8)) (C := RX4) (T := TX4) (N := 6) hx hb hts iw_X4_fitsPart_X4 hown hK hP 7 rfl rfl 0 (by decide) (hts _ fl_X4_fitsPart_9) rfl dX4_fitsPart_64 ?_
            refine lv_iload_n hx hb dX4_fitsPart_67 rfl (lv_at hl 2 rfl) ?_
            refine lv_bipush (v := (nI (8))) hx hb dX4_fitsPart_68 (by decide) ?_
            refine ln_imul hx hb dX4_fitsPart_70 ?_
            refine lv_iload hx hb dX4_fitsPart_71 (lv_at hl 7 rfl) ?_
            refine ln_iadd hx hb dX4_fitsPart_73 ?_
            refine an_iald (f := texts) hx hb hK hP 8 0 rfl rfl (by decide) (by omega) dX4_fitsPart_74 ?_
            refine lv_icmp_eq (tgt := 80) hx hb dX4_fitsPart_75 (by decide) (fun c_75 => ?_) (fun c_75 => ?_)
            · have c_75 := (cv_eq_ii ).mp c_75
              refine lv_iinc (v := (nI (i + 1))) (lv' := [(6, .int (nI (i + 1))), (7, .int (bytes ((psx bytes L part) + i))), (0, .ref (g.2.2 7)), (1, .int (nI (vocable))), (2, .ref (g.2.2 3)), (3, .int (nI (part))), (4, .int (nI (psx bytes L part))), (5, .int (nI ((pex bytes L part) - (psx bytes L part))))]) hx hb dX4_fitsPart_80 hl (k := 7) rfl (nI_add _ 1) (by decide) rfl (fun ls hl => ?_)
              refine lv_goto (tgt := 35) hx hb dX4_fitsPart_83 (by decide) ?_
              exact ih_35 (i + 1) (by omega) (lt_s ho (Or.inr (by omega))) (by omega) ls (lv_sub hl [2, 3, 4, 5, 6, 7, 0] rfl)
            · have c_75 := (not_congr (cv_eq_ii )).mp c_75
              refine lv_iconst (v := (nI (0))) hx hb dX4_fitsPart_78 (by decide) ?_
              exact ro_zret hx hb hr hlocks (rfl) (zero_if (fun q => absurd (q.2 i (by omega)) (by omega))) dX4_fitsPart_79
    exact lp_35 (pex bytes L part - psx bytes L part - (0) + 1) 0 (Nat.zero_le _) (fun k hk => absurd hk (Nat.not_lt_zero k)) (Nat.lt_succ_self _) ls (lv_sub hl [3, 4, 5, 6, 2, 1, 0] rfl)
  · have c_27 := (not_congr (cv_eq_nn (by omega) (by omega))).mp c_27
    refine lv_iconst (v := (nI (0))) hx hb dX4_fitsPart_30 (by decide) ?_
    exact ro_zret hx hb hr hlocks (rfl) (zero_if (fun q => absurd q.1 (by omega))) dX4_fitsPart_31
theorem iw_X2_fittingPart_X2 : ∀ w ∈ u_ws RX2 TX2 11, w ∈ wsX2_fittingPart := by decide +kernel
theorem iw_X2_fittingPart_X4 : ∀ w ∈ u_ws RX4 TX4 6, w ∈ wsX2_fittingPart := by decide +kernel
theorem fl_X2_fittingPart_28 : Cond.fieldLink RX2 28 (TX2 0).1 (TX2 0).2.1 (TX2 0).2.2.1 ∈ wsX2_fittingPart := by decide +kernel
theorem fl_X2_fittingPart_32 : Cond.fieldLink RX2 32 (TX2 1).1 (TX2 1).2.1 (TX2 1).2.2.1 ∈ wsX2_fittingPart := by decide +kernel
theorem fl_X2_fittingPart_40 : Cond.fieldLink RX2 40 (TX4 5).1 (TX4 5).2.1 (TX4 5).2.2.1 ∈ wsX2_fittingPart := by decide +kernel
set_option maxHeartbeats 200000 in
set_option maxRecDepth 100000 in
theorem c_X2_fittingPart (l : Launch) {g : GW} {asked : Int64} {values : Nat → Int32} {bytes : Nat → Int32} {starts : Nat → Int32} {ends : Nat → Int32} {L : Nat} {parts : Int32} {texts : Nat → Int32} {lengths : Nat → Int32} {feet : Nat → Int32} {sorts : Nat → Int32} {nxt : Nat → Int32} {nv : Nat} {sums : Nat → Int32} {oneSums : Nat → Int32} {otherSums : Nat → Int32} {byFeet : Nat → Int64} {kept : Nat → Int64} {over : Int32} {rcount : Int32} {rcust : Int32} {ssums : Nat → Int32} {ways : Nat → Int64} {nextWays : Nat → Int64} {reached : Nat → Int64} {nextReached : Nat → Int64} {found : Int32} {least : Int32} {greatest : Int32} (part : Nat) (hnv : nv ≤ 10) (hL2 : L ≤ 40) (hpt : part < pn bytes L) (hrow : prow bytes L starts ends) (hle : okV lengths nv 1 8) : Met l yX2_fittingPart wsX2_fittingPart ({ frames := 1, cells := 0, slots := 0, locals := 27 }) (va_Pc ([.ref (g.2.2 19), .int (nI (part))]) (pW g (wX g asked values bytes starts ends (nI (L)) parts texts lengths feet sorts nxt (nI (nv)) sums oneSums otherSums byFeet kept over rcount rcust ssums ways nextWays reached nextReached found least greatest))) (ro_Q (.int (nI (fitc bytes texts lengths L part nv)))) 0 0 (fun _ => False) := by
  refine Met.ofW (cc := cX2_fittingPart) (maxL := 4) (ret := (some .int)) (by decide) rfl ?_
  intro p e s m args below meth c s₁ B hml hv
  obtain ⟨rfl, hP, hK, hN⟩ := hv
  have hx := B.exec
  have hb := B.bytes
  have hr := B.returns
  have hts := atoms_spec (ws := wsX2_fittingPart) B.pre
  have hown : s.vm.findClass RX2 = some m.cls := findClass_of_methodNamed B.named
  have hlocks := B.notSynchronized
  have hl := lv_entry ([.ref (g.2.2 19), .int (nI (part))]) (n := 4) (Nat.le_of_ble_eq_true rfl)
  rw [lg_entry_eq]
  generalize (lg_sl ([.ref (g.2.2 19), .int (nI (part))]) ++ List.replicate (4 - (lg_sl ([.ref (g.2.2 19), .int (nI (part))])).length) Slot.unset).toArray = ls at hl ⊢
  have hl : lv_has ls 4 [(0, .ref (g.2.2 19)), (1, .int (nI (part)))] := hl
  refine lv_iconst (v := (nI (0))) hx hb dX2_fittingPart_0 (by decide) ?_
  refine lv_istore_n (lv' := [(2, .int (nI (0))), (0, .ref (g.2.2 19)), (1, .int (nI (part)))]) hx hb dX2_fittingPart_1 rfl hl (by decide) rfl (fun ls hl => ?_)
  refine lv_iconst (v := (nI (0))) hx hb dX2_fittingPart_2 (by decide) ?_
  refine lv_istore_n (lv' := [(3, .int (nI (0))), (2, .int (nI (0))), (0, .ref (g.2.2 19)), (1, .int (nI (part)))]) hx hb dX2_fittingPart_3 rfl hl (by decide) rfl (fun ls hl => ?_)
  have lp_4 : ∀ (n : Nat) (i : Nat), (i ≤ nv) → nv - i < n → ∀ (ls : Array Slot), lv_has ls 4 [(0, .ref (g.2.2 19)), (1, .int (nI (part))), (2, .int (nI (fitc bytes texts lengths L part i))), (3, .int (nI (i)))] → W p l e (headSpec wsX2_fittingPart ({ frames := 1, cells := 0, slots := 0, locals := 27 })).room s m (([.ref (g.2.2 19), .int (nI (part))] : List Value).toArray) below meth c s.heap [] 0 0 (MQ below (ro_Q (.int (nI (fitc bytes texts lengths L part nv)))) (([.ref (g.2.2 19), .int (nI (part))] : List Value).toArray) s 0 0 (fun _ => False)) (F0 m 4 ls []) := by
    intro n
    induction n with
    | zero => intro i hi hm; exact absurd hm (Nat.not_lt_zero _)
    | succ n ih_4 =>
      intro i hi hm_4 ls hl
      refine lv_iload_n hx hb dX2_fittingPart_4 rfl (lv_at hl 3 rfl) ?_
      refine lv_aload_n hx hb dX2_fittingPart_5 rfl (lv_at hl 0 rfl) ?_
      refine an_get (ci := 2) (v := .ref (g.2.2 7)) (C := RX2) (T := TX2) (N := 11) hx hb hts iw_X2_fittingPart_X2 hown hK hP 19 rfl rfl 1 (by decide) (hts _ fl_X2_fittingPart_32) rfl dX2_fittingPart_6 ?_
      refine an_get (ci := 4) (v := .int (nI (nv))) (C := RX4) (T := TX4) (N := 6) hx hb hts iw_X2_fittingPart_X4 hown hK hP 7 rfl rfl 5 (by decide) (hts _ fl_X2_fittingPart_40) rfl dX2_fittingPart_9 ?_
      refine lv_icmp_ge (tgt := 40) hx hb dX2_fittingPart_12 (by decide) (fun c_12 => ?_) (fun c_12 => ?_)
      · have c_12 := (cv_le_nn (by omega) (by omega)).mp c_12
        refine lv_iload_n hx hb dX2_fittingPart_40 rfl (lv_at hl 2 rfl) ?_
        exact ro_iret hx hb hr hlocks (by rw [show nv = i by omega]) dX2_fittingPart_41
      · have c_12 := (not_congr (cv_le_nn (by omega) (by omega))).mp c_12
        refine lv_aload_n hx hb dX2_fittingPart_15 rfl (lv_at hl 0 rfl) ?_
        refine an_get (ci := 2) (v := .ref (g.2.2 7)) (C := RX2) (T := TX2) (N := 11) hx hb hts iw_X2_fittingPart_X2 hown hK hP 19 rfl rfl 1 (by decide) (hts _ fl_X2_fittingPart_32) rfl dX2_fittingPart_16 ?_
        refine lv_iload_n hx hb dX2_fittingPart_19 rfl (lv_at hl 3 rfl) ?_
        refine lv_aload_n hx hb dX2_fittingPart_20 rfl (lv_at hl 0 rfl) ?_
        refine an_get (ci := 2) (v := .ref (g.2.2 3)) (C := RX2) (T := TX2) (N := 11) hx hb hts iw_X2_fittingPart_X2 hown hK hP 19 rfl rfl 0 (by decide) (hts _ fl_X2_fittingPart_28) rfl dX2_fittingPart_21 ?_
        refine lv_iload_n hx hb dX2_fittingPart_24 rfl (lv_at hl 1 rfl) ?_
        refine ro_call (va_runV (As := [.int (nI (i)), .ref (g.2.2 3), .int (nI (part))]) (rest := []) ⟨hx, hb, hml, hown, hts⟩ (c_X4_fitsPart l (g := g) (asked := asked) (values := values) (bytes := bytes) (starts := starts) (ends := ends) (L := L) (parts := parts) (texts := texts) (lengths := lengths) (feet := feet) (sorts := sorts) (nxt := nxt) (size := nI (nv)) (sums := sums) (oneSums := oneSums) (otherSums := otherSums) (byFeet := byFeet) (kept := kept) (over := over) (rcount := rcount) (rcust := rcust) (ssums := ssums) (ways := ways) (nextWays := nextWays) (reached := reached) (nextReached := nextReached) (found := found) (least := least) (greatest := greatest) (i) (part) nv hnv (by omega) hL2 hpt hrow hle) (cwV 3 hts gX2_fittingPart_X4_fitsPart rfl rfl rfl (by decide +kernel) ⟨Nat.le_of_ble_eq_true rfl, Nat.le_of_ble_eq_true rfl⟩) (pre_V pW_bl (va_recv hK hP (ci := 4) (q0 := 7) rfl rfl) (fun U hU hW => pW_of hP hK hN hU hW)) rfl rfl hl.1 rfl (lv_room (Nat.le_of_ble_eq_true rfl)) dX2_fittingPart_25 ⟨Nat.zero_le _, Nat.zero_le _⟩) ?_
        refine lv_if_eq (tgt := 34) hx hb dX2_fittingPart_28 (by decide) (fun c_28 => ?_) (fun c_28 => ?_)
        · have c_28 := if_n c_28
          refine lv_iinc (v := (nI (i + 1))) (lv' := [(3, .int (nI (i + 1))), (0, .ref (g.2.2 19)), (1, .int (nI (part))), (2, .int (nI (fitc bytes texts lengths L part i)))]) hx hb dX2_fittingPart_34 hl (k := 3) rfl (nI_add _ 1) (by decide) rfl (fun ls hl => ?_)
          refine lv_goto (tgt := 4) hx hb dX2_fittingPart_37 (by decide) ?_
          rw [fitc_n c_28] at hl
          exact ih_4 (i + 1) (by omega) (by omega) ls (lv_sub hl [1, 2, 3, 0] rfl)
        · have c_28 := if_p c_28
          refine lv_iinc (v := (nI ((fitc bytes texts lengths L part i) + 1))) (lv' := [(2, .int (nI ((fitc bytes texts lengths L part i) + 1))), (0, .ref (g.2.2 19)), (1, .int (nI (part))), (3, .int (nI (i)))]) hx hb dX2_fittingPart_31 hl (k := 2) rfl (nI_add _ 1) (by decide) rfl (fun ls hl => ?_)
          refine lv_iinc (v := (nI (i + 1))) (lv' := [(3, .int (nI (i + 1))), (2, .int (nI ((fitc bytes texts lengths L part i) + 1))), (0, .ref (g.2.2 19)), (1, .int (nI (part)))]) hx hb dX2_fittingPart_34 hl (k := 3) rfl (nI_add _ 1) (by decide) rfl (fun ls hl => ?_)
          refine lv_goto (tgt := 4) hx hb dX2_fittingPart_37 (by decide) ?_
          rw [fitc_y c_28] at hl
          exact ih_4 (i + 1) (by omega) (by omega) ls (lv_sub hl [2, 3, 1, 0] rfl)
  exact lp_4 (nv - (0) + 1) 0 (Nat.zero_le _) (Nat.lt_succ_self _) ls (lv_sub hl [2, 3, 1, 0] rfl)
theorem iw_X2_waysTo_X2 : ∀ w ∈ u_ws RX2 TX2 11, w ∈ wsX2_waysTo := by decide +kernel
theorem fl_X2_waysTo_15 : Cond.fieldLink RX2 15 (TX2 4).1 (TX2 4).2.1 (TX2 4).2.2.1 ∈ wsX2_waysTo := by decide +kernel
theorem fl_X2_waysTo_32 : Cond.fieldLink RX2 32 (TX2 1).1 (TX2 1).2.1 (TX2 1).2.2.1 ∈ wsX2_waysTo := by decide +kernel
set_option maxHeartbeats 200000 in
set_option maxRecDepth 100000 in
theorem c_X2_waysTo (l : Launch) {g : GW} {asked : Int64} {values : Nat → Int32} {bytes : Nat → Int32} {starts : Nat → Int32} {ends : Nat → Int32} {length : Int32} {parts : Int32} {texts : Nat → Int32} {lengths : Nat → Int32} {feet : Nat → Int32} {sorts : Nat → Int32} {nxt : Nat → Int32} {size : Int32} {sums : Nat → Int32} {oneSums : Nat → Int32} {otherSums : Nat → Int32} {byFeet : Nat → Int64} {kept : Nat → Int64} {over : Int32} {rcount : Int32} {rcust : Int32} {ssums : Nat → Int32} {ways : Nat → Int64} {nextWays : Nat → Int64} {reached : Nat → Int64} {nextReached : Nat → Int64} {found : Int32} {least : Int32} {greatest : Int32} (vocable : Nat) (w : Nat → Nat) (hw : ∀ k, k < 4 → ways k = lN (w k)) (hv : vocable < 10) : Met l yX2_waysTo wsX2_waysTo ({ frames := 1, cells := 0, slots := 0, locals := 22 }) (va_Pc ([.ref (g.2.2 19), .int (nI (vocable))]) (pW g (wX g asked values bytes starts ends length parts texts lengths feet sorts nxt size sums oneSums otherSums byFeet kept over rcount rcust ssums ways nextWays reached nextReached found least greatest))) (ro_Q (.long (lN (wto nxt sorts w vocable 4)))) 0 0 (fun _ => False) := by
  refine Met.ofW (cc := cX2_waysTo) (maxL := 5) (ret := (some .long)) (by decide) rfl ?_
  intro p e s m args below meth c s₁ B hml hv
  obtain ⟨rfl, hP, hK, hN⟩ := hv
  have hx := B.exec
  have hb := B.bytes
  have hr := B.returns
  have hts := atoms_spec (ws := wsX2_waysTo) B.pre
  have hown : s.vm.findClass RX2 = some m.cls := findClass_of_methodNamed B.named
  have hlocks := B.notSynchronized
  have hl := lv_entry ([.ref (g.2.2 19), .int (nI (vocable))]) (n := 5) (Nat.le_of_ble_eq_true rfl)
  rw [lg_entry_eq]
  generalize (lg_sl ([.ref (g.2.2 19), .int (nI (vocable))]) ++ List.replicate (5 - (lg_sl ([.ref (g.2.2 19), .int (nI (vocable))])).length) Slot.unset).toArray = ls at hl ⊢
  have hl : lv_has ls 5 [(0, .ref (g.2.2 19)), (1, .int (nI (vocable)))] := hl
  refine lv_lconst (v := (lN (0))) hx hb dX2_waysTo_0 (by decide) ?_
  refine lv_lstore_n (lv' := [(2, .long (lN (0))), (0, .ref (g.2.2 19)), (1, .int (nI (vocable)))]) hx hb dX2_waysTo_1 rfl hl (by decide) rfl (fun ls hl => ?_)
  refine lv_iconst (v := (nI (0))) hx hb dX2_waysTo_2 (by decide) ?_
  refine lv_istore (lv' := [(4, .int (nI (0))), (2, .long (lN (0))), (0, .ref (g.2.2 19)), (1, .int (nI (vocable)))]) hx hb dX2_waysTo_3 hl (by decide) rfl (fun ls hl => ?_)
  have lp_5 : ∀ (n : Nat) (i : Nat), (i ≤ 4) → 4 - i < n → ∀ (ls : Array Slot), lv_has ls 5 [(0, .ref (g.2.2 19)), (1, .int (nI (vocable))), (2, .long (lN (wto nxt sorts w vocable i))), (4, .int (nI (i)))] → W p l e (headSpec wsX2_waysTo ({ frames := 1, cells := 0, slots := 0, locals := 22 })).room s m (([.ref (g.2.2 19), .int (nI (vocable))] : List Value).toArray) below meth c s.heap [] 0 0 (MQ below (ro_Q (.long (lN (wto nxt sorts w vocable 4)))) (([.ref (g.2.2 19), .int (nI (vocable))] : List Value).toArray) s 0 0 (fun _ => False)) (F0 m 5 ls []) := by
    intro n
    induction n with
    | zero => intro i hi hm; exact absurd hm (Nat.not_lt_zero _)
    | succ n ih_5 =>
      intro i hi hm_5 ls hl
      refine lv_iload hx hb dX2_waysTo_5 (lv_at hl 3 rfl) ?_
      refine lv_iconst (v := (nI (4))) hx hb dX2_waysTo_7 (by decide) ?_
      refine lv_icmp_ge (tgt := 40) hx hb dX2_waysTo_8 (by decide) (fun c_8 => ?_) (fun c_8 => ?_)
      · have c_8 := (cv_le_nn (by omega) (by omega)).mp c_8
        refine lv_lload_n hx hb dX2_waysTo_40 rfl (lv_at hl 2 rfl) ?_
        exact ro_lret hx hb hr hlocks (by rw [show 4 = i by omega]) dX2_waysTo_41
      · have c_8 := (not_congr (cv_le_nn (by omega) (by omega))).mp c_8
        refine lv_aload_n hx hb dX2_waysTo_11 rfl (lv_at hl 0 rfl) ?_
        refine an_get (ci := 2) (v := .ref (g.2.2 7)) (C := RX2) (T := TX2) (N := 11) hx hb hts iw_X2_waysTo_X2 hown hK hP 19 rfl rfl 1 (by decide) (hts _ fl_X2_waysTo_32) rfl dX2_waysTo_12 ?_
        refine lv_iload hx hb dX2_waysTo_15 (lv_at hl 3 rfl) ?_
        refine lv_iload_n hx hb dX2_waysTo_17 rfl (lv_at hl 1 rfl) ?_
        refine ro_call (va_runV (As := [.int (nI (i)), .int (nI (vocable))]) (rest := []) ⟨hx, hb, hml, hown, hts⟩ (c_X4_mayCome l (g := g) (asked := asked) (values := values) (bytes := bytes) (starts := starts) (ends := ends) (length := length) (parts := parts) (texts := texts) (lengths := lengths) (feet := feet) (sorts := sorts) (nxt := nxt) (size := size) (sums := sums) (oneSums := oneSums) (otherSums := otherSums) (byFeet := byFeet) (kept := kept) (over := over) (rcount := rcount) (rcust := rcust) (ssums := ssums) (ways := ways) (nextWays := nextWays) (reached := reached) (nextReached := nextReached) (found := found) (least := least) (greatest := greatest) (i) (vocable) (by omega) hv) (cwV 2 hts gX2_waysTo_X4_mayCome rfl rfl rfl (by decide +kernel) ⟨Nat.le_of_ble_eq_true rfl, Nat.le_of_ble_eq_true rfl⟩) (pre_V pW_bl (va_recv hK hP (ci := 4) (q0 := 7) rfl rfl) (fun U hU hW => pW_of hP hK hN hU hW)) rfl rfl hl.1 rfl (lv_room (Nat.le_of_ble_eq_true rfl)) dX2_waysTo_18 ⟨Nat.zero_le _, Nat.zero_le _⟩) ?_
        refine lv_if_eq (tgt := 34) hx hb dX2_waysTo_21 (by decide) (fun c_21 => ?_) (fun c_21 => ?_)
        · have c_21 := if_n c_21
          refine lv_iinc (v := (nI (i + 1))) (lv' := [(4, .int (nI (i + 1))), (0, .ref (g.2.2 19)), (1, .int (nI (vocable))), (2, .long (lN (wto nxt sorts w vocable i)))]) hx hb dX2_waysTo_34 hl (k := 3) rfl (nI_add _ 1) (by decide) rfl (fun ls hl => ?_)
          refine lv_goto (tgt := 5) hx hb dX2_waysTo_37 (by decide) ?_
          rw [wto_n c_21] at hl
          exact ih_5 (i + 1) (by omega) (by omega) ls (lv_sub hl [1, 2, 3, 0] rfl)
        · have c_21 := if_p c_21
          refine lv_lload_n hx hb dX2_waysTo_24 rfl (lv_at hl 2 rfl) ?_
          refine lv_aload_n hx hb dX2_waysTo_25 rfl (lv_at hl 0 rfl) ?_
          refine an_get (ci := 2) (v := .ref (g.2.2 21)) (C := RX2) (T := TX2) (N := 11) hx hb hts iw_X2_waysTo_X2 hown hK hP 19 rfl rfl 4 (by decide) (hts _ fl_X2_waysTo_15) rfl dX2_waysTo_26 ?_
          refine lv_iload hx hb dX2_waysTo_29 (lv_at hl 3 rfl) ?_
          refine an_lald (f := ways) hx hb hK hP 21 1 rfl rfl (by decide) (by omega) dX2_waysTo_31 ?_
          refine ln_tol (y := (lN (w i))) (hw i (by omega)) ?_
          refine ln_ladd hx hb dX2_waysTo_32 ?_
          refine lv_lstore_n (lv' := [(2, .long (lN ((wto nxt sorts w vocable i) + (w i)))), (0, .ref (g.2.2 19)), (1, .int (nI (vocable))), (4, .int (nI (i)))]) hx hb dX2_waysTo_33 rfl hl (by decide) rfl (fun ls hl => ?_)
          refine lv_iinc (v := (nI (i + 1))) (lv' := [(4, .int (nI (i + 1))), (2, .long (lN ((wto nxt sorts w vocable i) + (w i)))), (0, .ref (g.2.2 19)), (1, .int (nI (vocable)))]) hx hb dX2_waysTo_34 hl (k := 3) rfl (nI_add _ 1) (by decide) rfl (fun ls hl => ?_)
          refine lv_goto (tgt := 5) hx hb dX2_waysTo_37 (by decide) ?_
          rw [wto_y c_21] at hl
          exact ih_5 (i + 1) (by omega) (by omega) ls (lv_sub hl [2, 3, 1, 0] rfl)
  exact lp_5 (4 - (0) + 1) 0 (Nat.zero_le _) (Nat.lt_succ_self _) ls (lv_sub hl [2, 3, 1, 0] rfl)
theorem iw_X3_stepOfFeet_X3 : ∀ w ∈ u_ws RX3 TX3 10, w ∈ wsX3_stepOfFeet := by decide +kernel
theorem iw_X3_stepOfFeet_X4 : ∀ w ∈ u_ws RX4 TX4 6, w ∈ wsX3_stepOfFeet := by decide +kernel
theorem fl_X3_stepOfFeet_21 : Cond.fieldLink RX3 21 (TX3 5).1 (TX3 5).2.1 (TX3 5).2.2.1 ∈ wsX3_stepOfFeet := by decide +kernel
theorem fl_X3_stepOfFeet_32 : Cond.fieldLink RX3 32 (TX3 0).1 (TX3 0).2.1 (TX3 0).2.2.1 ∈ wsX3_stepOfFeet := by decide +kernel
theorem fl_X3_stepOfFeet_44 : Cond.fieldLink RX3 44 (TX4 5).1 (TX4 5).2.1 (TX4 5).2.2.1 ∈ wsX3_stepOfFeet := by decide +kernel
theorem fl_X3_stepOfFeet_50 : Cond.fieldLink RX3 50 (TX4 2).1 (TX4 2).2.1 (TX4 2).2.2.1 ∈ wsX3_stepOfFeet := by decide +kernel
theorem fl_X3_stepOfFeet_57 : Cond.fieldLink RX3 57 (TX4 3).1 (TX4 3).2.1 (TX4 3).2.2.1 ∈ wsX3_stepOfFeet := by decide +kernel
set_option maxHeartbeats 200000 in
set_option maxRecDepth 100000 in
theorem c_X3_stepOfFeet (l : Launch) {g : GW} {asked : Int64} {values : Nat → Int32} {bytes : Nat → Int32} {starts : Nat → Int32} {ends : Nat → Int32} {length : Int32} {parts : Int32} {texts : Nat → Int32} {lengths : Nat → Int32} {feet : Nat → Int32} {sorts : Nat → Int32} {nxt : Nat → Int32} {nv : Nat} {sums : Nat → Int32} {oneSums : Nat → Int32} {otherSums : Nat → Int32} {byFeet : Nat → Int64} {kept : Nat → Int64} {over : Int32} {rcount : Int32} {rcust : Int32} {ssums : Nat → Int32} {ways : Nat → Int64} {nextWays : Nat → Int64} {reached : Nat → Int64} {nextReached : Nat → Int64} {found : Int32} {least : Int32} {greatest : Int32} (ft : Nat) (behind : Nat) (w : Nat → Nat → Nat) (hft : ft ≤ 8) (hbe : behind < 4) (hB : ∀ f s, f < ft → s < 4 → byFeet (f * 4 + s) = lN (w f s)) (hnv : nv ≤ 10) (hfe : okV feet nv 1 3) (hso : okV sorts nv 0 2) : Met l yX3_stepOfFeet wsX3_stepOfFeet ({ frames := 1, cells := 0, slots := 0, locals := 22 }) (va_Pc ([.ref (g.2.2 13), .int (nI (ft)), .int (nI (behind))]) (pW g (wX g asked values bytes starts ends length parts texts lengths feet sorts nxt (nI (nv)) sums oneSums otherSums byFeet kept over rcount rcust ssums ways nextWays reached nextReached found least greatest))) (ro_Q (.long (lN (stq feet sorts nxt w ft behind nv)))) 0 0 (fun _ => False) := by
  refine Met.ofW (cc := cX3_stepOfFeet) (maxL := 6) (ret := (some .long)) (by decide) rfl ?_
  intro p e s m args below meth c s₁ B hml hv
  obtain ⟨rfl, hP, hK, hN⟩ := hv
  have hx := B.exec
  have hb := B.bytes
  have hr := B.returns
  have hts := atoms_spec (ws := wsX3_stepOfFeet) B.pre
  have hown : s.vm.findClass RX3 = some m.cls := findClass_of_methodNamed B.named
  have hlocks := B.notSynchronized
  have hl := lv_entry ([.ref (g.2.2 13), .int (nI (ft)), .int (nI (behind))]) (n := 6) (Nat.le_of_ble_eq_true rfl)
  rw [lg_entry_eq]
  generalize (lg_sl ([.ref (g.2.2 13), .int (nI (ft)), .int (nI (behind))]) ++ List.replicate (6 - (lg_sl ([.ref (g.2.2 13), .int (nI (ft)), .int (nI (behind))])).length) Slot.unset).toArray = ls at hl ⊢
  have hl : lv_has ls 6 [(0, .ref (g.2.2 13)), (1, .int (nI (ft))), (2, .int (nI (behind)))] := hl
  refine lv_lconst (v := (lN (0))) hx hb dX3_stepOfFeet_0 (by decide) ?_
  refine lv_lstore_n (lv' := [(3, .long (lN (0))), (0, .ref (g.2.2 13)), (1, .int (nI (ft))), (2, .int (nI (behind)))]) hx hb dX3_stepOfFeet_1 rfl hl (by decide) rfl (fun ls hl => ?_)
  refine lv_iconst (v := (nI (0))) hx hb dX3_stepOfFeet_2 (by decide) ?_
  refine lv_istore (lv' := [(5, .int (nI (0))), (3, .long (lN (0))), (0, .ref (g.2.2 13)), (1, .int (nI (ft))), (2, .int (nI (behind)))]) hx hb dX3_stepOfFeet_3 hl (by decide) rfl (fun ls hl => ?_)
  have lp_5 : ∀ (n : Nat) (i : Nat), (i ≤ nv) → nv - i < n → ∀ (ls : Array Slot), lv_has ls 6 [(0, .ref (g.2.2 13)), (1, .int (nI (ft))), (2, .int (nI (behind))), (3, .long (lN (stq feet sorts nxt w ft behind i))), (5, .int (nI (i)))] → W p l e (headSpec wsX3_stepOfFeet ({ frames := 1, cells := 0, slots := 0, locals := 22 })).room s m (([.ref (g.2.2 13), .int (nI (ft)), .int (nI (behind))] : List Value).toArray) below meth c s.heap [] 0 0 (MQ below (ro_Q (.long (lN (stq feet sorts nxt w ft behind nv)))) (([.ref (g.2.2 13), .int (nI (ft)), .int (nI (behind))] : List Value).toArray) s 0 0 (fun _ => False)) (F0 m 5 ls []) := by
    intro n
    induction n with
    | zero => intro i hi hm; exact absurd hm (Nat.not_lt_zero _)
    | succ n ih_5 =>
      intro i hi hm_5 ls hl
      refine lv_iload hx hb dX3_stepOfFeet_5 (lv_at hl 4 rfl) ?_
      refine lv_aload_n hx hb dX3_stepOfFeet_7 rfl (lv_at hl 0 rfl) ?_
      refine an_get (ci := 3) (v := .ref (g.2.2 7)) (C := RX3) (T := TX3) (N := 10) hx hb hts iw_X3_stepOfFeet_X3 hown hK hP 13 rfl rfl 0 (by decide) (hts _ fl_X3_stepOfFeet_32) rfl dX3_stepOfFeet_8 ?_
      refine an_get (ci := 4) (v := .int (nI (nv))) (C := RX4) (T := TX4) (N := 6) hx hb hts iw_X3_stepOfFeet_X4 hown hK hP 7 rfl rfl 5 (by decide) (hts _ fl_X3_stepOfFeet_44) rfl dX3_stepOfFeet_11 ?_
      refine lv_icmp_ge (tgt := 83) hx hb dX3_stepOfFeet_14 (by decide) (fun c_14 => ?_) (fun c_14 => ?_)
      · have c_14 := (cv_le_nn (by omega) (by omega)).mp c_14
        refine lv_lload_n hx hb dX3_stepOfFeet_83 rfl (lv_at hl 3 rfl) ?_
        exact ro_lret hx hb hr hlocks (by rw [show nv = i by omega]) dX3_stepOfFeet_84
      · have c_14 := (not_congr (cv_le_nn (by omega) (by omega))).mp c_14
        refine lv_aload_n hx hb dX3_stepOfFeet_17 rfl (lv_at hl 0 rfl) ?_
        refine an_get (ci := 3) (v := .ref (g.2.2 7)) (C := RX3) (T := TX3) (N := 10) hx hb hts iw_X3_stepOfFeet_X3 hown hK hP 13 rfl rfl 0 (by decide) (hts _ fl_X3_stepOfFeet_32) rfl dX3_stepOfFeet_18 ?_
        refine an_get (ci := 4) (v := .ref (g.2.2 10)) (C := RX4) (T := TX4) (N := 6) hx hb hts iw_X3_stepOfFeet_X4 hown hK hP 7 rfl rfl 2 (by decide) (hts _ fl_X3_stepOfFeet_50) rfl dX3_stepOfFeet_21 ?_
        refine lv_iload hx hb dX3_stepOfFeet_24 (lv_at hl 4 rfl) ?_
        have hf9 := hfe i (by omega)
        have hs9 := hso i (by omega)
        refine an_iald (f := feet) hx hb hK hP 10 0 rfl rfl (by decide) (by omega) dX3_stepOfFeet_26 ?_
        refine ln_toi (y := (nI (tn (feet i)))) (hf9.1) ?_
        refine lv_iload_n hx hb dX3_stepOfFeet_27 rfl (lv_at hl 1 rfl) ?_
        refine lv_icmp_gt (tgt := 77) hx hb dX3_stepOfFeet_28 (by decide) (fun c_28 => ?_) (fun c_28 => ?_)
        · have c_28 := (cv_lt_nn (by omega) (by omega)).mp c_28
          refine lv_iinc (v := (nI (i + 1))) (lv' := [(5, .int (nI (i + 1))), (0, .ref (g.2.2 13)), (1, .int (nI (ft))), (2, .int (nI (behind))), (3, .long (lN (stq feet sorts nxt w ft behind i)))]) hx hb dX3_stepOfFeet_77 hl (k := 4) rfl (nI_add _ 1) (by decide) rfl (fun ls hl => ?_)
          refine lv_goto (tgt := 5) hx hb dX3_stepOfFeet_80 (by decide) ?_
          rw [stq_n (fun z => absurd z.1 (by omega))] at hl
          exact ih_5 (i + 1) (by omega) (by omega) ls (lv_sub hl [1, 2, 3, 4, 0] rfl)
        · have c_28 := (not_congr (cv_lt_nn (by omega) (by omega))).mp c_28
          refine lv_aload_n hx hb dX3_stepOfFeet_31 rfl (lv_at hl 0 rfl) ?_
          refine an_get (ci := 3) (v := .ref (g.2.2 7)) (C := RX3) (T := TX3) (N := 10) hx hb hts iw_X3_stepOfFeet_X3 hown hK hP 13 rfl rfl 0 (by decide) (hts _ fl_X3_stepOfFeet_32) rfl dX3_stepOfFeet_32 ?_
          refine lv_iload_n hx hb dX3_stepOfFeet_35 rfl (lv_at hl 2 rfl) ?_
          refine lv_iload hx hb dX3_stepOfFeet_36 (lv_at hl 4 rfl) ?_
          refine ro_call (va_runV (As := [.int (nI (behind)), .int (nI (i))]) (rest := []) ⟨hx, hb, hml, hown, hts⟩ (c_X4_mayCome l (g := g) (asked := asked) (values := values) (bytes := bytes) (starts := starts) (ends := ends) (length := length) (parts := parts) (texts := texts) (lengths := lengths) (feet := feet) (sorts := sorts) (nxt := nxt) (size := nI (nv)) (sums := sums) (oneSums := oneSums) (otherSums := otherSums) (byFeet := byFeet) (kept := kept) (over := over) (rcount := rcount) (rcust := rcust) (ssums := ssums) (ways := ways) (nextWays := nextWays) (reached := reached) (nextReached := nextReached) (found := found) (least := least) (greatest := greatest) (behind) (i) hbe (by omega)) (cwV 2 hts gX3_stepOfFeet_X4_mayCome rfl rfl rfl (by decide +kernel) ⟨Nat.le_of_ble_eq_true rfl, Nat.le_of_ble_eq_true rfl⟩) (pre_V pW_bl (va_recv hK hP (ci := 4) (q0 := 7) rfl rfl) (fun U hU hW => pW_of hP hK hN hU hW)) rfl rfl hl.1 rfl (lv_room (Nat.le_of_ble_eq_true rfl)) dX3_stepOfFeet_38 ⟨Nat.zero_le _, Nat.zero_le _⟩) ?_
          refine lv_if_eq (tgt := 77) hx hb dX3_stepOfFeet_41 (by decide) (fun c_41 => ?_) (fun c_41 => ?_)
          · have c_41 := if_n c_41
            refine lv_iinc (v := (nI (i + 1))) (lv' := [(5, .int (nI (i + 1))), (0, .ref (g.2.2 13)), (1, .int (nI (ft))), (2, .int (nI (behind))), (3, .long (lN (stq feet sorts nxt w ft behind i)))]) hx hb dX3_stepOfFeet_77 hl (k := 4) rfl (nI_add _ 1) (by decide) rfl (fun ls hl => ?_)
            refine lv_goto (tgt := 5) hx hb dX3_stepOfFeet_80 (by decide) ?_
            rw [stq_n (fun z => absurd z.2 c_41)] at hl
            exact ih_5 (i + 1) (by omega) (by omega) ls (lv_sub hl [1, 2, 3, 4, 0] rfl)
          · have c_41 := if_p c_41
            refine lv_lload_n hx hb dX3_stepOfFeet_44 rfl (lv_at hl 3 rfl) ?_
            refine lv_aload_n hx hb dX3_stepOfFeet_45 rfl (lv_at hl 0 rfl) ?_
            refine an_get (ci := 3) (v := .ref (g.2.2 17)) (C := RX3) (T := TX3) (N := 10) hx hb hts iw_X3_stepOfFeet_X3 hown hK hP 13 rfl rfl 5 (by decide) (hts _ fl_X3_stepOfFeet_21) rfl dX3_stepOfFeet_46 ?_
            refine lv_iload_n hx hb dX3_stepOfFeet_49 rfl (lv_at hl 1 rfl) ?_
            refine lv_aload_n hx hb dX3_stepOfFeet_50 rfl (lv_at hl 0 rfl) ?_
            refine an_get (ci := 3) (v := .ref (g.2.2 7)) (C := RX3) (T := TX3) (N := 10) hx hb hts iw_X3_stepOfFeet_X3 hown hK hP 13 rfl rfl 0 (by decide) (hts _ fl_X3_stepOfFeet_32) rfl dX3_stepOfFeet_51 ?_
            refine an_get (ci := 4) (v := .ref (g.2.2 10)) (C := RX4) (T := TX4) (N := 6) hx hb hts iw_X3_stepOfFeet_X4 hown hK hP 7 rfl rfl 2 (by decide) (hts _ fl_X3_stepOfFeet_50) rfl dX3_stepOfFeet_54 ?_
            refine lv_iload hx hb dX3_stepOfFeet_57 (lv_at hl 4 rfl) ?_
            refine an_iald (f := feet) hx hb hK hP 10 0 rfl rfl (by decide) (by omega) dX3_stepOfFeet_59 ?_
            refine ln_toi (y := (nI (tn (feet i)))) (hf9.1) ?_
            refine ln_isub hx hb (by omega) dX3_stepOfFeet_60 ?_
            refine lv_iconst (v := (nI (4))) hx hb dX3_stepOfFeet_61 (by decide) ?_
            refine ln_imul hx hb dX3_stepOfFeet_62 ?_
            refine lv_aload_n hx hb dX3_stepOfFeet_63 rfl (lv_at hl 0 rfl) ?_
            refine an_get (ci := 3) (v := .ref (g.2.2 7)) (C := RX3) (T := TX3) (N := 10) hx hb hts iw_X3_stepOfFeet_X3 hown hK hP 13 rfl rfl 0 (by decide) (hts _ fl_X3_stepOfFeet_32) rfl dX3_stepOfFeet_64 ?_
            refine an_get (ci := 4) (v := .ref (g.2.2 11)) (C := RX4) (T := TX4) (N := 6) hx hb hts iw_X3_stepOfFeet_X4 hown hK hP 7 rfl rfl 3 (by decide) (hts _ fl_X3_stepOfFeet_57) rfl dX3_stepOfFeet_67 ?_
            refine lv_iload hx hb dX3_stepOfFeet_70 (lv_at hl 4 rfl) ?_
            refine an_iald (f := sorts) hx hb hK hP 11 0 rfl rfl (by decide) (by omega) dX3_stepOfFeet_72 ?_
            refine ln_toi (y := (nI (tn (sorts i)))) (hs9.1) ?_
            refine ln_iadd hx hb dX3_stepOfFeet_73 ?_
            refine an_lald (f := byFeet) hx hb hK hP 17 1 rfl rfl (by decide) (by omega) dX3_stepOfFeet_74 ?_
            refine ln_tol (y := (lN (w (ft - tn (feet i)) (tn (sorts i))))) (hB _ _ (by omega) (by omega)) ?_
            refine ln_ladd hx hb dX3_stepOfFeet_75 ?_
            refine lv_lstore_n (lv' := [(3, .long (lN ((stq feet sorts nxt w ft behind i) + (w (ft - tn (feet i)) (tn (sorts i)))))), (0, .ref (g.2.2 13)), (1, .int (nI (ft))), (2, .int (nI (behind))), (5, .int (nI (i)))]) hx hb dX3_stepOfFeet_76 rfl hl (by decide) rfl (fun ls hl => ?_)
            refine lv_iinc (v := (nI (i + 1))) (lv' := [(5, .int (nI (i + 1))), (3, .long (lN ((stq feet sorts nxt w ft behind i) + (w (ft - tn (feet i)) (tn (sorts i)))))), (0, .ref (g.2.2 13)), (1, .int (nI (ft))), (2, .int (nI (behind)))]) hx hb dX3_stepOfFeet_77 hl (k := 4) rfl (nI_add _ 1) (by decide) rfl (fun ls hl => ?_)
            refine lv_goto (tgt := 5) hx hb dX3_stepOfFeet_80 (by decide) ?_
            rw [stq_y (by omega) c_41] at hl
            exact ih_5 (i + 1) (by omega) (by omega) ls (lv_sub hl [2, 3, 4, 1, 0] rfl)
  exact lp_5 (nv - (0) + 1) 0 (Nat.zero_le _) (Nat.lt_succ_self _) ls (lv_sub hl [2, 3, 4, 1, 0] rfl)
theorem iw_X3_ofFeet_X3 : ∀ w ∈ u_ws RX3 TX3 10, w ∈ wsX3_ofFeet := by decide +kernel
theorem fl_X3_ofFeet_21 : Cond.fieldLink RX3 21 (TX3 5).1 (TX3 5).2.1 (TX3 5).2.2.1 ∈ wsX3_ofFeet := by decide +kernel
set_option maxHeartbeats 200000 in
set_option maxRecDepth 100000 in
theorem c_X3_ofFeet (l : Launch) {g : GW} {asked : Int64} {values : Nat → Int32} {bytes : Nat → Int32} {starts : Nat → Int32} {ends : Nat → Int32} {length : Int32} {parts : Int32} {texts : Nat → Int32} {lengths : Nat → Int32} {feet : Nat → Int32} {sorts : Nat → Int32} {nxt : Nat → Int32} {nv : Nat} {sums : Nat → Int32} {oneSums : Nat → Int32} {otherSums : Nat → Int32} {byFeet : Nat → Int64} {kept : Nat → Int64} {over : Int32} {rcount : Int32} {rcust : Int32} {ssums : Nat → Int32} {ways : Nat → Int64} {nextWays : Nat → Int64} {reached : Nat → Int64} {nextReached : Nat → Int64} {found : Int32} {least : Int32} {greatest : Int32} {sz : Nat} (ft : Nat) (hft : ft ≤ 8) (hnv : nv ≤ 10) (hfe : okV feet nv 1 3) (hso : okV sorts nv 0 2) (hd : dW 25 g.2.2) : Met l yX3_ofFeet wsX3_ofFeet ({ frames := 2, cells := 0, slots := 0, locals := 47 }) (va_Pc ([.ref (g.2.2 13), .int (nI (ft))]) (qW g (wX g asked values bytes starts ends length parts texts lengths feet sorts nxt (nI (nv)) sums oneSums otherSums byFeet kept over rcount rcust ssums ways nextWays reached nextReached found least greatest) sz)) (va_Ql (fun (r : Int64) (z : (Nat → Int64)) => r = lN (mwy feet sorts nxt nv ft 3)) (fun (z : (Nat → Int64)) (t : State) => va_P g.1 vwCl (wX g asked values bytes starts ends length parts texts lengths feet sorts nxt (nI (nv)) sums oneSums otherSums z kept over rcount rcust ssums ways nextWays reached nextReached found least greatest) t.heap) (aW 25 g.2.2 sz)) 0 0 (aW 25 g.2.2 sz) := by
  refine Met.ofW (cc := cX3_ofFeet) (maxL := 4) (ret := (some .long)) (by decide) rfl ?_
  intro p e s m args below meth c s₁ B hml hv
  obtain ⟨rfl, hsz9, hP, hK, hN⟩ := hv
  subst hsz9
  have hx := B.exec
  have hb := B.bytes
  have hr := B.returns
  have hts := atoms_spec (ws := wsX3_ofFeet) B.pre
  have hown : s.vm.findClass RX3 = some m.cls := findClass_of_methodNamed B.named
  have hlocks := B.notSynchronized
  have hS : va_S (aW 25 g.2.2 s.heap.size) s.heap s.heap [] := va_S.rf
  have hl := lv_entry ([.ref (g.2.2 13), .int (nI (ft))]) (n := 4) (Nat.le_of_ble_eq_true rfl)
  rw [lg_entry_eq]
  generalize (lg_sl ([.ref (g.2.2 13), .int (nI (ft))]) ++ List.replicate (4 - (lg_sl ([.ref (g.2.2 13), .int (nI (ft))])).length) Slot.unset).toArray = ls at hl ⊢
  have hl : lv_has ls 4 [(0, .ref (g.2.2 13)), (1, .int (nI (ft)))] := hl
  refine lv_iconst (v := (nI (0))) hx hb dX3_ofFeet_0 (by decide) ?_
  refine lv_istore_n (lv' := [(2, .int (nI (0))), (0, .ref (g.2.2 13)), (1, .int (nI (ft)))]) hx hb dX3_ofFeet_1 rfl hl (by decide) rfl (fun ls hl => ?_)
  have lp_2 : ∀ (n : Nat) (i : Nat) (u : Nat → Int64), (i ≤ 4) → (∀ s, s < i → u s = lN 1) → 4 - i < n → ∀ (H : Heap) (locs : List Loc), va_P g.1 vwCl (wX g asked values bytes starts ends length parts texts lengths feet sorts nxt (nI (nv)) sums oneSums otherSums u kept over rcount rcust ssums ways nextWays reached nextReached found least greatest) H → va_S (aW 25 g.2.2 s.heap.size) s.heap H locs → ∀ (ls : Array Slot), lv_has ls 4 [(0, .ref (g.2.2 13)), (1, .int (nI (ft))), (2, .int (nI (i)))] → W p l e (headSpec wsX3_ofFeet ({ frames := 2, cells := 0, slots := 0, locals := 47 })).room s m (([.ref (g.2.2 13), .int (nI (ft))] : List Value).toArray) below meth c H locs 0 0 (MQ below (va_Ql (fun (r : Int64) (z : (Nat → Int64)) => r = lN (mwy feet sorts nxt nv ft 3)) (fun (z : (Nat → Int64)) (t : State) => va_P g.1 vwCl (wX g asked values bytes starts ends length parts texts lengths feet sorts nxt (nI (nv)) sums oneSums otherSums z kept over rcount rcust ssums ways nextWays reached nextReached found least greatest) t.heap) (aW 25 g.2.2 s.heap.size)) (([.ref (g.2.2 13), .int (nI (ft))] : List Value).toArray) s 0 0 (aW 25 g.2.2 s.heap.size)) (F0 m 2 ls []) := by
    intro n
    induction n with
    | zero => intro i u hi hu hm; exact absurd hm (Nat.not_lt_zero _)
    | succ n ih_2 =>
      intro i u hi hu hm_2 H locs hP hS ls hl
      refine lv_iload_n hx hb dX3_ofFeet_2 rfl (lv_at hl 2 rfl) ?_
      refine lv_iconst (v := (nI (4))) hx hb dX3_ofFeet_3 (by decide) ?_
      refine lv_icmp_ge (tgt := 20) hx hb dX3_ofFeet_4 (by decide) (fun c_4 => ?_) (fun c_4 => ?_)
      · have c_4 := (cv_le_nn (by omega) (by omega)).mp c_4
        refine lv_iconst (v := (nI (1))) hx hb dX3_ofFeet_20 (by decide) ?_
        refine lv_istore_n (lv' := [(2, .int (nI (1))), (0, .ref (g.2.2 13)), (1, .int (nI (ft)))]) hx hb dX3_ofFeet_21 rfl hl (by decide) rfl (fun ls hl => ?_)
        have lp_22 : ∀ (n : Nat) (f : Nat) (b : Nat → Int64), (1 ≤ f) → (f ≤ ft + 1) → (∀ f2 s, f2 < f → s < 4 → b (f2 * 4 + s) = lN (mwy feet sorts nxt nv f2 s)) → ft + 1 - f < n → ∀ (H : Heap) (locs : List Loc), va_P g.1 vwCl (wX g asked values bytes starts ends length parts texts lengths feet sorts nxt (nI (nv)) sums oneSums otherSums b kept over rcount rcust ssums ways nextWays reached nextReached found least greatest) H → va_S (aW 25 g.2.2 s.heap.size) s.heap H locs → ∀ (ls : Array Slot), lv_has ls 4 [(0, .ref (g.2.2 13)), (1, .int (nI (ft))), (2, .int (nI (f)))] → W p l e (headSpec wsX3_ofFeet ({ frames := 2, cells := 0, slots := 0, locals := 47 })).room s m (([.ref (g.2.2 13), .int (nI (ft))] : List Value).toArray) below meth c H locs 0 0 (MQ below (va_Ql (fun (r : Int64) (z : (Nat → Int64)) => r = lN (mwy feet sorts nxt nv ft 3)) (fun (z : (Nat → Int64)) (t : State) => va_P g.1 vwCl (wX g asked values bytes starts ends length parts texts lengths feet sorts nxt (nI (nv)) sums oneSums otherSums z kept over rcount rcust ssums ways nextWays reached nextReached found least greatest) t.heap) (aW 25 g.2.2 s.heap.size)) (([.ref (g.2.2 13), .int (nI (ft))] : List Value).toArray) s 0 0 (aW 25 g.2.2 s.heap.size)) (F0 m 22 ls []) := by
          intro n
          induction n with
          | zero => intro f b hf1 hf2 hb2 hm; exact absurd hm (Nat.not_lt_zero _)
          | succ n ih_22 =>
            intro f b hf1 hf2 hb2 hm_22 H locs hP hS ls hl
            refine lv_iload_n hx hb dX3_ofFeet_22 rfl (lv_at hl 2 rfl) ?_
            refine lv_iload_n hx hb dX3_ofFeet_23 rfl (lv_at hl 1 rfl) ?_
            refine lv_icmp_gt (tgt := 62) hx hb dX3_ofFeet_24 (by decide) (fun c_24 => ?_) (fun c_24 => ?_)
            · have c_24 := (cv_lt_nn (by omega) (by omega)).mp c_24
              refine lv_aload_n hx hb dX3_ofFeet_62 rfl (lv_at hl 0 rfl) ?_
              refine an_get (ci := 3) (v := .ref (g.2.2 17)) (C := RX3) (T := TX3) (N := 10) hx hb hts iw_X3_ofFeet_X3 hown hK hP 13 rfl rfl 5 (by decide) (hts _ fl_X3_ofFeet_21) rfl dX3_ofFeet_63 ?_
              refine lv_iload_n hx hb dX3_ofFeet_66 rfl (lv_at hl 1 rfl) ?_
              refine lv_iconst (v := (nI (4))) hx hb dX3_ofFeet_67 (by decide) ?_
              refine ln_imul hx hb dX3_ofFeet_68 ?_
              refine lv_iconst (v := (nI (3))) hx hb dX3_ofFeet_69 (by decide) ?_
              refine ln_iadd hx hb dX3_ofFeet_70 ?_
              refine an_lald (f := b) hx hb hK hP 17 1 rfl rfl (by decide) (by omega) dX3_ofFeet_71 ?_
              refine ln_tol (y := (lN (mwy feet sorts nxt nv ft 3))) (hb2 ft 3 (by omega) (by omega)) ?_
              exact wr_lret (b) hx hb hr hlocks (rfl) (fun t ht => show va_P g.1 vwCl (wX g asked values bytes starts ends length parts texts lengths feet sorts nxt (nI (nv)) sums oneSums otherSums b kept over rcount rcust ssums ways nextWays reached nextReached found least greatest) t.heap by rw [ht]; exact hP) hS dX3_ofFeet_72
            · have c_24 := (not_congr (cv_lt_nn (by omega) (by omega))).mp c_24
              refine lv_iconst (v := (nI (0))) hx hb dX3_ofFeet_27 (by decide) ?_
              refine lv_istore_n (lv' := [(3, .int (nI (0))), (0, .ref (g.2.2 13)), (1, .int (nI (ft))), (2, .int (nI (f)))]) hx hb dX3_ofFeet_28 rfl hl (by decide) rfl (fun ls hl => ?_)
              have lp_29 : ∀ (n : Nat) (s2 : Nat) (b2 : Nat → Int64), (s2 ≤ 4) → (∀ f2 s, f2 < f → s < 4 → b2 (f2 * 4 + s) = lN (mwy feet sorts nxt nv f2 s)) → (∀ s, s < s2 → b2 (f * 4 + s) = lN (mwy feet sorts nxt nv f s)) → 4 - s2 < n → ∀ (H : Heap) (locs : List Loc), va_P g.1 vwCl (wX g asked values bytes starts ends length parts texts lengths feet sorts nxt (nI (nv)) sums oneSums otherSums b2 kept over rcount rcust ssums ways nextWays reached nextReached found least greatest) H → va_S (aW 25 g.2.2 s.heap.size) s.heap H locs → ∀ (ls : Array Slot), lv_has ls 4 [(0, .ref (g.2.2 13)), (1, .int (nI (ft))), (2, .int (nI (f))), (3, .int (nI (s2)))] → W p l e (headSpec wsX3_ofFeet ({ frames := 2, cells := 0, slots := 0, locals := 47 })).room s m (([.ref (g.2.2 13), .int (nI (ft))] : List Value).toArray) below meth c H locs 0 0 (MQ below (va_Ql (fun (r : Int64) (z : (Nat → Int64)) => r = lN (mwy feet sorts nxt nv ft 3)) (fun (z : (Nat → Int64)) (t : State) => va_P g.1 vwCl (wX g asked values bytes starts ends length parts texts lengths feet sorts nxt (nI (nv)) sums oneSums otherSums z kept over rcount rcust ssums ways nextWays reached nextReached found least greatest) t.heap) (aW 25 g.2.2 s.heap.size)) (([.ref (g.2.2 13), .int (nI (ft))] : List Value).toArray) s 0 0 (aW 25 g.2.2 s.heap.size)) (F0 m 29 ls []) := by
                intro n
                induction n with
                | zero => intro s2 b2 hs hb3 hb4 hm; exact absurd hm (Nat.not_lt_zero _)
                | succ n ih_29 =>
                  intro s2 b2 hs hb3 hb4 hm_29 H locs hP hS ls hl
                  refine lv_iload_n hx hb dX3_ofFeet_29 rfl (lv_at hl 3 rfl) ?_
                  refine lv_iconst (v := (nI (4))) hx hb dX3_ofFeet_30 (by decide) ?_
                  refine lv_icmp_ge (tgt := 56) hx hb dX3_ofFeet_31 (by decide) (fun c_31 => ?_) (fun c_31 => ?_)
                  · have c_31 := (cv_le_nn (by omega) (by omega)).mp c_31
                    refine lv_iinc (v := (nI (f + 1))) (lv' := [(2, .int (nI (f + 1))), (0, .ref (g.2.2 13)), (1, .int (nI (ft))), (3, .int (nI (s2)))]) hx hb dX3_ofFeet_56 hl (k := 2) rfl (nI_add _ 1) (by decide) rfl (fun ls hl => ?_)
                    refine lv_goto (tgt := 22) hx hb dX3_ofFeet_59 (by decide) ?_
                    exact ih_22 (f + 1) b2 (by omega) (by omega) (fun f2 s h1 h2 => by by_cases e : f2 = f; (subst e; exact hb4 s (by omega)); exact hb3 f2 s (by omega) h2) (by omega) _ _ hP hS ls (lv_sub hl [1, 2, 0] rfl)
                  · have c_31 := (not_congr (cv_le_nn (by omega) (by omega))).mp c_31
                    refine lv_aload_n hx hb dX3_ofFeet_34 rfl (lv_at hl 0 rfl) ?_
                    refine an_get (ci := 3) (v := .ref (g.2.2 17)) (C := RX3) (T := TX3) (N := 10) hx hb hts iw_X3_ofFeet_X3 hown hK hP 13 rfl rfl 5 (by decide) (hts _ fl_X3_ofFeet_21) rfl dX3_ofFeet_35 ?_
                    refine lv_iload_n hx hb dX3_ofFeet_38 rfl (lv_at hl 2 rfl) ?_
                    refine lv_iconst (v := (nI (4))) hx hb dX3_ofFeet_39 (by decide) ?_
                    refine ln_imul hx hb dX3_ofFeet_40 ?_
                    refine lv_iload_n hx hb dX3_ofFeet_41 rfl (lv_at hl 3 rfl) ?_
                    refine ln_iadd hx hb dX3_ofFeet_42 ?_
                    refine lv_aload_n hx hb dX3_ofFeet_43 rfl (lv_at hl 0 rfl) ?_
                    refine lv_iload_n hx hb dX3_ofFeet_44 rfl (lv_at hl 2 rfl) ?_
                    refine lv_iload_n hx hb dX3_ofFeet_45 rfl (lv_at hl 3 rfl) ?_
                    refine ro_call (va_runV (As := [.int (nI (f)), .int (nI (s2))]) (rest := [.int (nI ((f * 4) + s2)), .ref (g.2.2 17)]) ⟨hx, hb, hml, hown, hts⟩ (c_X3_stepOfFeet l (g := g) (asked := asked) (values := values) (bytes := bytes) (starts := starts) (ends := ends) (length := length) (parts := parts) (texts := texts) (lengths := lengths) (feet := feet) (sorts := sorts) (nxt := nxt) (nv := nv) (sums := sums) (oneSums := oneSums) (otherSums := otherSums) (byFeet := b2) (kept := kept) (over := over) (rcount := rcount) (rcust := rcust) (ssums := ssums) (ways := ways) (nextWays := nextWays) (reached := reached) (nextReached := nextReached) (found := found) (least := least) (greatest := greatest) (f) (s2) (mwy feet sorts nxt nv) (by omega) (by omega) hb3 hnv hfe hso) (cwV 2 hts gX3_ofFeet_X3_stepOfFeet rfl rfl rfl (by decide +kernel) ⟨Nat.le_of_ble_eq_true rfl, Nat.le_of_ble_eq_true rfl⟩) (pre_V pW_bl (va_recv hK hP (ci := 3) (q0 := 13) rfl rfl) (fun U hU hW => pW_of hP hK hN hU hW)) rfl rfl hl.1 rfl (lv_room (Nat.le_of_ble_eq_true rfl)) dX3_ofFeet_46 ⟨Nat.zero_le _, Nat.zero_le _⟩) ?_
                    refine ln_tol (y := (lN (mwy feet sorts nxt nv f s2))) (congrArg lN (mwy_s hfe hf1)) ?_
                    refine an_last (f := b2) (ws' := (wX g asked values bytes starts ends length parts texts lengths feet sorts nxt (nI (nv)) sums oneSums otherSums (vp_updL (b2) ((f * 4) + s2) (lN (mwy feet sorts nxt nv f s2))) kept over rcount rcust ssums ways nextWays reached nextReached found least greatest)) hx hb hK hP (wX_D hd) hS 17 1 rfl rfl (by decide) (by omega) rfl dX3_ofFeet_49 (fun H locs hP hS => ?_)
                    refine lv_iinc (v := (nI (s2 + 1))) (lv' := [(3, .int (nI (s2 + 1))), (0, .ref (g.2.2 13)), (1, .int (nI (ft))), (2, .int (nI (f)))]) hx hb dX3_ofFeet_50 hl (k := 3) rfl (nI_add _ 1) (by decide) rfl (fun ls hl => ?_)
                    refine lv_goto (tgt := 29) hx hb dX3_ofFeet_53 (by decide) ?_
                    exact ih_29 (s2 + 1) (vp_updL b2 (f * 4 + s2) (lN (mwy feet sorts nxt nv f s2))) (by omega) (fun f2 s h1 h2 => by rw [pk_uLn (by omega)]; exact hb3 f2 s h1 h2) (fun s h => by by_cases e : s = s2; (subst e; exact pk_uLs); rw [pk_uLn (by omega)]; exact hb4 s (by omega)) (by omega) _ _ hP hS ls (lv_sub hl [1, 2, 3, 0] rfl)
              exact lp_29 (4 - (0) + 1) 0 b (Nat.zero_le _) (hb2) (fun s h => absurd h (Nat.not_lt_zero s)) (Nat.lt_succ_self _) _ _ hP hS ls (lv_sub hl [1, 2, 3, 0] rfl)
        exact lp_22 (ft + 1 - (1) + 1) 1 u (Nat.le_refl _) (by omega) (fun f2 s h1 h2 => by rw [show f2 = 0 by omega, show 0 * 4 + s = s by omega, hu s (by omega), mwy_0]) (Nat.lt_succ_self _) _ _ hP hS ls (lv_sub hl [1, 2, 0] rfl)
      · have c_4 := (not_congr (cv_le_nn (by omega) (by omega))).mp c_4
        refine lv_aload_n hx hb dX3_ofFeet_7 rfl (lv_at hl 0 rfl) ?_
        refine an_get (ci := 3) (v := .ref (g.2.2 17)) (C := RX3) (T := TX3) (N := 10) hx hb hts iw_X3_ofFeet_X3 hown hK hP 13 rfl rfl 5 (by decide) (hts _ fl_X3_ofFeet_21) rfl dX3_ofFeet_8 ?_
        refine lv_iload_n hx hb dX3_ofFeet_11 rfl (lv_at hl 2 rfl) ?_
        refine lv_lconst (v := (lN (1))) hx hb dX3_ofFeet_12 (by decide) ?_
        refine an_last (f := u) (ws' := (wX g asked values bytes starts ends length parts texts lengths feet sorts nxt (nI (nv)) sums oneSums otherSums (vp_updL (u) (i) (lN (1))) kept over rcount rcust ssums ways nextWays reached nextReached found least greatest)) hx hb hK hP (wX_D hd) hS 17 1 rfl rfl (by decide) (by omega) rfl dX3_ofFeet_13 (fun H locs hP hS => ?_)
        refine lv_iinc (v := (nI (i + 1))) (lv' := [(2, .int (nI (i + 1))), (0, .ref (g.2.2 13)), (1, .int (nI (ft)))]) hx hb dX3_ofFeet_14 hl (k := 2) rfl (nI_add _ 1) (by decide) rfl (fun ls hl => ?_)
        refine lv_goto (tgt := 2) hx hb dX3_ofFeet_17 (by decide) ?_
        exact ih_2 (i + 1) (vp_updL u i (lN 1)) (by omega) (fillL_s hu) (by omega) _ _ hP hS ls (lv_sub hl [1, 2, 0] rfl)
  exact lp_2 (4 - (0) + 1) 0 byFeet (Nat.zero_le _) (fun k hk => absurd hk (Nat.not_lt_zero k)) (Nat.lt_succ_self _) _ _ hP hS ls (lv_sub hl [1, 2, 0] rfl)
theorem iw_X1_append_X1 : ∀ w ∈ u_ws RX1 TX1 5, w ∈ wsX1_append := by decide +kernel
theorem fl_X1_append_9 : Cond.fieldLink RX1 9 (TX1 0).1 (TX1 0).2.1 (TX1 0).2.2.1 ∈ wsX1_append := by decide +kernel
theorem fl_X1_append_21 : Cond.fieldLink RX1 21 (TX1 3).1 (TX1 3).2.1 (TX1 3).2.2.1 ∈ wsX1_append := by decide +kernel
set_option maxHeartbeats 200000 in
set_option maxRecDepth 100000 in
theorem c_X1_append (l : Launch) {g : GW} {asked : Int64} {values : Nat → Int32} {bytes : Nat → Int32} {starts : Nat → Int32} {ends : Nat → Int32} {L : Nat} {parts : Int32} {texts : Nat → Int32} {lengths : Nat → Int32} {feet : Nat → Int32} {sorts : Nat → Int32} {nxt : Nat → Int32} {size : Int32} {sums : Nat → Int32} {oneSums : Nat → Int32} {otherSums : Nat → Int32} {byFeet : Nat → Int64} {kept : Nat → Int64} {over : Int32} {rcount : Int32} {rcust : Int32} {ssums : Nat → Int32} {ways : Nat → Int64} {nextWays : Nat → Int64} {reached : Nat → Int64} {nextReached : Nat → Int64} {found : Int32} {least : Int32} {greatest : Int32} {sz : Nat} (v : Int64) (k0 : Nat) (h1 : 1 ≤ k0) (h2 : k0 ≤ 8) (h3 : L + k0 ≤ 40) (hd : dW 25 g.2.2) : Met l yX1_append wsX1_append ({ frames := 1, cells := 0, slots := 0, locals := 22 }) (va_Pc ([.ref (g.2.2 3), .long (v), .int (nI (k0))]) (qW g (wX g asked values bytes starts ends (nI (L)) parts texts lengths feet sorts nxt size sums oneSums otherSums byFeet kept over rcount rcust ssums ways nextWays reached nextReached found least greatest) sz)) (va_Qv (fun (z : (Nat → Int32) × (Nat → Int32) × (Nat → Int32) × Int32 × Int32) => z.1 = apb bytes L v k0 k0 ∧ z.2.2.2.1 = nI (L + k0) ∧ z.2.2.2.2 = nI (pn (apb bytes L v k0 k0) (L + k0)) ∧ prow (apb bytes L v k0 k0) (L + k0) z.2.1 z.2.2.1) (fun (z : (Nat → Int32) × (Nat → Int32) × (Nat → Int32) × Int32 × Int32) (t : State) => va_P g.1 vwCl (wX g asked values (z.1) (z.2.1) (z.2.2.1) (z.2.2.2.1) (z.2.2.2.2) texts lengths feet sorts nxt size sums oneSums otherSums byFeet kept over rcount rcust ssums ways nextWays reached nextReached found least greatest) t.heap) (aW 25 g.2.2 sz)) 0 0 (aW 25 g.2.2 sz) := by
  refine Met.ofW (cc := cX1_append) (maxL := 5) (ret := none) (by decide) rfl ?_
  intro p e s m args below meth c s₁ B hml hv
  obtain ⟨rfl, hsz9, hP, hK, hN⟩ := hv
  subst hsz9
  have hx := B.exec
  have hb := B.bytes
  have hr := B.returns
  have hts := atoms_spec (ws := wsX1_append) B.pre
  have hown : s.vm.findClass RX1 = some m.cls := findClass_of_methodNamed B.named
  have hlocks := B.notSynchronized
  have hS : va_S (aW 25 g.2.2 s.heap.size) s.heap s.heap [] := va_S.rf
  have hl := lv_entry ([.ref (g.2.2 3), .long (v), .int (nI (k0))]) (n := 5) (Nat.le_of_ble_eq_true rfl)
  rw [lg_entry_eq]
  generalize (lg_sl ([.ref (g.2.2 3), .long (v), .int (nI (k0))]) ++ List.replicate (5 - (lg_sl ([.ref (g.2.2 3), .long (v), .int (nI (k0))])).length) Slot.unset).toArray = ls at hl ⊢
  have hl : lv_has ls 5 [(0, .ref (g.2.2 3)), (1, .long (v)), (3, .int (nI (k0)))] := hl
  refine lv_iload_n hx hb dX1_append_0 rfl (lv_at hl 2 rfl) ?_
  refine lv_iconst (v := (nI (1))) hx hb dX1_append_1 (by decide) ?_
  refine lv_isub hx hb dX1_append_2 ?_
  refine lv_istore (lv' := [(4, .int ((nI (k0)) - (nI (1)))), (0, .ref (g.2.2 3)), (1, .long (v)), (3, .int (nI (k0)))]) hx hb dX1_append_3 hl (by decide) rfl (fun ls hl => ?_)
  have lp_5 : ∀ (n : Nat) (i : Nat), (i ≤ k0) → k0 - i < n → ∀ (H : Heap) (locs : List Loc), va_P g.1 vwCl (wX g asked values (apb bytes L v k0 i) starts ends (nI (L + i)) parts texts lengths feet sorts nxt size sums oneSums otherSums byFeet kept over rcount rcust ssums ways nextWays reached nextReached found least greatest) H → va_S (aW 25 g.2.2 s.heap.size) s.heap H locs → ∀ (ls : Array Slot), lv_has ls 5 [(0, .ref (g.2.2 3)), (1, .long (v)), (3, .int (nI (k0))), (4, .int (nI (k0 - i) - nI 1))] → W p l e (headSpec wsX1_append ({ frames := 1, cells := 0, slots := 0, locals := 22 })).room s m (([.ref (g.2.2 3), .long (v), .int (nI (k0))] : List Value).toArray) below meth c H locs 0 0 (MQ below (va_Qv (fun (z : (Nat → Int32) × (Nat → Int32) × (Nat → Int32) × Int32 × Int32) => z.1 = apb bytes L v k0 k0 ∧ z.2.2.2.1 = nI (L + k0) ∧ z.2.2.2.2 = nI (pn (apb bytes L v k0 k0) (L + k0)) ∧ prow (apb bytes L v k0 k0) (L + k0) z.2.1 z.2.2.1) (fun (z : (Nat → Int32) × (Nat → Int32) × (Nat → Int32) × Int32 × Int32) (t : State) => va_P g.1 vwCl (wX g asked values (z.1) (z.2.1) (z.2.2.1) (z.2.2.2.1) (z.2.2.2.2) texts lengths feet sorts nxt size sums oneSums otherSums byFeet kept over rcount rcust ssums ways nextWays reached nextReached found least greatest) t.heap) (aW 25 g.2.2 s.heap.size)) (([.ref (g.2.2 3), .long (v), .int (nI (k0))] : List Value).toArray) s 0 0 (aW 25 g.2.2 s.heap.size)) (F0 m 5 ls []) := by
    intro n
    induction n with
    | zero => intro i hi hm; exact absurd hm (Nat.not_lt_zero _)
    | succ n ih_5 =>
      intro i hi hm_5 H locs hP hS ls hl
      have h30 := sub1_toInt (a := k0 - i) (by omega)
      refine lv_iload hx hb dX1_append_5 (lv_at hl 3 rfl) ?_
      refine lv_if_lt (tgt := 41) hx hb dX1_append_7 (by decide) (fun c_7 => ?_) (fun c_7 => ?_)
      · have c_7 := (cz_lt_i).mp c_7
        refine lv_aload_n hx hb dX1_append_41 rfl (lv_at hl 0 rfl) ?_
        rw [show i = k0 by omega] at hP
        refine wr_callv (w := (fun (z : (Nat → Int32) × (Nat → Int32) × Int32) => (wX g asked values (apb bytes L v k0 k0) (z.1) (z.2.1) (nI (L + k0)) (z.2.2) texts lengths feet sorts nxt size sums oneSums otherSums byFeet kept over rcount rcust ssums ways nextWays reached nextReached found least greatest))) (va_runV (As := []) (rest := []) ⟨hx, hb, hml, hown, hts⟩ (c_X1_findParts l (g := g) (asked := asked) (values := values) (bytes := apb bytes L v k0 k0) (starts := starts) (ends := ends) (L := L + k0) (parts := parts) (texts := texts) (lengths := lengths) (feet := feet) (sorts := sorts) (nxt := nxt) (size := size) (sums := sums) (oneSums := oneSums) (otherSums := otherSums) (byFeet := byFeet) (kept := kept) (over := over) (rcount := rcount) (rcust := rcust) (ssums := ssums) (ways := ways) (nextWays := nextWays) (reached := reached) (nextReached := nextReached) (found := found) (least := least) (greatest := greatest) (sz := _)  h3 hd) (cwV 0 hts gX1_append_X1_findParts rfl rfl rfl (by decide +kernel) ⟨Nat.le_of_ble_eq_true rfl, Nat.le_of_ble_eq_true rfl⟩) (pre_V qW_bl (va_recv hK hP (ci := 1) (q0 := 3) rfl rfl) (fun U hU hW => ⟨by rw [hU], pW_of hP hK hN hU hW⟩)) rfl rfl hl.1 rfl (lv_room (Nat.le_of_ble_eq_true rfl)) dX1_append_42 ⟨Nat.zero_le _, Nat.zero_le _⟩) hS (fun z42 H locs hp42 hP hS => ?_)
        obtain ⟨starts42, ends42, parts42⟩ := z42
        try dsimp only at hp42
        have hP : va_P g.1 vwCl (wX g asked values (apb bytes L v k0 k0) starts42 ends42 (nI (L + k0)) parts42 texts lengths feet sorts nxt size sums oneSums otherSums byFeet kept over rcount rcust ssums ways nextWays reached nextReached found least greatest) H := hP
        exact wr_vret (apb bytes L v k0 k0, starts42, ends42, nI (L + k0), parts42) hx hb hr hlocks (⟨rfl, rfl, hp42⟩) (fun t ht => show va_P g.1 vwCl (wX g asked values (apb bytes L v k0 k0) starts42 ends42 (nI (L + k0)) parts42 texts lengths feet sorts nxt size sums oneSums otherSums byFeet kept over rcount rcust ssums ways nextWays reached nextReached found least greatest) t.heap by rw [ht]; exact hP) hS dX1_append_45
      · have c_7 := (not_congr (cz_lt_i)).mp c_7
        rw [pk_sub (show 1 ≤ k0 - i by omega)] at hl
        refine lv_aload_n hx hb dX1_append_10 rfl (lv_at hl 0 rfl) ?_
        refine an_get (ci := 1) (v := .ref (g.2.2 4)) (C := RX1) (T := TX1) (N := 5) hx hb hts iw_X1_append_X1 hown hK hP 3 rfl rfl 0 (by decide) (hts _ fl_X1_append_9) rfl dX1_append_11 ?_
        refine lv_aload_n hx hb dX1_append_14 rfl (lv_at hl 0 rfl) ?_
        refine an_get (ci := 1) (v := .int (nI (L + i))) (C := RX1) (T := TX1) (N := 5) hx hb hts iw_X1_append_X1 hown hK hP 3 rfl rfl 3 (by decide) (hts _ fl_X1_append_21) rfl dX1_append_15 ?_
        refine lv_lload_n hx hb dX1_append_18 rfl (lv_at hl 1 rfl) ?_
        refine lv_iload hx hb dX1_append_19 (lv_at hl 3 rfl) ?_
        refine ro_call (va_runSN (As := [.long (v), .int (nI (k0 - i - 1))]) (rest := [.int (nI (L + i)), .ref (g.2.2 4)]) ⟨hx, hb, hml, hown, hts⟩ (c_X5_byteOf l (v) (k0 - i - 1) (by omega)) ⟨va_cnB 2 hts gX1_append_X5_byteOf_n25 rfl rfl rfl hN.2.2.1 (hts (.initialized RX5) (by decide +kernel)) (by decide +kernel) ⟨Nat.le_of_ble_eq_true rfl, Nat.le_of_ble_eq_true rfl⟩, hts (.static yX5_byteOf) (by decide +kernel), trivial⟩ pre_0 rfl rfl hl.1 rfl (lv_room (Nat.le_of_ble_eq_true rfl)) dX1_append_21 ⟨Nat.zero_le _, Nat.zero_le _⟩) ?_
        refine an_iast (f := apb bytes L v k0 i) (ws' := (wX g asked values (upd (apb bytes L v k0 i) (L + i) (nI (byt (v) (k0 - i - 1)))) starts ends (nI (L + i)) parts texts lengths feet sorts nxt size sums oneSums otherSums byFeet kept over rcount rcust ssums ways nextWays reached nextReached found least greatest)) hx hb hK hP (wX_D hd) hS 4 0 rfl rfl (by decide) (by omega) rfl dX1_append_24 (fun H locs hP hS => ?_)
        refine lv_aload_n hx hb dX1_append_25 rfl (lv_at hl 0 rfl) ?_
        refine lv_dup hx hb dX1_append_26 rfl ?_
        refine an_get (ci := 1) (v := .int (nI (L + i))) (C := RX1) (T := TX1) (N := 5) hx hb hts iw_X1_append_X1 hown hK hP 3 rfl rfl 3 (by decide) (hts _ fl_X1_append_21) rfl dX1_append_27 ?_
        refine lv_iconst (v := (nI (1))) hx hb dX1_append_30 (by decide) ?_
        refine ln_iadd hx hb dX1_append_31 ?_
        refine an_put (ci := 1) (v := .int (nI ((L + i) + 1))) (ty := .int) (C := RX1) (T := TX1) (N := 5) (ws' := (wX g asked values (upd (apb bytes L v k0 i) (L + i) (nI (byt (v) (k0 - i - 1)))) starts ends ((nI ((L + i) + 1))) parts texts lengths feet sorts nxt size sums oneSums otherSums byFeet kept over rcount rcust ssums ways nextWays reached nextReached found least greatest)) hx hb hts iw_X1_append_X1 tyX1 tyX1_ok nmX1 hown hK hP (wX_D hd) hS 3 rfl rfl 3 (by decide) (hts _ fl_X1_append_21) rfl (by decide +kernel) (rfl) (rfl) (Nat.le_of_ble_eq_true rfl) rfl dX1_append_32 (fun H locs hP hS => ?_)
        refine lv_iinc (v := (nI (k0 - (i + 1)) - nI 1)) (lv' := [(4, .int (nI (k0 - (i + 1)) - nI 1)), (0, .ref (g.2.2 3)), (1, .long (v)), (3, .int (nI (k0)))]) hx hb dX1_append_35 hl (k := 3) rfl (inc_m1 (by omega)) (by decide) rfl (fun ls hl => ?_)
        refine lv_goto (tgt := 5) hx hb dX1_append_38 (by decide) ?_
        exact ih_5 (i + 1) (by omega) (by omega) _ _ hP hS ls (lv_sub hl [1, 2, 3, 0] rfl)
  exact lp_5 (k0 - (0) + 1) 0 (Nat.zero_le _) (Nat.lt_succ_self _) _ _ hP hS ls (lv_sub hl [1, 2, 3, 0] rfl)
end
