section
-- ===== PART A: goes FIRST, ahead of the names: the tables' words, and 'selects' of the private methods out of them =====
/-- a private method of a class that the tables say can be made, by its rows of tables_1 -/
def lw_okq (q : MethodName × Nat) : Prop := (q.1.cls ≠ "java/lang/invoke/MethodHandle" ∧ q.1.cls ≠ "java/lang/invoke/VarHandle") ∧ Cond.instantiable q.1.cls q.2 ∈ tables_1 ∧ Cond.privateMethod q.1 ∈ tables_1 ∧ Cond.instanceMethod q.1 ∈ tables_1
theorem lw_p0 : lw_okq (⟨"DearAsMany", "settle", "()V"⟩, 10) := ⟨⟨by decide +kernel, by decide +kernel⟩, List.mem_of_getElem? (i := 14) (by decide +kernel), List.mem_of_getElem? (i := 180) (by decide +kernel), List.mem_of_getElem? (i := 181) (by decide +kernel)⟩
theorem lw_p1 : lw_okq (⟨"DearAsMany$Reader", "readItem", "(LDearAsMany$Text;LDearAsMany$People;)Z"⟩, 2) := ⟨⟨by decide +kernel, by decide +kernel⟩, List.mem_of_getElem? (i := 38) (by decide +kernel), List.mem_of_getElem? (i := 273) (by decide +kernel), List.mem_of_getElem? (i := 274) (by decide +kernel)⟩
theorem lw_p2 : lw_okq (⟨"DearAsMany$Reader", "readNumbers", "(LDearAsMany$Text;I)Z"⟩, 2) := ⟨⟨by decide +kernel, by decide +kernel⟩, List.mem_of_getElem? (i := 38) (by decide +kernel), List.mem_of_getElem? (i := 281) (by decide +kernel), List.mem_of_getElem? (i := 282) (by decide +kernel)⟩
theorem lw_p3 : lw_okq (⟨"DearAsMany$Reader", "readNumber", "(LDearAsMany$Text;)I"⟩, 2) := ⟨⟨by decide +kernel, by decide +kernel⟩, List.mem_of_getElem? (i := 38) (by decide +kernel), List.mem_of_getElem? (i := 285) (by decide +kernel), List.mem_of_getElem? (i := 286) (by decide +kernel)⟩
theorem lw_p4 : lw_okq (⟨"DearAsMany", "isPerson", "(I)Z"⟩, 10) := ⟨⟨by decide +kernel, by decide +kernel⟩, List.mem_of_getElem? (i := 14) (by decide +kernel), List.mem_of_getElem? (i := 312) (by decide +kernel), List.mem_of_getElem? (i := 313) (by decide +kernel)⟩
theorem lw_p5 : lw_okq (⟨"DearAsMany", "isSet", "(I)Z"⟩, 10) := ⟨⟨by decide +kernel, by decide +kernel⟩, List.mem_of_getElem? (i := 14) (by decide +kernel), List.mem_of_getElem? (i := 334) (by decide +kernel), List.mem_of_getElem? (i := 335) (by decide +kernel)⟩
theorem lw_p6 : lw_okq (⟨"DearAsMany", "season", "()I"⟩, 10) := ⟨⟨by decide +kernel, by decide +kernel⟩, List.mem_of_getElem? (i := 14) (by decide +kernel), List.mem_of_getElem? (i := 342) (by decide +kernel), List.mem_of_getElem? (i := 343) (by decide +kernel)⟩
theorem lw_p7 : lw_okq (⟨"DearAsMany", "canPay", "(I)Z"⟩, 10) := ⟨⟨by decide +kernel, by decide +kernel⟩, List.mem_of_getElem? (i := 14) (by decide +kernel), List.mem_of_getElem? (i := 371) (by decide +kernel), List.mem_of_getElem? (i := 372) (by decide +kernel)⟩
theorem lw_p8 : lw_okq (⟨"DearAsMany$Course", "lookFarAhead", "(Z)V"⟩, 2) := ⟨⟨by decide +kernel, by decide +kernel⟩, List.mem_of_getElem? (i := 96) (by decide +kernel), List.mem_of_getElem? (i := 480) (by decide +kernel), List.mem_of_getElem? (i := 481) (by decide +kernel)⟩
theorem lw_p9 : lw_okq (⟨"DearAsMany$Counsel", "gainTogether", "(III)I"⟩, 1) := ⟨⟨by decide +kernel, by decide +kernel⟩, List.mem_of_getElem? (i := 109) (by decide +kernel), List.mem_of_getElem? (i := 525) (by decide +kernel), List.mem_of_getElem? (i := 526) (by decide +kernel)⟩
theorem lw_p10 : lw_okq (⟨"DearAsManyModel", "takesItem", "()Z"⟩, 24) := ⟨⟨by decide +kernel, by decide +kernel⟩, List.mem_of_getElem? (i := 586) (by decide +kernel), List.mem_of_getElem? (i := 682) (by decide +kernel), List.mem_of_getElem? (i := 683) (by decide +kernel)⟩
theorem lw_p11 : lw_okq (⟨"DearAsManyModel", "takesPerson", "()Z"⟩, 24) := ⟨⟨by decide +kernel, by decide +kernel⟩, List.mem_of_getElem? (i := 586) (by decide +kernel), List.mem_of_getElem? (i := 686) (by decide +kernel), List.mem_of_getElem? (i := 687) (by decide +kernel)⟩
theorem lw_p12 : lw_okq (⟨"DearAsManyModel", "number", "(II)I"⟩, 24) := ⟨⟨by decide +kernel, by decide +kernel⟩, List.mem_of_getElem? (i := 586) (by decide +kernel), List.mem_of_getElem? (i := 693) (by decide +kernel), List.mem_of_getElem? (i := 694) (by decide +kernel)⟩
theorem lw_p13 : lw_okq (⟨"DearAsManyModel", "isFigure", "(I)Z"⟩, 24) := ⟨⟨by decide +kernel, by decide +kernel⟩, List.mem_of_getElem? (i := 586) (by decide +kernel), List.mem_of_getElem? (i := 697) (by decide +kernel), List.mem_of_getElem? (i := 698) (by decide +kernel)⟩
theorem lw_p14 : lw_okq (⟨"DearAsManyModel", "isPerson", "(I)Z"⟩, 24) := ⟨⟨by decide +kernel, by decide +kernel⟩, List.mem_of_getElem? (i := 586) (by decide +kernel), List.mem_of_getElem? (i := 712) (by decide +kernel), List.mem_of_getElem? (i := 713) (by decide +kernel)⟩
theorem lw_p15 : lw_okq (⟨"DearAsManyModel", "all", "()I"⟩, 24) := ⟨⟨by decide +kernel, by decide +kernel⟩, List.mem_of_getElem? (i := 586) (by decide +kernel), List.mem_of_getElem? (i := 724) (by decide +kernel), List.mem_of_getElem? (i := 725) (by decide +kernel)⟩
def lw_privs_1 : List (MethodName × Nat) := [(⟨"DearAsMany", "settle", "()V"⟩, 10), (⟨"DearAsMany$Reader", "readItem", "(LDearAsMany$Text;LDearAsMany$People;)Z"⟩, 2), (⟨"DearAsMany$Reader", "readNumbers", "(LDearAsMany$Text;I)Z"⟩, 2), (⟨"DearAsMany$Reader", "readNumber", "(LDearAsMany$Text;)I"⟩, 2), (⟨"DearAsMany", "isPerson", "(I)Z"⟩, 10), (⟨"DearAsMany", "isSet", "(I)Z"⟩, 10), (⟨"DearAsMany", "season", "()I"⟩, 10), (⟨"DearAsMany", "canPay", "(I)Z"⟩, 10), (⟨"DearAsMany$Course", "lookFarAhead", "(Z)V"⟩, 2), (⟨"DearAsMany$Counsel", "gainTogether", "(III)I"⟩, 1), (⟨"DearAsManyModel", "takesItem", "()Z"⟩, 24), (⟨"DearAsManyModel", "takesPerson", "()Z"⟩, 24), (⟨"DearAsManyModel", "number", "(II)I"⟩, 24), (⟨"DearAsManyModel", "isFigure", "(I)Z"⟩, 24), (⟨"DearAsManyModel", "isPerson", "(I)Z"⟩, 24), (⟨"DearAsManyModel", "all", "()I"⟩, 24)]
theorem lw_r1 : ∀ q ∈ lw_privs_1, lw_okq q := List.forall_mem_cons.mpr ⟨lw_p0, List.forall_mem_cons.mpr ⟨lw_p1, List.forall_mem_cons.mpr ⟨lw_p2, List.forall_mem_cons.mpr ⟨lw_p3, List.forall_mem_cons.mpr ⟨lw_p4, List.forall_mem_cons.mpr ⟨lw_p5, List.forall_mem_cons.mpr ⟨lw_p6, List.forall_mem_cons.mpr ⟨lw_p7, List.forall_mem_cons.mpr ⟨lw_p8, List.forall_mem_cons.mpr ⟨lw_p9, List.forall_mem_cons.mpr ⟨lw_p10, List.forall_mem_cons.mpr ⟨lw_p11, List.forall_mem_cons.mpr ⟨lw_p12, List.forall_mem_cons.mpr ⟨lw_p13, List.forall_mem_cons.mpr ⟨lw_p14, List.forall_mem_cons.mpr ⟨lw_p15, fun _ h => absurd h List.not_mem_nil⟩⟩⟩⟩⟩⟩⟩⟩⟩⟩⟩⟩⟩⟩⟩⟩
theorem lw_p16 : lw_okq (⟨"DearAsManyModel", "worthOf", "(II)I"⟩, 24) := ⟨⟨by decide +kernel, by decide +kernel⟩, List.mem_of_getElem? (i := 586) (by decide +kernel), List.mem_of_getElem? (i := 728) (by decide +kernel), List.mem_of_getElem? (i := 729) (by decide +kernel)⟩
theorem lw_p17 : lw_okq (⟨"DearAsManyModel", "others", "(II)I"⟩, 24) := ⟨⟨by decide +kernel, by decide +kernel⟩, List.mem_of_getElem? (i := 586) (by decide +kernel), List.mem_of_getElem? (i := 732) (by decide +kernel), List.mem_of_getElem? (i := 733) (by decide +kernel)⟩
theorem lw_p18 : lw_okq (⟨"DearAsManyModel", "othersThan", "(II)I"⟩, 24) := ⟨⟨by decide +kernel, by decide +kernel⟩, List.mem_of_getElem? (i := 586) (by decide +kernel), List.mem_of_getElem? (i := 736) (by decide +kernel), List.mem_of_getElem? (i := 737) (by decide +kernel)⟩
theorem lw_p19 : lw_okq (⟨"DearAsManyModel", "remember", "()V"⟩, 24) := ⟨⟨by decide +kernel, by decide +kernel⟩, List.mem_of_getElem? (i := 586) (by decide +kernel), List.mem_of_getElem? (i := 750) (by decide +kernel), List.mem_of_getElem? (i := 751) (by decide +kernel)⟩
theorem lw_p20 : lw_okq (⟨"DearAsManyModel", "wouldBuy", "(II)Z"⟩, 24) := ⟨⟨by decide +kernel, by decide +kernel⟩, List.mem_of_getElem? (i := 586) (by decide +kernel), List.mem_of_getElem? (i := 774) (by decide +kernel), List.mem_of_getElem? (i := 775) (by decide +kernel)⟩
theorem lw_p21 : lw_okq (⟨"DearAsManyModel", "wouldThrow", "(II)Z"⟩, 24) := ⟨⟨by decide +kernel, by decide +kernel⟩, List.mem_of_getElem? (i := 586) (by decide +kernel), List.mem_of_getElem? (i := 778) (by decide +kernel), List.mem_of_getElem? (i := 779) (by decide +kernel)⟩
theorem lw_p22 : lw_okq (⟨"DearAsManyModel", "round", "(IZ)I"⟩, 24) := ⟨⟨by decide +kernel, by decide +kernel⟩, List.mem_of_getElem? (i := 586) (by decide +kernel), List.mem_of_getElem? (i := 787) (by decide +kernel), List.mem_of_getElem? (i := 788) (by decide +kernel)⟩
theorem lw_p23 : lw_okq (⟨"DearAsManyModel", "tells", "(Z)V"⟩, 24) := ⟨⟨by decide +kernel, by decide +kernel⟩, List.mem_of_getElem? (i := 586) (by decide +kernel), List.mem_of_getElem? (i := 795) (by decide +kernel), List.mem_of_getElem? (i := 796) (by decide +kernel)⟩
def lw_privs_2 : List (MethodName × Nat) := [(⟨"DearAsManyModel", "worthOf", "(II)I"⟩, 24), (⟨"DearAsManyModel", "others", "(II)I"⟩, 24), (⟨"DearAsManyModel", "othersThan", "(II)I"⟩, 24), (⟨"DearAsManyModel", "remember", "()V"⟩, 24), (⟨"DearAsManyModel", "wouldBuy", "(II)Z"⟩, 24), (⟨"DearAsManyModel", "wouldThrow", "(II)Z"⟩, 24), (⟨"DearAsManyModel", "round", "(IZ)I"⟩, 24), (⟨"DearAsManyModel", "tells", "(Z)V"⟩, 24)]
theorem lw_r2 : ∀ q ∈ lw_privs_2, lw_okq q := List.forall_mem_cons.mpr ⟨lw_p16, List.forall_mem_cons.mpr ⟨lw_p17, List.forall_mem_cons.mpr ⟨lw_p18, List.forall_mem_cons.mpr ⟨lw_p19, List.forall_mem_cons.mpr ⟨lw_p20, List.forall_mem_cons.mpr ⟨lw_p21, List.forall_mem_cons.mpr ⟨lw_p22, List.forall_mem_cons.mpr ⟨lw_p23, fun _ h => absurd h List.not_mem_nil⟩⟩⟩⟩⟩⟩⟩⟩
def lw_privs : List (MethodName × Nat) := lw_privs_1 ++ (lw_privs_2)
def lw_tbl : List Cond := k2_sels lw_privs ++ tables_1
theorem lw_privs_ok : ∀ q ∈ lw_privs, lw_okq q := by
  show ∀ q ∈ lw_privs_1 ++ (lw_privs_2), lw_okq q
  exact List.forall_mem_append.mpr ⟨lw_r1, lw_r2⟩
-- ===== end of PART A; then your names; then what follows =====
end
section
/-! ===== BEGIN words of one list among another's, by their places ===== -/
theorem goodIn_r {big : List Cond} (ws : List Cond) (ps : List Nat) (hp : ws = ps.filterMap (fun i => big[i]?)) (h : ws.all goodWord = true) : GoodIn big ws := by
  intro w hw
  have h1 := List.all_eq_true.mp h w hw
  rw [hp] at hw
  obtain ⟨i, -, hi⟩ := List.mem_filterMap.mp hw
  have hm : w ∈ big := by first | exact List.mem_of_getElem? hi | exact List.getElem?_mem hi
  exact ⟨hm, good_of_word h1⟩
theorem goodIn_app {big a b : List Cond} (ha : GoodIn big a) (hb : GoodIn big b) : GoodIn big (a ++ b) := fun w h => (List.mem_append.mp h).elim (ha w) (hb w)
theorem goodIn_ca {big a b : List Cond} {c : Cond} (ha : GoodIn big (c :: a)) (hb : GoodIn big b) : GoodIn big (c :: (a ++ b)) := fun w h => (List.mem_cons.mp h).elim (fun e => ha w (List.mem_cons.mpr (Or.inl e))) (fun h => (List.mem_append.mp h).elim (fun h => ha w (List.mem_cons.mpr (Or.inr h))) (hb w))
theorem goodIn_sub {big ws : List Cond} (hm : ∀ w ∈ ws, w ∈ big) (h : ws.all goodWord = true) : GoodIn big ws := fun w hw => ⟨hm w hw, good_of_word (List.all_eq_true.mp h w hw)⟩
/-! ===== END ===== -/

/-! ===== BEGIN printed: names, fields, word lists, decode rows ===== -/
def RX0 : String := "DearAsMany$Counsel"
def TX0 : u_T := fun k => match k with
  | _ => ("DearAsMany$Counsel", "market", "LDearAsMany$Market;", true)
def tyX0 : Nat → FieldType := fun k => match k with
  | _ => .object "DearAsMany$Market"
abbrev wsX00 : List Cond := u_ws RX0 TX0 1
theorem nmX0 : ∀ a, a < 1 → ∀ b, b < 1 → a ≠ b → (TX0 a).2.1 ≠ (TX0 b).2.1 := by decide +kernel
theorem tyX0_ok : ∀ k, k < 1 → parseFieldDescriptor (TX0 k).2.2.1 = some (tyX0 k) := by decide +kernel
abbrev cX0_init : ByteArray := prog_2_method_1_code
def yX0_init : MethodName := ⟨RX0, "<init>", "(LDearAsMany$Market;)V"⟩
abbrev cX0_bestAhead : ByteArray := prog_2_method_2_code
def yX0_bestAhead : MethodName := ⟨RX0, "bestAhead", "(II)I"⟩
abbrev cX0_gainBehind : ByteArray := prog_2_method_3_code
def yX0_gainBehind : MethodName := ⟨RX0, "gainBehind", "(III)I"⟩
abbrev cX0_leastBurnt : ByteArray := prog_2_method_4_code
def yX0_leastBurnt : MethodName := ⟨RX0, "leastBurnt", "(II)I"⟩
abbrev cX0_bestPair : ByteArray := prog_2_method_5_code
def yX0_bestPair : MethodName := ⟨RX0, "bestPair", "(I)I"⟩
abbrev cX0_gainTogether : ByteArray := prog_2_method_6_code
def yX0_gainTogether : MethodName := ⟨RX0, "gainTogether", "(III)I"⟩
def RX1 : String := "DearAsMany$Course"
def TX1 : u_T := fun k => match k with
  | 0 => ("DearAsMany$Course", "market", "LDearAsMany$Market;", true)
  | _ => ("DearAsMany$Course", "onward", "[I", true)
def tyX1 : Nat → FieldType := fun k => match k with
  | 0 => .object "DearAsMany$Market"
  | _ => .array .int
abbrev wsX10 : List Cond := u_ws RX1 TX1 2
theorem nmX1 : ∀ a, a < 2 → ∀ b, b < 2 → a ≠ b → (TX1 a).2.1 ≠ (TX1 b).2.1 := by decide +kernel
theorem tyX1_ok : ∀ k, k < 2 → parseFieldDescriptor (TX1 k).2.2.1 = some (tyX1 k) := by decide +kernel
abbrev cX1_init : ByteArray := prog_3_method_1_code
def yX1_init : MethodName := ⟨RX1, "<init>", "(LDearAsMany$Market;)V"⟩
abbrev cX1_ownersBehind : ByteArray := prog_3_method_2_code
def yX1_ownersBehind : MethodName := ⟨RX1, "ownersBehind", "(IIZ)I"⟩
abbrev cX1_roundsToRest : ByteArray := prog_3_method_3_code
def yX1_roundsToRest : MethodName := ⟨RX1, "roundsToRest", "(IZ)I"⟩
abbrev cX1_roundsOfSwing : ByteArray := prog_3_method_4_code
def yX1_roundsOfSwing : MethodName := ⟨RX1, "roundsOfSwing", "(IZ)I"⟩
abbrev cX1_restsWith : ByteArray := prog_3_method_5_code
def yX1_restsWith : MethodName := ⟨RX1, "restsWith", "(I)Z"⟩
abbrev cX1_countRests : ByteArray := prog_3_method_6_code
def yX1_countRests : MethodName := ⟨RX1, "countRests", "()I"⟩
abbrev cX1_restAt : ByteArray := prog_3_method_7_code
def yX1_restAt : MethodName := ⟨RX1, "restAt", "(I)I"⟩
abbrev cX1_leastPush : ByteArray := prog_3_method_8_code
def yX1_leastPush : MethodName := ⟨RX1, "leastPush", "(IIZ)I"⟩
abbrev cX1_lookFarAhead : ByteArray := prog_3_method_9_code
def yX1_lookFarAhead : MethodName := ⟨RX1, "lookFarAhead", "(Z)V"⟩
abbrev cX1_ownersBehindYear : ByteArray := prog_3_method_10_code
def yX1_ownersBehindYear : MethodName := ⟨RX1, "ownersBehindYear", "(III)I"⟩
abbrev cX1_bestDay : ByteArray := prog_3_method_11_code
def yX1_bestDay : MethodName := ⟨RX1, "bestDay", "(III)I"⟩
abbrev cX1_seasonOn : ByteArray := prog_3_method_12_code
def yX1_seasonOn : MethodName := ⟨RX1, "seasonOn", "(II)I"⟩
def RX2 : String := "DearAsMany$Holding"
def TX2 : u_T := fun k => match k with
  | 0 => ("DearAsMany$Holding", "pennies", "[I", true)
  | _ => ("DearAsMany$Holding", "owners", "I", false)
def tyX2 : Nat → FieldType := fun k => match k with
  | 0 => .array .int
  | _ => .int
abbrev wsX20 : List Cond := u_ws RX2 TX2 2
theorem nmX2 : ∀ a, a < 2 → ∀ b, b < 2 → a ≠ b → (TX2 a).2.1 ≠ (TX2 b).2.1 := by decide +kernel
theorem tyX2_ok : ∀ k, k < 2 → parseFieldDescriptor (TX2 k).2.2.1 = some (tyX2 k) := by decide +kernel
abbrev cX2_init : ByteArray := prog_4_method_1_code
def yX2_init : MethodName := ⟨RX2, "<init>", "()V"⟩
abbrev cX2_begin : ByteArray := prog_4_method_2_code
def yX2_begin : MethodName := ⟨RX2, "begin", "(LDearAsMany$People;)V"⟩
abbrev cX2_owns : ByteArray := prog_4_method_3_code
def yX2_owns : MethodName := ⟨RX2, "owns", "(I)Z"⟩
abbrev cX2_penniesOf : ByteArray := prog_4_method_4_code
def yX2_penniesOf : MethodName := ⟨RX2, "penniesOf", "(I)I"⟩
abbrev cX2_earn : ByteArray := prog_4_method_5_code
def yX2_earn : MethodName := ⟨RX2, "earn", "(II)V"⟩
def RX3 : String := "DearAsMany$Market"
def TX3 : u_T := fun k => match k with
  | 0 => ("DearAsMany$Market", "people", "LDearAsMany$People;", true)
  | _ => ("DearAsMany$Market", "homes", "[I", true)
def tyX3 : Nat → FieldType := fun k => match k with
  | 0 => .object "DearAsMany$People"
  | _ => .array .int
abbrev wsX30 : List Cond := u_ws RX3 TX3 2
theorem nmX3 : ∀ a, a < 2 → ∀ b, b < 2 → a ≠ b → (TX3 a).2.1 ≠ (TX3 b).2.1 := by decide +kernel
theorem tyX3_ok : ∀ k, k < 2 → parseFieldDescriptor (TX3 k).2.2.1 = some (tyX3 k) := by decide +kernel
abbrev cX3_init : ByteArray := prog_5_method_1_code
def yX3_init : MethodName := ⟨RX3, "<init>", "()V"⟩
abbrev cX3_open : ByteArray := prog_5_method_2_code
def yX3_open : MethodName := ⟨RX3, "open", "(LDearAsMany$People;)V"⟩
abbrev cX3_othersOf : ByteArray := prog_5_method_3_code
def yX3_othersOf : MethodName := ⟨RX3, "othersOf", "(II)I"⟩
abbrev cX3_valueTo : ByteArray := prog_5_method_4_code
def yX3_valueTo : MethodName := ⟨RX3, "valueTo", "(III)I"⟩
abbrev cX3_valueWith : ByteArray := prog_5_method_5_code
def yX3_valueWith : MethodName := ⟨RX3, "valueWith", "(III)I"⟩
abbrev cX3_wants : ByteArray := prog_5_method_6_code
def yX3_wants : MethodName := ⟨RX3, "wants", "(III)Z"⟩
abbrev cX3_changes : ByteArray := prog_5_method_7_code
def yX3_changes : MethodName := ⟨RX3, "changes", "(III)Z"⟩
abbrev cX3_changersBy : ByteArray := prog_5_method_8_code
def yX3_changersBy : MethodName := ⟨RX3, "changersBy", "(II)I"⟩
abbrev cX3_nextOwners : ByteArray := prog_5_method_9_code
def yX3_nextOwners : MethodName := ⟨RX3, "nextOwners", "(IZI)I"⟩
def RX4 : String := "DearAsMany$People"
def TX4 : u_T := fun k => match k with
  | 0 => ("DearAsMany$People", "traits", "[I", true)
  | 1 => ("DearAsMany$People", "size", "I", false)
  | 2 => ("DearAsMany$People", "firstOwners", "I", false)
  | _ => ("DearAsMany$People", "season", "I", false)
def tyX4 : Nat → FieldType := fun k => match k with
  | 0 => .array .int
  | 1 => .int
  | 2 => .int
  | _ => .int
abbrev wsX40 : List Cond := u_ws RX4 TX4 4
theorem nmX4 : ∀ a, a < 4 → ∀ b, b < 4 → a ≠ b → (TX4 a).2.1 ≠ (TX4 b).2.1 := by decide +kernel
theorem tyX4_ok : ∀ k, k < 4 → parseFieldDescriptor (TX4 k).2.2.1 = some (tyX4 k) := by decide +kernel
abbrev cX4_init : ByteArray := prog_6_method_1_code
def yX4_init : MethodName := ⟨RX4, "<init>", "()V"⟩
abbrev cX4_clear : ByteArray := prog_6_method_2_code
def yX4_clear : MethodName := ⟨RX4, "clear", "()V"⟩
abbrev cX4_add : ByteArray := prog_6_method_3_code
def yX4_add : MethodName := ⟨RX4, "add", "(IIIII)Z"⟩
abbrev cX4_giveOne : ByteArray := prog_6_method_4_code
def yX4_giveOne : MethodName := ⟨RX4, "giveOne", "(I)Z"⟩
abbrev cX4_setSeason : ByteArray := prog_6_method_5_code
def yX4_setSeason : MethodName := ⟨RX4, "setSeason", "(I)Z"⟩
abbrev cX4_trait : ByteArray := prog_6_method_6_code
def yX4_trait : MethodName := ⟨RX4, "trait", "(II)I"⟩
abbrev cX4_sets : ByteArray := prog_6_method_7_code
def yX4_sets : MethodName := ⟨RX4, "sets", "()I"⟩
abbrev cX4_copy : ByteArray := prog_6_method_8_code
def yX4_copy : MethodName := ⟨RX4, "copy", "(LDearAsMany$People;)V"⟩
def RX5 : String := "DearAsMany$Pile"
def TX5 : u_T := fun k => match k with
  | 0 => ("DearAsMany$Pile", "most", "I", true)
  | 1 => ("DearAsMany$Pile", "rows", "[I", true)
  | _ => ("DearAsMany$Pile", "size", "I", false)
def tyX5 : Nat → FieldType := fun k => match k with
  | 0 => .int
  | 1 => .array .int
  | _ => .int
abbrev wsX50 : List Cond := u_ws RX5 TX5 3
theorem nmX5 : ∀ a, a < 3 → ∀ b, b < 3 → a ≠ b → (TX5 a).2.1 ≠ (TX5 b).2.1 := by decide +kernel
theorem tyX5_ok : ∀ k, k < 3 → parseFieldDescriptor (TX5 k).2.2.1 = some (tyX5 k) := by decide +kernel
abbrev cX5_init : ByteArray := prog_7_method_1_code
def yX5_init : MethodName := ⟨RX5, "<init>", "(I)V"⟩
abbrev cX5_push : ByteArray := prog_7_method_2_code
def yX5_push : MethodName := ⟨RX5, "push", "(LDearAsMany$Holding;)V"⟩
abbrev cX5_pushOverOldest : ByteArray := prog_7_method_3_code
def yX5_pushOverOldest : MethodName := ⟨RX5, "pushOverOldest", "(LDearAsMany$Holding;)V"⟩
abbrev cX5_popInto : ByteArray := prog_7_method_4_code
def yX5_popInto : MethodName := ⟨RX5, "popInto", "(LDearAsMany$Holding;)V"⟩
def RX6 : String := "DearAsMany$Reader"
def TX6 : u_T := fun k => match k with
  | 0 => ("DearAsMany$Reader", "numbers", "[I", true)
  | _ => ("DearAsMany$Reader", "place", "I", false)
def tyX6 : Nat → FieldType := fun k => match k with
  | 0 => .array .int
  | _ => .int
abbrev wsX60 : List Cond := u_ws RX6 TX6 2
theorem nmX6 : ∀ a, a < 2 → ∀ b, b < 2 → a ≠ b → (TX6 a).2.1 ≠ (TX6 b).2.1 := by decide +kernel
theorem tyX6_ok : ∀ k, k < 2 → parseFieldDescriptor (TX6 k).2.2.1 = some (tyX6 k) := by decide +kernel
abbrev cX6_init : ByteArray := prog_8_method_1_code
def yX6_init : MethodName := ⟨RX6, "<init>", "()V"⟩
abbrev cX6_readAll : ByteArray := prog_8_method_2_code
def yX6_readAll : MethodName := ⟨RX6, "readAll", "(LDearAsMany$Text;LDearAsMany$People;)I"⟩
abbrev cX6_readItem : ByteArray := prog_8_method_3_code
def yX6_readItem : MethodName := ⟨RX6, "readItem", "(LDearAsMany$Text;LDearAsMany$People;)Z"⟩
abbrev cX6_readNumbers : ByteArray := prog_8_method_4_code
def yX6_readNumbers : MethodName := ⟨RX6, "readNumbers", "(LDearAsMany$Text;I)Z"⟩
abbrev cX6_readNumber : ByteArray := prog_8_method_5_code
def yX6_readNumber : MethodName := ⟨RX6, "readNumber", "(LDearAsMany$Text;)I"⟩
abbrev cX6_figure : ByteArray := prog_8_method_6_code
def yX6_figure : MethodName := ⟨RX6, "figure", "(I)I"⟩
def RX7 : String := "DearAsMany$Sightings"
def TX7 : u_T := fun k => match k with
  | 0 => ("DearAsMany$Sightings", "persons", "[I", true)
  | 1 => ("DearAsMany$Sightings", "others", "[I", true)
  | 2 => ("DearAsMany$Sightings", "purchases", "[Z", true)
  | _ => ("DearAsMany$Sightings", "size", "I", false)
def tyX7 : Nat → FieldType := fun k => match k with
  | 0 => .array .int
  | 1 => .array .int
  | 2 => .array .boolean
  | _ => .int
abbrev wsX70 : List Cond := u_ws RX7 TX7 4
theorem nmX7 : ∀ a, a < 4 → ∀ b, b < 4 → a ≠ b → (TX7 a).2.1 ≠ (TX7 b).2.1 := by decide +kernel
theorem tyX7_ok : ∀ k, k < 4 → parseFieldDescriptor (TX7 k).2.2.1 = some (tyX7 k) := by decide +kernel
abbrev cX7_init : ByteArray := prog_9_method_1_code
def yX7_init : MethodName := ⟨RX7, "<init>", "()V"⟩
abbrev cX7_add : ByteArray := prog_9_method_2_code
def yX7_add : MethodName := ⟨RX7, "add", "(IIZ)V"⟩
abbrev cX7_fit : ByteArray := prog_9_method_3_code
def yX7_fit : MethodName := ⟨RX7, "fit", "(IILDearAsMany$People;)Z"⟩
def RX8 : String := "DearAsMany$Text"
def TX8 : u_T := fun k => match k with
  | 0 => ("DearAsMany$Text", "bytes", "[B", true)
  | _ => ("DearAsMany$Text", "length", "I", false)
def tyX8 : Nat → FieldType := fun k => match k with
  | 0 => .array .byte
  | _ => .int
abbrev wsX80 : List Cond := u_ws RX8 TX8 2
theorem nmX8 : ∀ a, a < 2 → ∀ b, b < 2 → a ≠ b → (TX8 a).2.1 ≠ (TX8 b).2.1 := by decide +kernel
theorem tyX8_ok : ∀ k, k < 2 → parseFieldDescriptor (TX8 k).2.2.1 = some (tyX8 k) := by decide +kernel
abbrev cX8_init : ByteArray := prog_10_method_1_code
def yX8_init : MethodName := ⟨RX8, "<init>", "()V"⟩
abbrev cX8_hasRoomFor : ByteArray := prog_10_method_2_code
def yX8_hasRoomFor : MethodName := ⟨RX8, "hasRoomFor", "(I)Z"⟩
abbrev cX8_append : ByteArray := prog_10_method_3_code
def yX8_append : MethodName := ⟨RX8, "append", "(I)V"⟩
abbrev cX8_byteAt : ByteArray := prog_10_method_4_code
def yX8_byteAt : MethodName := ⟨RX8, "byteAt", "(I)I"⟩
abbrev cX8_empty : ByteArray := prog_10_method_5_code
def yX8_empty : MethodName := ⟨RX8, "empty", "()I"⟩
def RX9 : String := "DearAsMany"
def TX9 : u_T := fun k => match k with
  | 0 => ("DearAsMany", "text", "LDearAsMany$Text;", true)
  | 1 => ("DearAsMany", "reader", "LDearAsMany$Reader;", true)
  | 2 => ("DearAsMany", "told", "LDearAsMany$People;", true)
  | 3 => ("DearAsMany", "market", "LDearAsMany$Market;", true)
  | 4 => ("DearAsMany", "course", "LDearAsMany$Course;", true)
  | 5 => ("DearAsMany", "counsel", "LDearAsMany$Counsel;", true)
  | 6 => ("DearAsMany", "now", "LDearAsMany$Holding;", true)
  | 7 => ("DearAsMany", "undoable", "LDearAsMany$Pile;", true)
  | 8 => ("DearAsMany", "kept", "LDearAsMany$Pile;", true)
  | _ => ("DearAsMany", "sightings", "LDearAsMany$Sightings;", true)
def tyX9 : Nat → FieldType := fun k => match k with
  | 0 => .object "DearAsMany$Text"
  | 1 => .object "DearAsMany$Reader"
  | 2 => .object "DearAsMany$People"
  | 3 => .object "DearAsMany$Market"
  | 4 => .object "DearAsMany$Course"
  | 5 => .object "DearAsMany$Counsel"
  | 6 => .object "DearAsMany$Holding"
  | 7 => .object "DearAsMany$Pile"
  | 8 => .object "DearAsMany$Pile"
  | _ => .object "DearAsMany$Sightings"
abbrev wsX90 : List Cond := u_ws RX9 TX9 10
theorem nmX9 : ∀ a, a < 10 → ∀ b, b < 10 → a ≠ b → (TX9 a).2.1 ≠ (TX9 b).2.1 := by decide +kernel
theorem tyX9_ok : ∀ k, k < 10 → parseFieldDescriptor (TX9 k).2.2.1 = some (tyX9 k) := by decide +kernel
abbrev cX9_init : ByteArray := prog_1_method_1_code
def yX9_init : MethodName := ⟨RX9, "<init>", "()V"⟩
abbrev cX9_write : ByteArray := prog_1_method_2_code
def yX9_write : MethodName := ⟨RX9, "write", "(IJ)I"⟩
abbrev cX9_wipe : ByteArray := prog_1_method_3_code
def yX9_wipe : MethodName := ⟨RX9, "wipe", "()I"⟩
abbrev cX9_fault : ByteArray := prog_1_method_4_code
def yX9_fault : MethodName := ⟨RX9, "fault", "()I"⟩
abbrev cX9_lay : ByteArray := prog_1_method_5_code
def yX9_lay : MethodName := ⟨RX9, "lay", "()I"⟩
abbrev cX9_person : ByteArray := prog_1_method_6_code
def yX9_person : MethodName := ⟨RX9, "person", "(II)I"⟩
abbrev cX9_worth : ByteArray := prog_1_method_7_code
def yX9_worth : MethodName := ⟨RX9, "worth", "(II)I"⟩
abbrev cX9_buy : ByteArray := prog_1_method_8_code
def yX9_buy : MethodName := ⟨RX9, "buy", "(I)I"⟩
abbrev cX9_toss : ByteArray := prog_1_method_9_code
def yX9_toss : MethodName := ⟨RX9, "toss", "(I)I"⟩
abbrev cX9_sell : ByteArray := prog_1_method_10_code
def yX9_sell : MethodName := ⟨RX9, "sell", "(II)I"⟩
abbrev cX9_undo : ByteArray := prog_1_method_11_code
def yX9_undo : MethodName := ⟨RX9, "undo", "()I"⟩
abbrev cX9_price : ByteArray := prog_1_method_12_code
def yX9_price : MethodName := ⟨RX9, "price", "(I)I"⟩
abbrev cX9_would : ByteArray := prog_1_method_13_code
def yX9_would : MethodName := ⟨RX9, "would", "(I)I"⟩
abbrev cX9_behind : ByteArray := prog_1_method_14_code
def yX9_behind : MethodName := ⟨RX9, "behind", "(IZ)I"⟩
abbrev cX9_rest : ByteArray := prog_1_method_15_code
def yX9_rest : MethodName := ⟨RX9, "rest", "(ZI)I"⟩
abbrev cX9_rests : ByteArray := prog_1_method_16_code
def yX9_rests : MethodName := ⟨RX9, "rests", "(I)I"⟩
abbrev cX9_tip : ByteArray := prog_1_method_17_code
def yX9_tip : MethodName := ⟨RX9, "tip", "(IZI)I"⟩
abbrev cX9_place : ByteArray := prog_1_method_18_code
def yX9_place : MethodName := ⟨RX9, "place", "(II)I"⟩
abbrev cX9_burn : ByteArray := prog_1_method_19_code
def yX9_burn : MethodName := ⟨RX9, "burn", "(I)I"⟩
abbrev cX9_share : ByteArray := prog_1_method_20_code
def yX9_share : MethodName := ⟨RX9, "share", "()I"⟩
abbrev cX9_seen : ByteArray := prog_1_method_21_code
def yX9_seen : MethodName := ⟨RX9, "seen", "(IIZ)I"⟩
abbrev cX9_forget : ByteArray := prog_1_method_22_code
def yX9_forget : MethodName := ⟨RX9, "forget", "()I"⟩
abbrev cX9_likes : ByteArray := prog_1_method_23_code
def yX9_likes : MethodName := ⟨RX9, "likes", "(II)I"⟩
abbrev cX9_year : ByteArray := prog_1_method_24_code
def yX9_year : MethodName := ⟨RX9, "year", "(III)I"⟩
abbrev cX9_keep : ByteArray := prog_1_method_25_code
def yX9_keep : MethodName := ⟨RX9, "keep", "()I"⟩
abbrev cX9_back : ByteArray := prog_1_method_26_code
def yX9_back : MethodName := ⟨RX9, "back", "()I"⟩
abbrev cX9_count : ByteArray := prog_1_method_27_code
def yX9_count : MethodName := ⟨RX9, "count", "(I)I"⟩
abbrev cX9_settle : ByteArray := prog_1_method_28_code
def yX9_settle : MethodName := ⟨RX9, "settle", "()V"⟩
abbrev cX9_isPerson : ByteArray := prog_1_method_29_code
def yX9_isPerson : MethodName := ⟨RX9, "isPerson", "(I)Z"⟩
abbrev cX9_isSet : ByteArray := prog_1_method_30_code
def yX9_isSet : MethodName := ⟨RX9, "isSet", "(I)Z"⟩
abbrev cX9_season : ByteArray := prog_1_method_31_code
def yX9_season : MethodName := ⟨RX9, "season", "()I"⟩
abbrev cX9_canPay : ByteArray := prog_1_method_32_code
def yX9_canPay : MethodName := ⟨RX9, "canPay", "(I)Z"⟩
abbrev cX9_isEither : ByteArray := prog_1_method_33_code
def yX9_isEither : MethodName := ⟨RX9, "isEither", "(I)Z"⟩
abbrev cX9_bit : ByteArray := prog_1_method_34_code
def yX9_bit : MethodName := ⟨RX9, "bit", "(I)I"⟩
abbrev cX9_has : ByteArray := prog_1_method_35_code
def yX9_has : MethodName := ⟨RX9, "has", "(II)Z"⟩
abbrev cX9_at : ByteArray := prog_1_method_36_code
def yX9_at : MethodName := ⟨RX9, "at", "([II)I"⟩
abbrev cX9_put : ByteArray := prog_1_method_37_code
def yX9_put : MethodName := ⟨RX9, "put", "([III)V"⟩
abbrev cX9_valueOf : ByteArray := prog_1_method_38_code
def yX9_valueOf : MethodName := ⟨RX9, "valueOf", "(IIIII)I"⟩
def RX10 : String := "DearAsManyModel"
def TX10 : u_T := fun k => match k with
  | 0 => ("DearAsManyModel", "text", "[I", true)
  | 1 => ("DearAsManyModel", "size", "I", false)
  | 2 => ("DearAsManyModel", "many", "I", false)
  | 3 => ("DearAsManyModel", "kind", "[I", true)
  | 4 => ("DearAsManyModel", "w", "[I", true)
  | 5 => ("DearAsManyModel", "c", "[I", true)
  | 6 => ("DearAsManyModel", "house", "[I", true)
  | 7 => ("DearAsManyModel", "pennies", "[I", true)
  | 8 => ("DearAsManyModel", "owners", "I", false)
  | 9 => ("DearAsManyModel", "season", "I", false)
  | 10 => ("DearAsManyModel", "undos", "I", false)
  | 11 => ("DearAsManyModel", "before", "[I", true)
  | 12 => ("DearAsManyModel", "kepts", "I", false)
  | 13 => ("DearAsManyModel", "kept", "[I", true)
  | 14 => ("DearAsManyModel", "sights", "I", false)
  | 15 => ("DearAsManyModel", "sightWho", "[I", true)
  | 16 => ("DearAsManyModel", "sightOthers", "[I", true)
  | 17 => ("DearAsManyModel", "sightBought", "[Z", true)
  | 18 => ("DearAsManyModel", "at", "I", false)
  | 19 => ("DearAsManyModel", "readMany", "I", false)
  | 20 => ("DearAsManyModel", "readOwners", "I", false)
  | 21 => ("DearAsManyModel", "readSeason", "I", false)
  | 22 => ("DearAsManyModel", "read", "[I", true)
  | _ => ("DearAsManyModel", "leads", "[I", true)
def tyX10 : Nat → FieldType := fun k => match k with
  | 0 => .array .int
  | 1 => .int
  | 2 => .int
  | 3 => .array .int
  | 4 => .array .int
  | 5 => .array .int
  | 6 => .array .int
  | 7 => .array .int
  | 8 => .int
  | 9 => .int
  | 10 => .int
  | 11 => .array .int
  | 12 => .int
  | 13 => .array .int
  | 14 => .int
  | 15 => .array .int
  | 16 => .array .int
  | 17 => .array .boolean
  | 18 => .int
  | 19 => .int
  | 20 => .int
  | 21 => .int
  | 22 => .array .int
  | _ => .array .int
abbrev wsX100 : List Cond := u_ws RX10 TX10 24
theorem nmX10 : ∀ a, a < 24 → ∀ b, b < 24 → a ≠ b → (TX10 a).2.1 ≠ (TX10 b).2.1 := by decide +kernel
theorem tyX10_ok : ∀ k, k < 24 → parseFieldDescriptor (TX10 k).2.2.1 = some (tyX10 k) := by decide +kernel
abbrev cX10_init : ByteArray := prog_12_method_1_code
def yX10_init : MethodName := ⟨RX10, "<init>", "()V"⟩
abbrev cX10_in : ByteArray := prog_12_method_3_code
def yX10_in : MethodName := ⟨RX10, "in", "(JJJ)Z"⟩
abbrev cX10_has : ByteArray := prog_12_method_4_code
def yX10_has : MethodName := ⟨RX10, "has", "(II)Z"⟩
abbrev cX10_bits : ByteArray := prog_12_method_5_code
def yX10_bits : MethodName := ⟨RX10, "bits", "(I)I"⟩
abbrev cX10_isPerson : ByteArray := prog_12_method_6_code
def yX10_isPerson : MethodName := ⟨RX10, "isPerson", "(I)Z"⟩
abbrev cX10_all : ByteArray := prog_12_method_7_code
def yX10_all : MethodName := ⟨RX10, "all", "()I"⟩
abbrev cX10_write : ByteArray := prog_12_method_8_code
def yX10_write : MethodName := ⟨RX10, "write", "(IJ)I"⟩
abbrev cX10_wipe : ByteArray := prog_12_method_9_code
def yX10_wipe : MethodName := ⟨RX10, "wipe", "()I"⟩
abbrev cX10_isFigure : ByteArray := prog_12_method_10_code
def yX10_isFigure : MethodName := ⟨RX10, "isFigure", "(I)Z"⟩
abbrev cX10_number : ByteArray := prog_12_method_11_code
def yX10_number : MethodName := ⟨RX10, "number", "(II)I"⟩
abbrev cX10_mostOf : ByteArray := prog_12_method_12_code
def yX10_mostOf : MethodName := ⟨RX10, "mostOf", "(I)I"⟩
abbrev cX10_takesPerson : ByteArray := prog_12_method_13_code
def yX10_takesPerson : MethodName := ⟨RX10, "takesPerson", "()Z"⟩
abbrev cX10_takesItem : ByteArray := prog_12_method_14_code
def yX10_takesItem : MethodName := ⟨RX10, "takesItem", "()Z"⟩
abbrev cX10_fault : ByteArray := prog_12_method_15_code
def yX10_fault : MethodName := ⟨RX10, "fault", "()I"⟩
abbrev cX10_lay : ByteArray := prog_12_method_16_code
def yX10_lay : MethodName := ⟨RX10, "lay", "()I"⟩
abbrev cX10_person : ByteArray := prog_12_method_17_code
def yX10_person : MethodName := ⟨RX10, "person", "(II)I"⟩
abbrev cX10_othersThan : ByteArray := prog_12_method_18_code
def yX10_othersThan : MethodName := ⟨RX10, "othersThan", "(II)I"⟩
abbrev cX10_others : ByteArray := prog_12_method_19_code
def yX10_others : MethodName := ⟨RX10, "others", "(II)I"⟩
abbrev cX10_worthBy : ByteArray := prog_12_method_20_code
def yX10_worthBy : MethodName := ⟨RX10, "worthBy", "(IIII)I"⟩
abbrev cX10_worthOf : ByteArray := prog_12_method_21_code
def yX10_worthOf : MethodName := ⟨RX10, "worthOf", "(II)I"⟩
abbrev cX10_worth : ByteArray := prog_12_method_22_code
def yX10_worth : MethodName := ⟨RX10, "worth", "(II)I"⟩
abbrev cX10_remember : ByteArray := prog_12_method_23_code
def yX10_remember : MethodName := ⟨RX10, "remember", "()V"⟩
abbrev cX10_buy : ByteArray := prog_12_method_24_code
def yX10_buy : MethodName := ⟨RX10, "buy", "(I)I"⟩
abbrev cX10_toss : ByteArray := prog_12_method_25_code
def yX10_toss : MethodName := ⟨RX10, "toss", "(I)I"⟩
abbrev cX10_sell : ByteArray := prog_12_method_26_code
def yX10_sell : MethodName := ⟨RX10, "sell", "(II)I"⟩
abbrev cX10_undo : ByteArray := prog_12_method_27_code
def yX10_undo : MethodName := ⟨RX10, "undo", "()I"⟩
abbrev cX10_price : ByteArray := prog_12_method_28_code
def yX10_price : MethodName := ⟨RX10, "price", "(I)I"⟩
abbrev cX10_wouldBuy : ByteArray := prog_12_method_29_code
def yX10_wouldBuy : MethodName := ⟨RX10, "wouldBuy", "(II)Z"⟩
abbrev cX10_wouldThrow : ByteArray := prog_12_method_30_code
def yX10_wouldThrow : MethodName := ⟨RX10, "wouldThrow", "(II)Z"⟩
abbrev cX10_would : ByteArray := prog_12_method_31_code
def yX10_would : MethodName := ⟨RX10, "would", "(I)I"⟩
abbrev cX10_round : ByteArray := prog_12_method_32_code
def yX10_round : MethodName := ⟨RX10, "round", "(IZ)I"⟩
abbrev cX10_tells : ByteArray := prog_12_method_33_code
def yX10_tells : MethodName := ⟨RX10, "tells", "(Z)V"⟩
abbrev cX10_behind : ByteArray := prog_12_method_34_code
def yX10_behind : MethodName := ⟨RX10, "behind", "(IZ)I"⟩
abbrev cX10_rest : ByteArray := prog_12_method_35_code
def yX10_rest : MethodName := ⟨RX10, "rest", "(ZI)I"⟩
abbrev cX10_rests : ByteArray := prog_12_method_36_code
def yX10_rests : MethodName := ⟨RX10, "rests", "(I)I"⟩
abbrev cX10_tip : ByteArray := prog_12_method_37_code
def yX10_tip : MethodName := ⟨RX10, "tip", "(IZI)I"⟩
abbrev cX10_place : ByteArray := prog_12_method_38_code
def yX10_place : MethodName := ⟨RX10, "place", "(II)I"⟩
abbrev cX10_burn : ByteArray := prog_12_method_39_code
def yX10_burn : MethodName := ⟨RX10, "burn", "(I)I"⟩
abbrev cX10_share : ByteArray := prog_12_method_40_code
def yX10_share : MethodName := ⟨RX10, "share", "()I"⟩
abbrev cX10_seen : ByteArray := prog_12_method_41_code
def yX10_seen : MethodName := ⟨RX10, "seen", "(IIZ)I"⟩
abbrev cX10_forget : ByteArray := prog_12_method_42_code
def yX10_forget : MethodName := ⟨RX10, "forget", "()I"⟩
abbrev cX10_likes : ByteArray := prog_12_method_43_code
def yX10_likes : MethodName := ⟨RX10, "likes", "(II)I"⟩
abbrev cX10_year : ByteArray := prog_12_method_44_code
def yX10_year : MethodName := ⟨RX10, "year", "(III)I"⟩
abbrev cX10_keep : ByteArray := prog_12_method_45_code
def yX10_keep : MethodName := ⟨RX10, "keep", "()I"⟩
abbrev cX10_back : ByteArray := prog_12_method_46_code
def yX10_back : MethodName := ⟨RX10, "back", "()I"⟩
abbrev cX10_count : ByteArray := prog_12_method_47_code
def yX10_count : MethodName := ⟨RX10, "count", "(I)I"⟩
def RJ6 : String := "java/lang/Integer"
def TJ6 : u_T := fun k => match k with
  | _ => ("", "", "", false)
def tyJ6 : Nat → FieldType := fun k => match k with
  | _ => .int
abbrev wsJ60 : List Cond := u_ws RJ6 TJ6 0
theorem nmJ6 : ∀ a, a < 0 → ∀ b, b < 0 → a ≠ b → (TJ6 a).2.1 ≠ (TJ6 b).2.1 := by decide +kernel
theorem tyJ6_ok : ∀ k, k < 0 → parseFieldDescriptor (TJ6 k).2.2.1 = some (tyJ6 k) := by decide +kernel
abbrev cJ6_bitCount_0f7a4 : ByteArray := prog_13_method_49_code
def yJ6_bitCount_0f7a4 : MethodName := ⟨RJ6, "bitCount", "(I)I"⟩
def wsX0_init : List Cond := .code yX0_init cX0_init 2 none :: ([.methodLink RX0 3 objectInit, .instanceMethod objectInit, .code objectInit ⟨#[0xb1]⟩ 1 none, .fieldLink RX0 9 "DearAsMany$Counsel" "market" "LDearAsMany$Market;"] ++ wsX00)
def wsJ6_bitCount_0f7a4 : List Cond := .code yJ6_bitCount_0f7a4 cJ6_bitCount_0f7a4 1 (some .int) :: ([.constant RJ6 265 (1431655765), .constant RJ6 266 (858993459), .constant RJ6 267 (252645135)])
def wsX9_bit : List Cond := .code yX9_bit cX9_bit 1 (some .int) :: ([])
def wsX9_has : List Cond := .code yX9_has cX9_has 2 (some .boolean) :: ([.methodLink RX9 156 yX9_bit, .static yX9_bit, .initialized RX9, .code yX9_bit cX9_bit 1 (some .int)])
def wsX9_at : List Cond := .code yX9_at cX9_at 2 (some .int) :: ([])
def wsX4_trait : List Cond := .code yX4_trait cX4_trait 4 (some .int) :: ([.fieldLink RX4 9 "DearAsMany$People" "traits" "[I"] ++ wsX40)
def wsX3_othersOf : List Cond := .code yX3_othersOf cX3_othersOf 3 (some .int) :: ([.fieldLink RX3 18 "DearAsMany$Market" "homes" "[I", .fieldLink RX3 12 "DearAsMany$Market" "people" "LDearAsMany$People;", .static yX9_at, .initialized RX9, .code yX9_at cX9_at 2 (some .int), .methodLink RX3 30 yX4_trait, .instanceMethod yX4_trait, .selects RX4 yX4_trait yX4_trait, .initialized RX4, .code yX4_trait cX4_trait 4 (some .int), .fieldLink RX4 9 "DearAsMany$People" "traits" "[I", .static yX9_bit, .code yX9_bit cX9_bit 1 (some .int), .methodLink RX3 46 yJ6_bitCount_0f7a4, .static yJ6_bitCount_0f7a4, .initialized RJ6, .code yJ6_bitCount_0f7a4 cJ6_bitCount_0f7a4 1 (some .int), .constant RJ6 265 (1431655765), .constant RJ6 266 (858993459), .constant RJ6 267 (252645135)] ++ wsX30 ++ wsX40)
def wsX9_valueOf : List Cond := .code yX9_valueOf cX9_valueOf 5 (some .int) :: ([])
def wsX3_valueWith : List Cond := .code yX3_valueWith cX3_valueWith 4 (some .int) :: ([.fieldLink RX3 12 "DearAsMany$Market" "people" "LDearAsMany$People;", .methodLink RX3 30 yX4_trait, .instanceMethod yX4_trait, .selects RX4 yX4_trait yX4_trait, .initialized RX4, .code yX4_trait cX4_trait 4 (some .int), .fieldLink RX4 9 "DearAsMany$People" "traits" "[I", .static yX9_valueOf, .initialized RX9, .code yX9_valueOf cX9_valueOf 5 (some .int)] ++ wsX30 ++ wsX40)
def wsX3_wants_r1 : List Cond := [Cond.methodLink RX3 51 yX3_othersOf, Cond.instanceMethod yX3_othersOf, Cond.selects RX3 yX3_othersOf yX3_othersOf, Cond.initialized RX3, Cond.code yX3_othersOf cX3_othersOf 3 (some .int), Cond.fieldLink RX3 18 "DearAsMany$Market" "homes" "[I", Cond.fieldLink RX3 12 "DearAsMany$Market" "people" "LDearAsMany$People;", Cond.static yX9_at, Cond.initialized RX9, Cond.code yX9_at cX9_at 2 (some .int), Cond.methodLink RX3 30 yX4_trait, Cond.instanceMethod yX4_trait, Cond.selects RX4 yX4_trait yX4_trait, Cond.initialized RX4, Cond.code yX4_trait cX4_trait 4 (some .int), Cond.fieldLink RX4 9 "DearAsMany$People" "traits" "[I", Cond.static yX9_bit, Cond.code yX9_bit cX9_bit 1 (some .int), Cond.methodLink RX3 46 yJ6_bitCount_0f7a4, Cond.static yJ6_bitCount_0f7a4, Cond.initialized RJ6, Cond.code yJ6_bitCount_0f7a4 cJ6_bitCount_0f7a4 1 (some .int), Cond.constant RJ6 265 (1431655765), Cond.constant RJ6 266 (858993459)]
def wsX3_wants_r2 : List Cond := [Cond.constant RJ6 267 (252645135), Cond.methodLink RX3 54 yX3_valueWith, Cond.instanceMethod yX3_valueWith, Cond.selects RX3 yX3_valueWith yX3_valueWith, Cond.code yX3_valueWith cX3_valueWith 4 (some .int), Cond.static yX9_valueOf, Cond.code yX9_valueOf cX9_valueOf 5 (some .int)]
def wsX3_wants : List Cond := .code yX3_wants cX3_wants 5 (some .boolean) :: ((wsX3_wants_r1 ++ wsX3_wants_r2) ++ wsX30 ++ wsX40)
def wsX3_valueTo_r1 : List Cond := [Cond.methodLink RX3 51 yX3_othersOf, Cond.instanceMethod yX3_othersOf, Cond.selects RX3 yX3_othersOf yX3_othersOf, Cond.initialized RX3, Cond.code yX3_othersOf cX3_othersOf 3 (some .int), Cond.fieldLink RX3 18 "DearAsMany$Market" "homes" "[I", Cond.fieldLink RX3 12 "DearAsMany$Market" "people" "LDearAsMany$People;", Cond.static yX9_at, Cond.initialized RX9, Cond.code yX9_at cX9_at 2 (some .int), Cond.methodLink RX3 30 yX4_trait, Cond.instanceMethod yX4_trait, Cond.selects RX4 yX4_trait yX4_trait, Cond.initialized RX4, Cond.code yX4_trait cX4_trait 4 (some .int), Cond.fieldLink RX4 9 "DearAsMany$People" "traits" "[I", Cond.static yX9_bit, Cond.code yX9_bit cX9_bit 1 (some .int), Cond.methodLink RX3 46 yJ6_bitCount_0f7a4, Cond.static yJ6_bitCount_0f7a4, Cond.initialized RJ6, Cond.code yJ6_bitCount_0f7a4 cJ6_bitCount_0f7a4 1 (some .int), Cond.constant RJ6 265 (1431655765), Cond.constant RJ6 266 (858993459)]
def wsX3_valueTo_r2 : List Cond := [Cond.constant RJ6 267 (252645135), Cond.methodLink RX3 54 yX3_valueWith, Cond.instanceMethod yX3_valueWith, Cond.selects RX3 yX3_valueWith yX3_valueWith, Cond.code yX3_valueWith cX3_valueWith 4 (some .int), Cond.static yX9_valueOf, Cond.code yX9_valueOf cX9_valueOf 5 (some .int)]
def wsX3_valueTo : List Cond := .code yX3_valueTo cX3_valueTo 4 (some .int) :: ((wsX3_valueTo_r1 ++ wsX3_valueTo_r2) ++ wsX30 ++ wsX40)
def wsX0_gainBehind_r1 : List Cond := [Cond.fieldLink RX0 9 "DearAsMany$Counsel" "market" "LDearAsMany$Market;", Cond.fieldLink RX0 15 "DearAsMany$Market" "people" "LDearAsMany$People;", Cond.fieldLink RX0 21 "DearAsMany$People" "size" "I", Cond.fieldLink RX0 48 "DearAsMany$People" "season" "I", Cond.static yX9_has, Cond.initialized RX9, Cond.code yX9_has cX9_has 2 (some .boolean), Cond.methodLink RX9 156 yX9_bit, Cond.static yX9_bit, Cond.code yX9_bit cX9_bit 1 (some .int), Cond.methodLink RX0 41 yX3_othersOf, Cond.instanceMethod yX3_othersOf, Cond.selects RX3 yX3_othersOf yX3_othersOf, Cond.initialized RX3, Cond.code yX3_othersOf cX3_othersOf 3 (some .int), Cond.fieldLink RX3 18 "DearAsMany$Market" "homes" "[I", Cond.fieldLink RX3 12 "DearAsMany$Market" "people" "LDearAsMany$People;", Cond.static yX9_at, Cond.code yX9_at cX9_at 2 (some .int), Cond.methodLink RX3 30 yX4_trait, Cond.instanceMethod yX4_trait, Cond.selects RX4 yX4_trait yX4_trait, Cond.initialized RX4, Cond.code yX4_trait cX4_trait 4 (some .int)]
def wsX0_gainBehind_r2 : List Cond := [Cond.fieldLink RX4 9 "DearAsMany$People" "traits" "[I", Cond.methodLink RX3 46 yJ6_bitCount_0f7a4, Cond.static yJ6_bitCount_0f7a4, Cond.initialized RJ6, Cond.code yJ6_bitCount_0f7a4 cJ6_bitCount_0f7a4 1 (some .int), Cond.constant RJ6 265 (1431655765), Cond.constant RJ6 266 (858993459), Cond.constant RJ6 267 (252645135), Cond.methodLink RX0 51 yX3_wants, Cond.instanceMethod yX3_wants, Cond.selects RX3 yX3_wants yX3_wants, Cond.code yX3_wants cX3_wants 5 (some .boolean), Cond.methodLink RX3 51 yX3_othersOf, Cond.methodLink RX3 54 yX3_valueWith, Cond.instanceMethod yX3_valueWith, Cond.selects RX3 yX3_valueWith yX3_valueWith, Cond.code yX3_valueWith cX3_valueWith 4 (some .int), Cond.static yX9_valueOf, Cond.code yX9_valueOf cX9_valueOf 5 (some .int), Cond.methodLink RX0 55 yX3_valueTo, Cond.instanceMethod yX3_valueTo, Cond.selects RX3 yX3_valueTo yX3_valueTo, Cond.code yX3_valueTo cX3_valueTo 4 (some .int)]
def wsX0_gainBehind : List Cond := .code yX0_gainBehind cX0_gainBehind 8 (some .int) :: ((wsX0_gainBehind_r1 ++ wsX0_gainBehind_r2) ++ wsX00 ++ wsX30 ++ wsX40)
def wsX0_bestAhead_r1 : List Cond := [Cond.fieldLink RX0 9 "DearAsMany$Counsel" "market" "LDearAsMany$Market;", Cond.fieldLink RX0 15 "DearAsMany$Market" "people" "LDearAsMany$People;", Cond.fieldLink RX0 21 "DearAsMany$People" "size" "I", Cond.methodLink RX0 27 yJ6_bitCount_0f7a4, Cond.static yJ6_bitCount_0f7a4, Cond.initialized RJ6, Cond.code yJ6_bitCount_0f7a4 cJ6_bitCount_0f7a4 1 (some .int), Cond.constant RJ6 265 (1431655765), Cond.constant RJ6 266 (858993459), Cond.constant RJ6 267 (252645135), Cond.methodLink RX0 33 yX0_gainBehind, Cond.instanceMethod yX0_gainBehind, Cond.selects RX0 yX0_gainBehind yX0_gainBehind, Cond.initialized RX0, Cond.code yX0_gainBehind cX0_gainBehind 8 (some .int), Cond.fieldLink RX0 48 "DearAsMany$People" "season" "I", Cond.static yX9_has, Cond.initialized RX9, Cond.code yX9_has cX9_has 2 (some .boolean), Cond.methodLink RX9 156 yX9_bit, Cond.static yX9_bit, Cond.code yX9_bit cX9_bit 1 (some .int), Cond.methodLink RX0 41 yX3_othersOf, Cond.instanceMethod yX3_othersOf]
def wsX0_bestAhead_r2 : List Cond := [Cond.selects RX3 yX3_othersOf yX3_othersOf, Cond.initialized RX3, Cond.code yX3_othersOf cX3_othersOf 3 (some .int), Cond.fieldLink RX3 18 "DearAsMany$Market" "homes" "[I", Cond.fieldLink RX3 12 "DearAsMany$Market" "people" "LDearAsMany$People;", Cond.static yX9_at, Cond.code yX9_at cX9_at 2 (some .int), Cond.methodLink RX3 30 yX4_trait, Cond.instanceMethod yX4_trait, Cond.selects RX4 yX4_trait yX4_trait, Cond.initialized RX4, Cond.code yX4_trait cX4_trait 4 (some .int), Cond.fieldLink RX4 9 "DearAsMany$People" "traits" "[I", Cond.methodLink RX3 46 yJ6_bitCount_0f7a4, Cond.methodLink RX0 51 yX3_wants, Cond.instanceMethod yX3_wants, Cond.selects RX3 yX3_wants yX3_wants, Cond.code yX3_wants cX3_wants 5 (some .boolean), Cond.methodLink RX3 51 yX3_othersOf, Cond.methodLink RX3 54 yX3_valueWith, Cond.instanceMethod yX3_valueWith, Cond.selects RX3 yX3_valueWith yX3_valueWith, Cond.code yX3_valueWith cX3_valueWith 4 (some .int), Cond.static yX9_valueOf]
def wsX0_bestAhead_r3 : List Cond := [Cond.code yX9_valueOf cX9_valueOf 5 (some .int), Cond.methodLink RX0 55 yX3_valueTo, Cond.instanceMethod yX3_valueTo, Cond.selects RX3 yX3_valueTo yX3_valueTo, Cond.code yX3_valueTo cX3_valueTo 4 (some .int)]
def wsX0_bestAhead : List Cond := .code yX0_bestAhead cX0_bestAhead 8 (some .int) :: ((wsX0_bestAhead_r1 ++ (wsX0_bestAhead_r2 ++ wsX0_bestAhead_r3)) ++ wsX00 ++ wsX30 ++ wsX40)
def wsX0_leastBurnt_r1 : List Cond := [Cond.fieldLink RX0 9 "DearAsMany$Counsel" "market" "LDearAsMany$Market;", Cond.fieldLink RX0 15 "DearAsMany$Market" "people" "LDearAsMany$People;", Cond.fieldLink RX0 48 "DearAsMany$People" "season" "I", Cond.methodLink RX0 27 yJ6_bitCount_0f7a4, Cond.static yJ6_bitCount_0f7a4, Cond.initialized RJ6, Cond.code yJ6_bitCount_0f7a4 cJ6_bitCount_0f7a4 1 (some .int), Cond.constant RJ6 265 (1431655765), Cond.constant RJ6 266 (858993459), Cond.constant RJ6 267 (252645135), Cond.methodLink RX0 51 yX3_wants, Cond.instanceMethod yX3_wants, Cond.selects RX3 yX3_wants yX3_wants, Cond.initialized RX3, Cond.code yX3_wants cX3_wants 5 (some .boolean), Cond.methodLink RX3 51 yX3_othersOf, Cond.instanceMethod yX3_othersOf, Cond.selects RX3 yX3_othersOf yX3_othersOf, Cond.code yX3_othersOf cX3_othersOf 3 (some .int), Cond.fieldLink RX3 18 "DearAsMany$Market" "homes" "[I", Cond.fieldLink RX3 12 "DearAsMany$Market" "people" "LDearAsMany$People;", Cond.static yX9_at, Cond.initialized RX9, Cond.code yX9_at cX9_at 2 (some .int)]
def wsX0_leastBurnt_r2 : List Cond := [Cond.methodLink RX3 30 yX4_trait, Cond.instanceMethod yX4_trait, Cond.selects RX4 yX4_trait yX4_trait, Cond.initialized RX4, Cond.code yX4_trait cX4_trait 4 (some .int), Cond.fieldLink RX4 9 "DearAsMany$People" "traits" "[I", Cond.static yX9_bit, Cond.code yX9_bit cX9_bit 1 (some .int), Cond.methodLink RX3 46 yJ6_bitCount_0f7a4, Cond.methodLink RX3 54 yX3_valueWith, Cond.instanceMethod yX3_valueWith, Cond.selects RX3 yX3_valueWith yX3_valueWith, Cond.code yX3_valueWith cX3_valueWith 4 (some .int), Cond.static yX9_valueOf, Cond.code yX9_valueOf cX9_valueOf 5 (some .int)]
def wsX0_leastBurnt : List Cond := .code yX0_leastBurnt cX0_leastBurnt 8 (some .int) :: ((wsX0_leastBurnt_r1 ++ wsX0_leastBurnt_r2) ++ wsX00 ++ wsX30 ++ wsX40)
def wsX0_gainTogether_r1 : List Cond := [Cond.fieldLink RX0 9 "DearAsMany$Counsel" "market" "LDearAsMany$Market;", Cond.fieldLink RX0 15 "DearAsMany$Market" "people" "LDearAsMany$People;", Cond.fieldLink RX0 48 "DearAsMany$People" "season" "I", Cond.methodLink RX0 41 yX3_othersOf, Cond.instanceMethod yX3_othersOf, Cond.selects RX3 yX3_othersOf yX3_othersOf, Cond.initialized RX3, Cond.code yX3_othersOf cX3_othersOf 3 (some .int), Cond.fieldLink RX3 18 "DearAsMany$Market" "homes" "[I", Cond.fieldLink RX3 12 "DearAsMany$Market" "people" "LDearAsMany$People;", Cond.static yX9_at, Cond.initialized RX9, Cond.code yX9_at cX9_at 2 (some .int), Cond.methodLink RX3 30 yX4_trait, Cond.instanceMethod yX4_trait, Cond.selects RX4 yX4_trait yX4_trait, Cond.initialized RX4, Cond.code yX4_trait cX4_trait 4 (some .int), Cond.fieldLink RX4 9 "DearAsMany$People" "traits" "[I", Cond.static yX9_bit, Cond.code yX9_bit cX9_bit 1 (some .int), Cond.methodLink RX3 46 yJ6_bitCount_0f7a4, Cond.static yJ6_bitCount_0f7a4, Cond.initialized RJ6]
def wsX0_gainTogether_r2 : List Cond := [Cond.code yJ6_bitCount_0f7a4 cJ6_bitCount_0f7a4 1 (some .int), Cond.constant RJ6 265 (1431655765), Cond.constant RJ6 266 (858993459), Cond.constant RJ6 267 (252645135), Cond.methodLink RX0 61 yX3_valueWith, Cond.instanceMethod yX3_valueWith, Cond.selects RX3 yX3_valueWith yX3_valueWith, Cond.code yX3_valueWith cX3_valueWith 4 (some .int), Cond.static yX9_valueOf, Cond.code yX9_valueOf cX9_valueOf 5 (some .int)]
def wsX0_gainTogether : List Cond := .code yX0_gainTogether cX0_gainTogether 6 (some .int) :: ((wsX0_gainTogether_r1 ++ wsX0_gainTogether_r2) ++ wsX00 ++ wsX30 ++ wsX40)
def wsX0_bestPair_r1 : List Cond := [Cond.fieldLink RX0 9 "DearAsMany$Counsel" "market" "LDearAsMany$Market;", Cond.fieldLink RX0 15 "DearAsMany$Market" "people" "LDearAsMany$People;", Cond.fieldLink RX0 21 "DearAsMany$People" "size" "I", Cond.static yX9_has, Cond.initialized RX9, Cond.code yX9_has cX9_has 2 (some .boolean), Cond.methodLink RX9 156 yX9_bit, Cond.static yX9_bit, Cond.code yX9_bit cX9_bit 1 (some .int), Cond.methodLink RX0 58 yX0_gainTogether, Cond.instanceMethod yX0_gainTogether, Cond.selects RX0 yX0_gainTogether yX0_gainTogether, Cond.initialized RX0, Cond.code yX0_gainTogether cX0_gainTogether 6 (some .int), Cond.fieldLink RX0 48 "DearAsMany$People" "season" "I", Cond.methodLink RX0 41 yX3_othersOf, Cond.instanceMethod yX3_othersOf, Cond.selects RX3 yX3_othersOf yX3_othersOf, Cond.initialized RX3, Cond.code yX3_othersOf cX3_othersOf 3 (some .int), Cond.fieldLink RX3 18 "DearAsMany$Market" "homes" "[I", Cond.fieldLink RX3 12 "DearAsMany$Market" "people" "LDearAsMany$People;", Cond.static yX9_at, Cond.code yX9_at cX9_at 2 (some .int)]
def wsX0_bestPair_r2 : List Cond := [Cond.methodLink RX3 30 yX4_trait, Cond.instanceMethod yX4_trait, Cond.selects RX4 yX4_trait yX4_trait, Cond.initialized RX4, Cond.code yX4_trait cX4_trait 4 (some .int), Cond.fieldLink RX4 9 "DearAsMany$People" "traits" "[I", Cond.methodLink RX3 46 yJ6_bitCount_0f7a4, Cond.static yJ6_bitCount_0f7a4, Cond.initialized RJ6, Cond.code yJ6_bitCount_0f7a4 cJ6_bitCount_0f7a4 1 (some .int), Cond.constant RJ6 265 (1431655765), Cond.constant RJ6 266 (858993459), Cond.constant RJ6 267 (252645135), Cond.methodLink RX0 61 yX3_valueWith, Cond.instanceMethod yX3_valueWith, Cond.selects RX3 yX3_valueWith yX3_valueWith, Cond.code yX3_valueWith cX3_valueWith 4 (some .int), Cond.static yX9_valueOf, Cond.code yX9_valueOf cX9_valueOf 5 (some .int)]
def wsX0_bestPair : List Cond := .code yX0_bestPair cX0_bestPair 7 (some .int) :: ((wsX0_bestPair_r1 ++ wsX0_bestPair_r2) ++ wsX00 ++ wsX30 ++ wsX40)
def wsX1_init : List Cond := .code yX1_init cX1_init 2 none :: ([.methodLink RX1 3 objectInit, .instanceMethod objectInit, .code objectInit ⟨#[0xb1]⟩ 1 none, .arrayClass .int, .fieldLink RX1 9 "DearAsMany$Course" "onward" "[I", .fieldLink RX1 15 "DearAsMany$Course" "market" "LDearAsMany$Market;"] ++ wsX10)
def wsX3_changes_r1 : List Cond := [Cond.methodLink RX3 51 yX3_othersOf, Cond.instanceMethod yX3_othersOf, Cond.selects RX3 yX3_othersOf yX3_othersOf, Cond.initialized RX3, Cond.code yX3_othersOf cX3_othersOf 3 (some .int), Cond.fieldLink RX3 18 "DearAsMany$Market" "homes" "[I", Cond.fieldLink RX3 12 "DearAsMany$Market" "people" "LDearAsMany$People;", Cond.static yX9_at, Cond.initialized RX9, Cond.code yX9_at cX9_at 2 (some .int), Cond.methodLink RX3 30 yX4_trait, Cond.instanceMethod yX4_trait, Cond.selects RX4 yX4_trait yX4_trait, Cond.initialized RX4, Cond.code yX4_trait cX4_trait 4 (some .int), Cond.fieldLink RX4 9 "DearAsMany$People" "traits" "[I", Cond.static yX9_bit, Cond.code yX9_bit cX9_bit 1 (some .int), Cond.methodLink RX3 46 yJ6_bitCount_0f7a4, Cond.static yJ6_bitCount_0f7a4, Cond.initialized RJ6, Cond.code yJ6_bitCount_0f7a4 cJ6_bitCount_0f7a4 1 (some .int), Cond.constant RJ6 265 (1431655765), Cond.constant RJ6 266 (858993459)]
def wsX3_changes_r2 : List Cond := [Cond.constant RJ6 267 (252645135), Cond.methodLink RX3 54 yX3_valueWith, Cond.instanceMethod yX3_valueWith, Cond.selects RX3 yX3_valueWith yX3_valueWith, Cond.code yX3_valueWith cX3_valueWith 4 (some .int), Cond.static yX9_valueOf, Cond.code yX9_valueOf cX9_valueOf 5 (some .int), Cond.static yX9_has, Cond.code yX9_has cX9_has 2 (some .boolean), Cond.methodLink RX9 156 yX9_bit]
def wsX3_changes : List Cond := .code yX3_changes cX3_changes 6 (some .boolean) :: ((wsX3_changes_r1 ++ wsX3_changes_r2) ++ wsX30 ++ wsX40)
def wsX3_nextOwners_r1 : List Cond := [Cond.fieldLink RX3 12 "DearAsMany$Market" "people" "LDearAsMany$People;", Cond.fieldLink RX3 26 "DearAsMany$People" "size" "I", Cond.methodLink RX3 66 yX3_changes, Cond.instanceMethod yX3_changes, Cond.selects RX3 yX3_changes yX3_changes, Cond.initialized RX3, Cond.code yX3_changes cX3_changes 6 (some .boolean), Cond.methodLink RX3 51 yX3_othersOf, Cond.instanceMethod yX3_othersOf, Cond.selects RX3 yX3_othersOf yX3_othersOf, Cond.code yX3_othersOf cX3_othersOf 3 (some .int), Cond.fieldLink RX3 18 "DearAsMany$Market" "homes" "[I", Cond.static yX9_at, Cond.initialized RX9, Cond.code yX9_at cX9_at 2 (some .int), Cond.methodLink RX3 30 yX4_trait, Cond.instanceMethod yX4_trait, Cond.selects RX4 yX4_trait yX4_trait, Cond.initialized RX4, Cond.code yX4_trait cX4_trait 4 (some .int), Cond.fieldLink RX4 9 "DearAsMany$People" "traits" "[I", Cond.static yX9_bit, Cond.code yX9_bit cX9_bit 1 (some .int), Cond.methodLink RX3 46 yJ6_bitCount_0f7a4]
def wsX3_nextOwners_r2 : List Cond := [Cond.static yJ6_bitCount_0f7a4, Cond.initialized RJ6, Cond.code yJ6_bitCount_0f7a4 cJ6_bitCount_0f7a4 1 (some .int), Cond.constant RJ6 265 (1431655765), Cond.constant RJ6 266 (858993459), Cond.constant RJ6 267 (252645135), Cond.methodLink RX3 54 yX3_valueWith, Cond.instanceMethod yX3_valueWith, Cond.selects RX3 yX3_valueWith yX3_valueWith, Cond.code yX3_valueWith cX3_valueWith 4 (some .int), Cond.static yX9_valueOf, Cond.code yX9_valueOf cX9_valueOf 5 (some .int), Cond.static yX9_has, Cond.code yX9_has cX9_has 2 (some .boolean), Cond.methodLink RX9 156 yX9_bit]
def wsX3_nextOwners : List Cond := .code yX3_nextOwners cX3_nextOwners 6 (some .int) :: ((wsX3_nextOwners_r1 ++ wsX3_nextOwners_r2) ++ wsX30 ++ wsX40)
def wsX1_ownersBehind_r1 : List Cond := [Cond.fieldLink RX1 15 "DearAsMany$Course" "market" "LDearAsMany$Market;", Cond.fieldLink RX1 19 "DearAsMany$Market" "people" "LDearAsMany$People;", Cond.fieldLink RX1 25 "DearAsMany$People" "season" "I", Cond.methodLink RX1 31 yX3_nextOwners, Cond.instanceMethod yX3_nextOwners, Cond.selects RX3 yX3_nextOwners yX3_nextOwners, Cond.initialized RX3, Cond.code yX3_nextOwners cX3_nextOwners 6 (some .int), Cond.fieldLink RX3 12 "DearAsMany$Market" "people" "LDearAsMany$People;", Cond.fieldLink RX3 26 "DearAsMany$People" "size" "I", Cond.methodLink RX3 66 yX3_changes, Cond.instanceMethod yX3_changes, Cond.selects RX3 yX3_changes yX3_changes, Cond.code yX3_changes cX3_changes 6 (some .boolean), Cond.methodLink RX3 51 yX3_othersOf, Cond.instanceMethod yX3_othersOf, Cond.selects RX3 yX3_othersOf yX3_othersOf, Cond.code yX3_othersOf cX3_othersOf 3 (some .int), Cond.fieldLink RX3 18 "DearAsMany$Market" "homes" "[I", Cond.static yX9_at, Cond.initialized RX9, Cond.code yX9_at cX9_at 2 (some .int), Cond.methodLink RX3 30 yX4_trait, Cond.instanceMethod yX4_trait]
def wsX1_ownersBehind_r2 : List Cond := [Cond.selects RX4 yX4_trait yX4_trait, Cond.initialized RX4, Cond.code yX4_trait cX4_trait 4 (some .int), Cond.fieldLink RX4 9 "DearAsMany$People" "traits" "[I", Cond.static yX9_bit, Cond.code yX9_bit cX9_bit 1 (some .int), Cond.methodLink RX3 46 yJ6_bitCount_0f7a4, Cond.static yJ6_bitCount_0f7a4, Cond.initialized RJ6, Cond.code yJ6_bitCount_0f7a4 cJ6_bitCount_0f7a4 1 (some .int), Cond.constant RJ6 265 (1431655765), Cond.constant RJ6 266 (858993459), Cond.constant RJ6 267 (252645135), Cond.methodLink RX3 54 yX3_valueWith, Cond.instanceMethod yX3_valueWith, Cond.selects RX3 yX3_valueWith yX3_valueWith, Cond.code yX3_valueWith cX3_valueWith 4 (some .int), Cond.static yX9_valueOf, Cond.code yX9_valueOf cX9_valueOf 5 (some .int), Cond.static yX9_has, Cond.code yX9_has cX9_has 2 (some .boolean), Cond.methodLink RX9 156 yX9_bit]
def wsX1_ownersBehind : List Cond := .code yX1_ownersBehind cX1_ownersBehind 7 (some .int) :: ((wsX1_ownersBehind_r1 ++ wsX1_ownersBehind_r2) ++ wsX10 ++ wsX30 ++ wsX40)
def wsX1_roundsToRest_r1 : List Cond := [Cond.fieldLink RX1 15 "DearAsMany$Course" "market" "LDearAsMany$Market;", Cond.fieldLink RX1 19 "DearAsMany$Market" "people" "LDearAsMany$People;", Cond.fieldLink RX1 25 "DearAsMany$People" "season" "I", Cond.methodLink RX1 31 yX3_nextOwners, Cond.instanceMethod yX3_nextOwners, Cond.selects RX3 yX3_nextOwners yX3_nextOwners, Cond.initialized RX3, Cond.code yX3_nextOwners cX3_nextOwners 6 (some .int), Cond.fieldLink RX3 12 "DearAsMany$Market" "people" "LDearAsMany$People;", Cond.fieldLink RX3 26 "DearAsMany$People" "size" "I", Cond.methodLink RX3 66 yX3_changes, Cond.instanceMethod yX3_changes, Cond.selects RX3 yX3_changes yX3_changes, Cond.code yX3_changes cX3_changes 6 (some .boolean), Cond.methodLink RX3 51 yX3_othersOf, Cond.instanceMethod yX3_othersOf, Cond.selects RX3 yX3_othersOf yX3_othersOf, Cond.code yX3_othersOf cX3_othersOf 3 (some .int), Cond.fieldLink RX3 18 "DearAsMany$Market" "homes" "[I", Cond.static yX9_at, Cond.initialized RX9, Cond.code yX9_at cX9_at 2 (some .int), Cond.methodLink RX3 30 yX4_trait, Cond.instanceMethod yX4_trait]
def wsX1_roundsToRest_r2 : List Cond := [Cond.selects RX4 yX4_trait yX4_trait, Cond.initialized RX4, Cond.code yX4_trait cX4_trait 4 (some .int), Cond.fieldLink RX4 9 "DearAsMany$People" "traits" "[I", Cond.static yX9_bit, Cond.code yX9_bit cX9_bit 1 (some .int), Cond.methodLink RX3 46 yJ6_bitCount_0f7a4, Cond.static yJ6_bitCount_0f7a4, Cond.initialized RJ6, Cond.code yJ6_bitCount_0f7a4 cJ6_bitCount_0f7a4 1 (some .int), Cond.constant RJ6 265 (1431655765), Cond.constant RJ6 266 (858993459), Cond.constant RJ6 267 (252645135), Cond.methodLink RX3 54 yX3_valueWith, Cond.instanceMethod yX3_valueWith, Cond.selects RX3 yX3_valueWith yX3_valueWith, Cond.code yX3_valueWith cX3_valueWith 4 (some .int), Cond.static yX9_valueOf, Cond.code yX9_valueOf cX9_valueOf 5 (some .int), Cond.static yX9_has, Cond.code yX9_has cX9_has 2 (some .boolean), Cond.methodLink RX9 156 yX9_bit]
def wsX1_roundsToRest : List Cond := .code yX1_roundsToRest cX1_roundsToRest 7 (some .int) :: ((wsX1_roundsToRest_r1 ++ wsX1_roundsToRest_r2) ++ wsX10 ++ wsX30 ++ wsX40)
def wsX1_roundsOfSwing_r1 : List Cond := [Cond.fieldLink RX1 15 "DearAsMany$Course" "market" "LDearAsMany$Market;", Cond.fieldLink RX1 19 "DearAsMany$Market" "people" "LDearAsMany$People;", Cond.fieldLink RX1 25 "DearAsMany$People" "season" "I", Cond.methodLink RX1 35 yX1_ownersBehind, Cond.instanceMethod yX1_ownersBehind, Cond.selects RX1 yX1_ownersBehind yX1_ownersBehind, Cond.initialized RX1, Cond.code yX1_ownersBehind cX1_ownersBehind 7 (some .int), Cond.methodLink RX1 31 yX3_nextOwners, Cond.instanceMethod yX3_nextOwners, Cond.selects RX3 yX3_nextOwners yX3_nextOwners, Cond.initialized RX3, Cond.code yX3_nextOwners cX3_nextOwners 6 (some .int), Cond.fieldLink RX3 12 "DearAsMany$Market" "people" "LDearAsMany$People;", Cond.fieldLink RX3 26 "DearAsMany$People" "size" "I", Cond.methodLink RX3 66 yX3_changes, Cond.instanceMethod yX3_changes, Cond.selects RX3 yX3_changes yX3_changes, Cond.code yX3_changes cX3_changes 6 (some .boolean), Cond.methodLink RX3 51 yX3_othersOf, Cond.instanceMethod yX3_othersOf, Cond.selects RX3 yX3_othersOf yX3_othersOf, Cond.code yX3_othersOf cX3_othersOf 3 (some .int), Cond.fieldLink RX3 18 "DearAsMany$Market" "homes" "[I"]
def wsX1_roundsOfSwing_r2 : List Cond := [Cond.static yX9_at, Cond.initialized RX9, Cond.code yX9_at cX9_at 2 (some .int), Cond.methodLink RX3 30 yX4_trait, Cond.instanceMethod yX4_trait, Cond.selects RX4 yX4_trait yX4_trait, Cond.initialized RX4, Cond.code yX4_trait cX4_trait 4 (some .int), Cond.fieldLink RX4 9 "DearAsMany$People" "traits" "[I", Cond.static yX9_bit, Cond.code yX9_bit cX9_bit 1 (some .int), Cond.methodLink RX3 46 yJ6_bitCount_0f7a4, Cond.static yJ6_bitCount_0f7a4, Cond.initialized RJ6, Cond.code yJ6_bitCount_0f7a4 cJ6_bitCount_0f7a4 1 (some .int), Cond.constant RJ6 265 (1431655765), Cond.constant RJ6 266 (858993459), Cond.constant RJ6 267 (252645135), Cond.methodLink RX3 54 yX3_valueWith, Cond.instanceMethod yX3_valueWith, Cond.selects RX3 yX3_valueWith yX3_valueWith, Cond.code yX3_valueWith cX3_valueWith 4 (some .int), Cond.static yX9_valueOf, Cond.code yX9_valueOf cX9_valueOf 5 (some .int)]
def wsX1_roundsOfSwing_r3 : List Cond := [Cond.static yX9_has, Cond.code yX9_has cX9_has 2 (some .boolean), Cond.methodLink RX9 156 yX9_bit]
def wsX1_roundsOfSwing : List Cond := .code yX1_roundsOfSwing cX1_roundsOfSwing 7 (some .int) :: ((wsX1_roundsOfSwing_r1 ++ (wsX1_roundsOfSwing_r2 ++ wsX1_roundsOfSwing_r3)) ++ wsX10 ++ wsX30 ++ wsX40)
def wsX3_changersBy_r1 : List Cond := [Cond.fieldLink RX3 12 "DearAsMany$Market" "people" "LDearAsMany$People;", Cond.fieldLink RX3 26 "DearAsMany$People" "size" "I", Cond.methodLink RX3 66 yX3_changes, Cond.instanceMethod yX3_changes, Cond.selects RX3 yX3_changes yX3_changes, Cond.initialized RX3, Cond.code yX3_changes cX3_changes 6 (some .boolean), Cond.methodLink RX3 51 yX3_othersOf, Cond.instanceMethod yX3_othersOf, Cond.selects RX3 yX3_othersOf yX3_othersOf, Cond.code yX3_othersOf cX3_othersOf 3 (some .int), Cond.fieldLink RX3 18 "DearAsMany$Market" "homes" "[I", Cond.static yX9_at, Cond.initialized RX9, Cond.code yX9_at cX9_at 2 (some .int), Cond.methodLink RX3 30 yX4_trait, Cond.instanceMethod yX4_trait, Cond.selects RX4 yX4_trait yX4_trait, Cond.initialized RX4, Cond.code yX4_trait cX4_trait 4 (some .int), Cond.fieldLink RX4 9 "DearAsMany$People" "traits" "[I", Cond.static yX9_bit, Cond.code yX9_bit cX9_bit 1 (some .int), Cond.methodLink RX3 46 yJ6_bitCount_0f7a4]
def wsX3_changersBy_r2 : List Cond := [Cond.static yJ6_bitCount_0f7a4, Cond.initialized RJ6, Cond.code yJ6_bitCount_0f7a4 cJ6_bitCount_0f7a4 1 (some .int), Cond.constant RJ6 265 (1431655765), Cond.constant RJ6 266 (858993459), Cond.constant RJ6 267 (252645135), Cond.methodLink RX3 54 yX3_valueWith, Cond.instanceMethod yX3_valueWith, Cond.selects RX3 yX3_valueWith yX3_valueWith, Cond.code yX3_valueWith cX3_valueWith 4 (some .int), Cond.static yX9_valueOf, Cond.code yX9_valueOf cX9_valueOf 5 (some .int), Cond.static yX9_has, Cond.code yX9_has cX9_has 2 (some .boolean), Cond.methodLink RX9 156 yX9_bit]
def wsX3_changersBy : List Cond := .code yX3_changersBy cX3_changersBy 5 (some .int) :: ((wsX3_changersBy_r1 ++ wsX3_changersBy_r2) ++ wsX30 ++ wsX40)
def wsX1_restsWith_r1 : List Cond := [Cond.fieldLink RX1 15 "DearAsMany$Course" "market" "LDearAsMany$Market;", Cond.fieldLink RX1 19 "DearAsMany$Market" "people" "LDearAsMany$People;", Cond.fieldLink RX1 25 "DearAsMany$People" "season" "I", Cond.methodLink RX1 39 yX3_changersBy, Cond.instanceMethod yX3_changersBy, Cond.selects RX3 yX3_changersBy yX3_changersBy, Cond.initialized RX3, Cond.code yX3_changersBy cX3_changersBy 5 (some .int), Cond.fieldLink RX3 12 "DearAsMany$Market" "people" "LDearAsMany$People;", Cond.fieldLink RX3 26 "DearAsMany$People" "size" "I", Cond.methodLink RX3 66 yX3_changes, Cond.instanceMethod yX3_changes, Cond.selects RX3 yX3_changes yX3_changes, Cond.code yX3_changes cX3_changes 6 (some .boolean), Cond.methodLink RX3 51 yX3_othersOf, Cond.instanceMethod yX3_othersOf, Cond.selects RX3 yX3_othersOf yX3_othersOf, Cond.code yX3_othersOf cX3_othersOf 3 (some .int), Cond.fieldLink RX3 18 "DearAsMany$Market" "homes" "[I", Cond.static yX9_at, Cond.initialized RX9, Cond.code yX9_at cX9_at 2 (some .int), Cond.methodLink RX3 30 yX4_trait, Cond.instanceMethod yX4_trait]
def wsX1_restsWith_r2 : List Cond := [Cond.selects RX4 yX4_trait yX4_trait, Cond.initialized RX4, Cond.code yX4_trait cX4_trait 4 (some .int), Cond.fieldLink RX4 9 "DearAsMany$People" "traits" "[I", Cond.static yX9_bit, Cond.code yX9_bit cX9_bit 1 (some .int), Cond.methodLink RX3 46 yJ6_bitCount_0f7a4, Cond.static yJ6_bitCount_0f7a4, Cond.initialized RJ6, Cond.code yJ6_bitCount_0f7a4 cJ6_bitCount_0f7a4 1 (some .int), Cond.constant RJ6 265 (1431655765), Cond.constant RJ6 266 (858993459), Cond.constant RJ6 267 (252645135), Cond.methodLink RX3 54 yX3_valueWith, Cond.instanceMethod yX3_valueWith, Cond.selects RX3 yX3_valueWith yX3_valueWith, Cond.code yX3_valueWith cX3_valueWith 4 (some .int), Cond.static yX9_valueOf, Cond.code yX9_valueOf cX9_valueOf 5 (some .int), Cond.static yX9_has, Cond.code yX9_has cX9_has 2 (some .boolean), Cond.methodLink RX9 156 yX9_bit]
def wsX1_restsWith : List Cond := .code yX1_restsWith cX1_restsWith 2 (some .boolean) :: ((wsX1_restsWith_r1 ++ wsX1_restsWith_r2) ++ wsX10 ++ wsX30 ++ wsX40)
def wsX4_sets : List Cond := .code yX4_sets cX4_sets 1 (some .int) :: ([.fieldLink RX4 15 "DearAsMany$People" "size" "I"] ++ wsX40)
def wsX1_countRests_r1 : List Cond := [Cond.fieldLink RX1 15 "DearAsMany$Course" "market" "LDearAsMany$Market;", Cond.fieldLink RX1 19 "DearAsMany$Market" "people" "LDearAsMany$People;", Cond.methodLink RX1 43 yX4_sets, Cond.instanceMethod yX4_sets, Cond.selects RX4 yX4_sets yX4_sets, Cond.initialized RX4, Cond.code yX4_sets cX4_sets 1 (some .int), Cond.fieldLink RX4 15 "DearAsMany$People" "size" "I", Cond.methodLink RX1 47 yX1_restsWith, Cond.instanceMethod yX1_restsWith, Cond.selects RX1 yX1_restsWith yX1_restsWith, Cond.initialized RX1, Cond.code yX1_restsWith cX1_restsWith 2 (some .boolean), Cond.fieldLink RX1 25 "DearAsMany$People" "season" "I", Cond.methodLink RX1 39 yX3_changersBy, Cond.instanceMethod yX3_changersBy, Cond.selects RX3 yX3_changersBy yX3_changersBy, Cond.initialized RX3, Cond.code yX3_changersBy cX3_changersBy 5 (some .int), Cond.fieldLink RX3 12 "DearAsMany$Market" "people" "LDearAsMany$People;", Cond.fieldLink RX3 26 "DearAsMany$People" "size" "I", Cond.methodLink RX3 66 yX3_changes, Cond.instanceMethod yX3_changes, Cond.selects RX3 yX3_changes yX3_changes]
def wsX1_countRests_r2 : List Cond := [Cond.code yX3_changes cX3_changes 6 (some .boolean), Cond.methodLink RX3 51 yX3_othersOf, Cond.instanceMethod yX3_othersOf, Cond.selects RX3 yX3_othersOf yX3_othersOf, Cond.code yX3_othersOf cX3_othersOf 3 (some .int), Cond.fieldLink RX3 18 "DearAsMany$Market" "homes" "[I", Cond.static yX9_at, Cond.initialized RX9, Cond.code yX9_at cX9_at 2 (some .int), Cond.methodLink RX3 30 yX4_trait, Cond.instanceMethod yX4_trait, Cond.selects RX4 yX4_trait yX4_trait, Cond.code yX4_trait cX4_trait 4 (some .int), Cond.fieldLink RX4 9 "DearAsMany$People" "traits" "[I", Cond.static yX9_bit, Cond.code yX9_bit cX9_bit 1 (some .int), Cond.methodLink RX3 46 yJ6_bitCount_0f7a4, Cond.static yJ6_bitCount_0f7a4, Cond.initialized RJ6, Cond.code yJ6_bitCount_0f7a4 cJ6_bitCount_0f7a4 1 (some .int), Cond.constant RJ6 265 (1431655765), Cond.constant RJ6 266 (858993459), Cond.constant RJ6 267 (252645135), Cond.methodLink RX3 54 yX3_valueWith]
def wsX1_countRests_r3 : List Cond := [Cond.instanceMethod yX3_valueWith, Cond.selects RX3 yX3_valueWith yX3_valueWith, Cond.code yX3_valueWith cX3_valueWith 4 (some .int), Cond.static yX9_valueOf, Cond.code yX9_valueOf cX9_valueOf 5 (some .int), Cond.static yX9_has, Cond.code yX9_has cX9_has 2 (some .boolean), Cond.methodLink RX9 156 yX9_bit]
def wsX1_countRests : List Cond := .code yX1_countRests cX1_countRests 3 (some .int) :: ((wsX1_countRests_r1 ++ (wsX1_countRests_r2 ++ wsX1_countRests_r3)) ++ wsX10 ++ wsX30 ++ wsX40)
def wsX1_restAt_r1 : List Cond := [Cond.fieldLink RX1 15 "DearAsMany$Course" "market" "LDearAsMany$Market;", Cond.fieldLink RX1 19 "DearAsMany$Market" "people" "LDearAsMany$People;", Cond.methodLink RX1 43 yX4_sets, Cond.instanceMethod yX4_sets, Cond.selects RX4 yX4_sets yX4_sets, Cond.initialized RX4, Cond.code yX4_sets cX4_sets 1 (some .int), Cond.fieldLink RX4 15 "DearAsMany$People" "size" "I", Cond.methodLink RX1 47 yX1_restsWith, Cond.instanceMethod yX1_restsWith, Cond.selects RX1 yX1_restsWith yX1_restsWith, Cond.initialized RX1, Cond.code yX1_restsWith cX1_restsWith 2 (some .boolean), Cond.fieldLink RX1 25 "DearAsMany$People" "season" "I", Cond.methodLink RX1 39 yX3_changersBy, Cond.instanceMethod yX3_changersBy, Cond.selects RX3 yX3_changersBy yX3_changersBy, Cond.initialized RX3, Cond.code yX3_changersBy cX3_changersBy 5 (some .int), Cond.fieldLink RX3 12 "DearAsMany$Market" "people" "LDearAsMany$People;", Cond.fieldLink RX3 26 "DearAsMany$People" "size" "I", Cond.methodLink RX3 66 yX3_changes, Cond.instanceMethod yX3_changes, Cond.selects RX3 yX3_changes yX3_changes]
def wsX1_restAt_r2 : List Cond := [Cond.code yX3_changes cX3_changes 6 (some .boolean), Cond.methodLink RX3 51 yX3_othersOf, Cond.instanceMethod yX3_othersOf, Cond.selects RX3 yX3_othersOf yX3_othersOf, Cond.code yX3_othersOf cX3_othersOf 3 (some .int), Cond.fieldLink RX3 18 "DearAsMany$Market" "homes" "[I", Cond.static yX9_at, Cond.initialized RX9, Cond.code yX9_at cX9_at 2 (some .int), Cond.methodLink RX3 30 yX4_trait, Cond.instanceMethod yX4_trait, Cond.selects RX4 yX4_trait yX4_trait, Cond.code yX4_trait cX4_trait 4 (some .int), Cond.fieldLink RX4 9 "DearAsMany$People" "traits" "[I", Cond.static yX9_bit, Cond.code yX9_bit cX9_bit 1 (some .int), Cond.methodLink RX3 46 yJ6_bitCount_0f7a4, Cond.static yJ6_bitCount_0f7a4, Cond.initialized RJ6, Cond.code yJ6_bitCount_0f7a4 cJ6_bitCount_0f7a4 1 (some .int), Cond.constant RJ6 265 (1431655765), Cond.constant RJ6 266 (858993459), Cond.constant RJ6 267 (252645135), Cond.methodLink RX3 54 yX3_valueWith]
def wsX1_restAt_r3 : List Cond := [Cond.instanceMethod yX3_valueWith, Cond.selects RX3 yX3_valueWith yX3_valueWith, Cond.code yX3_valueWith cX3_valueWith 4 (some .int), Cond.static yX9_valueOf, Cond.code yX9_valueOf cX9_valueOf 5 (some .int), Cond.static yX9_has, Cond.code yX9_has cX9_has 2 (some .boolean), Cond.methodLink RX9 156 yX9_bit]
def wsX1_restAt : List Cond := .code yX1_restAt cX1_restAt 4 (some .int) :: ((wsX1_restAt_r1 ++ (wsX1_restAt_r2 ++ wsX1_restAt_r3)) ++ wsX10 ++ wsX30 ++ wsX40)
def wsX9_put : List Cond := .code yX9_put cX9_put 3 none :: ([])
def wsX1_lookFarAhead_r1 : List Cond := [Cond.fieldLink RX1 15 "DearAsMany$Course" "market" "LDearAsMany$Market;", Cond.fieldLink RX1 19 "DearAsMany$Market" "people" "LDearAsMany$People;", Cond.fieldLink RX1 25 "DearAsMany$People" "season" "I", Cond.fieldLink RX1 9 "DearAsMany$Course" "onward" "[I", Cond.methodLink RX1 43 yX4_sets, Cond.instanceMethod yX4_sets, Cond.selects RX4 yX4_sets yX4_sets, Cond.initialized RX4, Cond.code yX4_sets cX4_sets 1 (some .int), Cond.fieldLink RX4 15 "DearAsMany$People" "size" "I", Cond.methodLink RX1 31 yX3_nextOwners, Cond.instanceMethod yX3_nextOwners, Cond.selects RX3 yX3_nextOwners yX3_nextOwners, Cond.initialized RX3, Cond.code yX3_nextOwners cX3_nextOwners 6 (some .int), Cond.fieldLink RX3 12 "DearAsMany$Market" "people" "LDearAsMany$People;", Cond.fieldLink RX3 26 "DearAsMany$People" "size" "I", Cond.methodLink RX3 66 yX3_changes, Cond.instanceMethod yX3_changes, Cond.selects RX3 yX3_changes yX3_changes, Cond.code yX3_changes cX3_changes 6 (some .boolean), Cond.methodLink RX3 51 yX3_othersOf, Cond.instanceMethod yX3_othersOf, Cond.selects RX3 yX3_othersOf yX3_othersOf]
def wsX1_lookFarAhead_r2 : List Cond := [Cond.code yX3_othersOf cX3_othersOf 3 (some .int), Cond.fieldLink RX3 18 "DearAsMany$Market" "homes" "[I", Cond.static yX9_at, Cond.initialized RX9, Cond.code yX9_at cX9_at 2 (some .int), Cond.methodLink RX3 30 yX4_trait, Cond.instanceMethod yX4_trait, Cond.selects RX4 yX4_trait yX4_trait, Cond.code yX4_trait cX4_trait 4 (some .int), Cond.fieldLink RX4 9 "DearAsMany$People" "traits" "[I", Cond.static yX9_bit, Cond.code yX9_bit cX9_bit 1 (some .int), Cond.methodLink RX3 46 yJ6_bitCount_0f7a4, Cond.static yJ6_bitCount_0f7a4, Cond.initialized RJ6, Cond.code yJ6_bitCount_0f7a4 cJ6_bitCount_0f7a4 1 (some .int), Cond.constant RJ6 265 (1431655765), Cond.constant RJ6 266 (858993459), Cond.constant RJ6 267 (252645135), Cond.methodLink RX3 54 yX3_valueWith, Cond.instanceMethod yX3_valueWith, Cond.selects RX3 yX3_valueWith yX3_valueWith, Cond.code yX3_valueWith cX3_valueWith 4 (some .int), Cond.static yX9_valueOf]
def wsX1_lookFarAhead_r3 : List Cond := [Cond.code yX9_valueOf cX9_valueOf 5 (some .int), Cond.static yX9_has, Cond.code yX9_has cX9_has 2 (some .boolean), Cond.methodLink RX9 156 yX9_bit, Cond.static yX9_put, Cond.code yX9_put cX9_put 3 none]
def wsX1_lookFarAhead : List Cond := .code yX1_lookFarAhead cX1_lookFarAhead 5 none :: ((wsX1_lookFarAhead_r1 ++ (wsX1_lookFarAhead_r2 ++ wsX1_lookFarAhead_r3)) ++ wsX10 ++ wsX30 ++ wsX40)
def wsX1_leastPush_r1 : List Cond := [Cond.fieldLink RX1 15 "DearAsMany$Course" "market" "LDearAsMany$Market;", Cond.fieldLink RX1 19 "DearAsMany$Market" "people" "LDearAsMany$People;", Cond.fieldLink RX1 9 "DearAsMany$Course" "onward" "[I", Cond.methodLink RX1 47 yX1_restsWith, Cond.instanceMethod yX1_restsWith, Cond.selects RX1 yX1_restsWith yX1_restsWith, Cond.initialized RX1, Cond.code yX1_restsWith cX1_restsWith 2 (some .boolean), Cond.fieldLink RX1 25 "DearAsMany$People" "season" "I", Cond.methodLink RX1 39 yX3_changersBy, Cond.instanceMethod yX3_changersBy, Cond.selects RX3 yX3_changersBy yX3_changersBy, Cond.initialized RX3, Cond.code yX3_changersBy cX3_changersBy 5 (some .int), Cond.fieldLink RX3 12 "DearAsMany$Market" "people" "LDearAsMany$People;", Cond.fieldLink RX3 26 "DearAsMany$People" "size" "I", Cond.methodLink RX3 66 yX3_changes, Cond.instanceMethod yX3_changes, Cond.selects RX3 yX3_changes yX3_changes, Cond.code yX3_changes cX3_changes 6 (some .boolean), Cond.methodLink RX3 51 yX3_othersOf, Cond.instanceMethod yX3_othersOf, Cond.selects RX3 yX3_othersOf yX3_othersOf, Cond.code yX3_othersOf cX3_othersOf 3 (some .int)]
def wsX1_leastPush_r2 : List Cond := [Cond.fieldLink RX3 18 "DearAsMany$Market" "homes" "[I", Cond.static yX9_at, Cond.initialized RX9, Cond.code yX9_at cX9_at 2 (some .int), Cond.methodLink RX3 30 yX4_trait, Cond.instanceMethod yX4_trait, Cond.selects RX4 yX4_trait yX4_trait, Cond.initialized RX4, Cond.code yX4_trait cX4_trait 4 (some .int), Cond.fieldLink RX4 9 "DearAsMany$People" "traits" "[I", Cond.static yX9_bit, Cond.code yX9_bit cX9_bit 1 (some .int), Cond.methodLink RX3 46 yJ6_bitCount_0f7a4, Cond.static yJ6_bitCount_0f7a4, Cond.initialized RJ6, Cond.code yJ6_bitCount_0f7a4 cJ6_bitCount_0f7a4 1 (some .int), Cond.constant RJ6 265 (1431655765), Cond.constant RJ6 266 (858993459), Cond.constant RJ6 267 (252645135), Cond.methodLink RX3 54 yX3_valueWith, Cond.instanceMethod yX3_valueWith, Cond.selects RX3 yX3_valueWith yX3_valueWith, Cond.code yX3_valueWith cX3_valueWith 4 (some .int), Cond.static yX9_valueOf]
def wsX1_leastPush_r3 : List Cond := [Cond.code yX9_valueOf cX9_valueOf 5 (some .int), Cond.static yX9_has, Cond.code yX9_has cX9_has 2 (some .boolean), Cond.methodLink RX9 156 yX9_bit, Cond.methodLink RX1 51 yX1_lookFarAhead, Cond.instanceMethod yX1_lookFarAhead, Cond.selects RX1 yX1_lookFarAhead yX1_lookFarAhead, Cond.code yX1_lookFarAhead cX1_lookFarAhead 5 none, Cond.methodLink RX1 43 yX4_sets, Cond.instanceMethod yX4_sets, Cond.selects RX4 yX4_sets yX4_sets, Cond.code yX4_sets cX4_sets 1 (some .int), Cond.fieldLink RX4 15 "DearAsMany$People" "size" "I", Cond.methodLink RX1 31 yX3_nextOwners, Cond.instanceMethod yX3_nextOwners, Cond.selects RX3 yX3_nextOwners yX3_nextOwners, Cond.code yX3_nextOwners cX3_nextOwners 6 (some .int), Cond.static yX9_put, Cond.code yX9_put cX9_put 3 none, Cond.methodLink RX1 55 yJ6_bitCount_0f7a4]
def wsX1_leastPush : List Cond := .code yX1_leastPush cX1_leastPush 8 (some .int) :: ((wsX1_leastPush_r1 ++ (wsX1_leastPush_r2 ++ wsX1_leastPush_r3)) ++ wsX10 ++ wsX30 ++ wsX40)
def wsX1_seasonOn : List Cond := .code yX1_seasonOn cX1_seasonOn 4 (some .int) :: ([.constantLong RX1 72 (7919), .constantLong RX1 74 (6151), .constantLong RX1 76 (65521), .constantLong RX1 78 (100)])
def wsX1_ownersBehindYear_r1 : List Cond := [Cond.fieldLink RX1 15 "DearAsMany$Course" "market" "LDearAsMany$Market;", Cond.methodLink RX1 69 yX1_seasonOn, Cond.static yX1_seasonOn, Cond.initialized RX1, Cond.code yX1_seasonOn cX1_seasonOn 4 (some .int), Cond.constantLong RX1 72 (7919), Cond.constantLong RX1 74 (6151), Cond.constantLong RX1 76 (65521), Cond.constantLong RX1 78 (100), Cond.methodLink RX1 31 yX3_nextOwners, Cond.instanceMethod yX3_nextOwners, Cond.selects RX3 yX3_nextOwners yX3_nextOwners, Cond.initialized RX3, Cond.code yX3_nextOwners cX3_nextOwners 6 (some .int), Cond.fieldLink RX3 12 "DearAsMany$Market" "people" "LDearAsMany$People;", Cond.fieldLink RX3 26 "DearAsMany$People" "size" "I", Cond.methodLink RX3 66 yX3_changes, Cond.instanceMethod yX3_changes, Cond.selects RX3 yX3_changes yX3_changes, Cond.code yX3_changes cX3_changes 6 (some .boolean), Cond.methodLink RX3 51 yX3_othersOf, Cond.instanceMethod yX3_othersOf, Cond.selects RX3 yX3_othersOf yX3_othersOf, Cond.code yX3_othersOf cX3_othersOf 3 (some .int)]
def wsX1_ownersBehindYear_r2 : List Cond := [Cond.fieldLink RX3 18 "DearAsMany$Market" "homes" "[I", Cond.static yX9_at, Cond.initialized RX9, Cond.code yX9_at cX9_at 2 (some .int), Cond.methodLink RX3 30 yX4_trait, Cond.instanceMethod yX4_trait, Cond.selects RX4 yX4_trait yX4_trait, Cond.initialized RX4, Cond.code yX4_trait cX4_trait 4 (some .int), Cond.fieldLink RX4 9 "DearAsMany$People" "traits" "[I", Cond.static yX9_bit, Cond.code yX9_bit cX9_bit 1 (some .int), Cond.methodLink RX3 46 yJ6_bitCount_0f7a4, Cond.static yJ6_bitCount_0f7a4, Cond.initialized RJ6, Cond.code yJ6_bitCount_0f7a4 cJ6_bitCount_0f7a4 1 (some .int), Cond.constant RJ6 265 (1431655765), Cond.constant RJ6 266 (858993459), Cond.constant RJ6 267 (252645135), Cond.methodLink RX3 54 yX3_valueWith, Cond.instanceMethod yX3_valueWith, Cond.selects RX3 yX3_valueWith yX3_valueWith, Cond.code yX3_valueWith cX3_valueWith 4 (some .int), Cond.static yX9_valueOf]
def wsX1_ownersBehindYear_r3 : List Cond := [Cond.code yX9_valueOf cX9_valueOf 5 (some .int), Cond.static yX9_has, Cond.code yX9_has cX9_has 2 (some .boolean), Cond.methodLink RX9 156 yX9_bit, Cond.methodLink RX1 55 yJ6_bitCount_0f7a4]
def wsX1_ownersBehindYear : List Cond := .code yX1_ownersBehindYear cX1_ownersBehindYear 6 (some .int) :: ((wsX1_ownersBehindYear_r1 ++ (wsX1_ownersBehindYear_r2 ++ wsX1_ownersBehindYear_r3)) ++ wsX10 ++ wsX30 ++ wsX40)
def wsX1_bestDay_r1 : List Cond := [Cond.fieldLink RX1 15 "DearAsMany$Course" "market" "LDearAsMany$Market;", Cond.methodLink RX1 69 yX1_seasonOn, Cond.static yX1_seasonOn, Cond.initialized RX1, Cond.code yX1_seasonOn cX1_seasonOn 4 (some .int), Cond.constantLong RX1 72 (7919), Cond.constantLong RX1 74 (6151), Cond.constantLong RX1 76 (65521), Cond.constantLong RX1 78 (100), Cond.methodLink RX1 31 yX3_nextOwners, Cond.instanceMethod yX3_nextOwners, Cond.selects RX3 yX3_nextOwners yX3_nextOwners, Cond.initialized RX3, Cond.code yX3_nextOwners cX3_nextOwners 6 (some .int), Cond.fieldLink RX3 12 "DearAsMany$Market" "people" "LDearAsMany$People;", Cond.fieldLink RX3 26 "DearAsMany$People" "size" "I", Cond.methodLink RX3 66 yX3_changes, Cond.instanceMethod yX3_changes, Cond.selects RX3 yX3_changes yX3_changes, Cond.code yX3_changes cX3_changes 6 (some .boolean), Cond.methodLink RX3 51 yX3_othersOf, Cond.instanceMethod yX3_othersOf, Cond.selects RX3 yX3_othersOf yX3_othersOf, Cond.code yX3_othersOf cX3_othersOf 3 (some .int)]
def wsX1_bestDay_r2 : List Cond := [Cond.fieldLink RX3 18 "DearAsMany$Market" "homes" "[I", Cond.static yX9_at, Cond.initialized RX9, Cond.code yX9_at cX9_at 2 (some .int), Cond.methodLink RX3 30 yX4_trait, Cond.instanceMethod yX4_trait, Cond.selects RX4 yX4_trait yX4_trait, Cond.initialized RX4, Cond.code yX4_trait cX4_trait 4 (some .int), Cond.fieldLink RX4 9 "DearAsMany$People" "traits" "[I", Cond.static yX9_bit, Cond.code yX9_bit cX9_bit 1 (some .int), Cond.methodLink RX3 46 yJ6_bitCount_0f7a4, Cond.static yJ6_bitCount_0f7a4, Cond.initialized RJ6, Cond.code yJ6_bitCount_0f7a4 cJ6_bitCount_0f7a4 1 (some .int), Cond.constant RJ6 265 (1431655765), Cond.constant RJ6 266 (858993459), Cond.constant RJ6 267 (252645135), Cond.methodLink RX3 54 yX3_valueWith, Cond.instanceMethod yX3_valueWith, Cond.selects RX3 yX3_valueWith yX3_valueWith, Cond.code yX3_valueWith cX3_valueWith 4 (some .int), Cond.static yX9_valueOf]
def wsX1_bestDay_r3 : List Cond := [Cond.code yX9_valueOf cX9_valueOf 5 (some .int), Cond.static yX9_has, Cond.code yX9_has cX9_has 2 (some .boolean), Cond.methodLink RX9 156 yX9_bit, Cond.methodLink RX1 55 yJ6_bitCount_0f7a4]
def wsX1_bestDay : List Cond := .code yX1_bestDay cX1_bestDay 9 (some .int) :: ((wsX1_bestDay_r1 ++ (wsX1_bestDay_r2 ++ wsX1_bestDay_r3)) ++ wsX10 ++ wsX30 ++ wsX40)
def wsX2_init : List Cond := .code yX2_init cX2_init 1 none :: ([.methodLink RX2 3 objectInit, .instanceMethod objectInit, .code objectInit ⟨#[0xb1]⟩ 1 none, .arrayClass .int, .fieldLink RX2 9 "DearAsMany$Holding" "pennies" "[I", .fieldLink RX2 15 "DearAsMany$Holding" "owners" "I"] ++ wsX20)
def wsX2_begin : List Cond := .code yX2_begin cX2_begin 3 none :: ([.fieldLink RX2 19 "DearAsMany$People" "firstOwners" "I", .fieldLink RX2 15 "DearAsMany$Holding" "owners" "I", .fieldLink RX2 9 "DearAsMany$Holding" "pennies" "[I", .methodLink RX2 24 yX4_trait, .instanceMethod yX4_trait, .selects RX4 yX4_trait yX4_trait, .initialized RX4, .code yX4_trait cX4_trait 4 (some .int), .fieldLink RX4 9 "DearAsMany$People" "traits" "[I", .static yX9_put, .initialized RX9, .code yX9_put cX9_put 3 none] ++ wsX40 ++ wsX20)
def wsX2_owns : List Cond := .code yX2_owns cX2_owns 2 (some .boolean) :: ([.fieldLink RX2 15 "DearAsMany$Holding" "owners" "I", .static yX9_has, .initialized RX9, .code yX9_has cX9_has 2 (some .boolean), .methodLink RX9 156 yX9_bit, .static yX9_bit, .code yX9_bit cX9_bit 1 (some .int)] ++ wsX20)
def wsX2_penniesOf : List Cond := .code yX2_penniesOf cX2_penniesOf 2 (some .int) :: ([.fieldLink RX2 9 "DearAsMany$Holding" "pennies" "[I", .static yX9_at, .initialized RX9, .code yX9_at cX9_at 2 (some .int)] ++ wsX20)
def wsX2_earn : List Cond := .code yX2_earn cX2_earn 3 none :: ([.fieldLink RX2 9 "DearAsMany$Holding" "pennies" "[I", .static yX9_at, .initialized RX9, .code yX9_at cX9_at 2 (some .int), .static yX9_put, .code yX9_put cX9_put 3 none] ++ wsX20)
def wsX4_init : List Cond := .code yX4_init cX4_init 1 none :: ([.methodLink RX4 3 objectInit, .instanceMethod objectInit, .code objectInit ⟨#[0xb1]⟩ 1 none, .arrayClass .int, .fieldLink RX4 9 "DearAsMany$People" "traits" "[I", .fieldLink RX4 15 "DearAsMany$People" "size" "I", .fieldLink RX4 19 "DearAsMany$People" "firstOwners" "I", .fieldLink RX4 22 "DearAsMany$People" "season" "I"] ++ wsX40)
def wsX3_init : List Cond := .code yX3_init cX3_init 1 none :: ([.methodLink RX3 3 objectInit, .instanceMethod objectInit, .code objectInit ⟨#[0xb1]⟩ 1 none, .classLink RX3 9 RX4, .instantiable RX4 4, .initialized RX4, .fieldLink RX3 12 "DearAsMany$Market" "people" "LDearAsMany$People;", .arrayClass .int, .fieldLink RX3 18 "DearAsMany$Market" "homes" "[I", .instanceMethod yX4_init, .code yX4_init cX4_init 1 none, .methodLink RX4 3 objectInit, .fieldLink RX4 9 "DearAsMany$People" "traits" "[I", .fieldLink RX4 15 "DearAsMany$People" "size" "I", .fieldLink RX4 19 "DearAsMany$People" "firstOwners" "I", .fieldLink RX4 22 "DearAsMany$People" "season" "I"] ++ wsX40 ++ wsX30)
def wsX4_copy : List Cond := .code yX4_copy cX4_copy 3 none :: ([.fieldLink RX4 9 "DearAsMany$People" "traits" "[I", .fieldLink RX4 15 "DearAsMany$People" "size" "I", .fieldLink RX4 19 "DearAsMany$People" "firstOwners" "I", .fieldLink RX4 22 "DearAsMany$People" "season" "I", .static yX9_at, .initialized RX9, .code yX9_at cX9_at 2 (some .int), .static yX9_put, .code yX9_put cX9_put 3 none] ++ wsX40)
def wsX3_open : List Cond := .code yX3_open cX3_open 5 none :: ([.fieldLink RX3 12 "DearAsMany$Market" "people" "LDearAsMany$People;", .fieldLink RX3 26 "DearAsMany$People" "size" "I", .fieldLink RX3 18 "DearAsMany$Market" "homes" "[I", .methodLink RX3 22 yX4_copy, .instanceMethod yX4_copy, .selects RX4 yX4_copy yX4_copy, .initialized RX4, .code yX4_copy cX4_copy 3 none, .fieldLink RX4 9 "DearAsMany$People" "traits" "[I", .fieldLink RX4 15 "DearAsMany$People" "size" "I", .fieldLink RX4 19 "DearAsMany$People" "firstOwners" "I", .fieldLink RX4 22 "DearAsMany$People" "season" "I", .static yX9_at, .initialized RX9, .code yX9_at cX9_at 2 (some .int), .static yX9_put, .code yX9_put cX9_put 3 none, .methodLink RX3 30 yX4_trait, .instanceMethod yX4_trait, .selects RX4 yX4_trait yX4_trait, .code yX4_trait cX4_trait 4 (some .int), .static yX9_bit, .code yX9_bit cX9_bit 1 (some .int)] ++ wsX30 ++ wsX40)
def wsX4_clear : List Cond := .code yX4_clear cX4_clear 1 none :: ([.fieldLink RX4 15 "DearAsMany$People" "size" "I", .fieldLink RX4 19 "DearAsMany$People" "firstOwners" "I", .fieldLink RX4 22 "DearAsMany$People" "season" "I"] ++ wsX40)
def wsX4_add : List Cond := .code yX4_add cX4_add 6 (some .boolean) :: ([.fieldLink RX4 15 "DearAsMany$People" "size" "I", .fieldLink RX4 9 "DearAsMany$People" "traits" "[I", .static yX9_put, .initialized RX9, .code yX9_put cX9_put 3 none] ++ wsX40)
def wsX4_giveOne : List Cond := .code yX4_giveOne cX4_giveOne 2 (some .boolean) :: ([.fieldLink RX4 15 "DearAsMany$People" "size" "I", .fieldLink RX4 19 "DearAsMany$People" "firstOwners" "I", .static yX9_bit, .initialized RX9, .code yX9_bit cX9_bit 1 (some .int)] ++ wsX40)
def wsX4_setSeason : List Cond := .code yX4_setSeason cX4_setSeason 2 (some .boolean) :: ([.fieldLink RX4 22 "DearAsMany$People" "season" "I"] ++ wsX40)
def wsX5_init : List Cond := .code yX5_init cX5_init 2 none :: ([.methodLink RX5 3 objectInit, .instanceMethod objectInit, .code objectInit ⟨#[0xb1]⟩ 1 none, .fieldLink RX5 9 "DearAsMany$Pile" "size" "I", .fieldLink RX5 15 "DearAsMany$Pile" "most" "I", .arrayClass .int, .fieldLink RX5 18 "DearAsMany$Pile" "rows" "[I"] ++ wsX50)
def wsX5_push : List Cond := .code yX5_push cX5_push 4 none :: ([.fieldLink RX5 9 "DearAsMany$Pile" "size" "I", .fieldLink RX5 15 "DearAsMany$Pile" "most" "I", .fieldLink RX5 18 "DearAsMany$Pile" "rows" "[I", .fieldLink RX5 32 "DearAsMany$Holding" "owners" "I", .methodLink RX5 22 yX2_penniesOf, .instanceMethod yX2_penniesOf, .selects RX2 yX2_penniesOf yX2_penniesOf, .initialized RX2, .code yX2_penniesOf cX2_penniesOf 2 (some .int), .fieldLink RX2 9 "DearAsMany$Holding" "pennies" "[I", .static yX9_at, .initialized RX9, .code yX9_at cX9_at 2 (some .int), .static yX9_put, .code yX9_put cX9_put 3 none] ++ wsX50 ++ wsX20)
def wsX5_pushOverOldest : List Cond := .code yX5_pushOverOldest cX5_pushOverOldest 3 none :: ([.fieldLink RX5 9 "DearAsMany$Pile" "size" "I", .fieldLink RX5 15 "DearAsMany$Pile" "most" "I", .fieldLink RX5 18 "DearAsMany$Pile" "rows" "[I", .static yX9_at, .initialized RX9, .code yX9_at cX9_at 2 (some .int), .static yX9_put, .code yX9_put cX9_put 3 none, .methodLink RX5 39 yX5_push, .instanceMethod yX5_push, .selects RX5 yX5_push yX5_push, .initialized RX5, .code yX5_push cX5_push 4 none, .fieldLink RX5 32 "DearAsMany$Holding" "owners" "I", .methodLink RX5 22 yX2_penniesOf, .instanceMethod yX2_penniesOf, .selects RX2 yX2_penniesOf yX2_penniesOf, .initialized RX2, .code yX2_penniesOf cX2_penniesOf 2 (some .int), .fieldLink RX2 9 "DearAsMany$Holding" "pennies" "[I"] ++ wsX50 ++ wsX20)
def wsX5_popInto : List Cond := .code yX5_popInto cX5_popInto 4 none :: ([.fieldLink RX5 9 "DearAsMany$Pile" "size" "I", .fieldLink RX5 43 "DearAsMany$Holding" "pennies" "[I", .fieldLink RX5 18 "DearAsMany$Pile" "rows" "[I", .fieldLink RX5 32 "DearAsMany$Holding" "owners" "I", .static yX9_at, .initialized RX9, .code yX9_at cX9_at 2 (some .int), .static yX9_put, .code yX9_put cX9_put 3 none] ++ wsX50 ++ wsX20)
def wsX6_init : List Cond := .code yX6_init cX6_init 1 none :: ([.methodLink RX6 3 objectInit, .instanceMethod objectInit, .code objectInit ⟨#[0xb1]⟩ 1 none, .arrayClass .int, .fieldLink RX6 9 "DearAsMany$Reader" "numbers" "[I", .fieldLink RX6 15 "DearAsMany$Reader" "place" "I"] ++ wsX60)
def wsX8_byteAt : List Cond := .code yX8_byteAt cX8_byteAt 2 (some .int) :: ([.fieldLink RX8 15 "DearAsMany$Text" "length" "I", .fieldLink RX8 9 "DearAsMany$Text" "bytes" "[B"] ++ wsX80)
def wsX6_figure : List Cond := .code yX6_figure cX6_figure 1 (some .int) :: ([])
def wsX6_readNumber : List Cond := .code yX6_readNumber cX6_readNumber 4 (some .int) :: ([.fieldLink RX6 15 "DearAsMany$Reader" "place" "I", .methodLink RX6 33 yX8_byteAt, .instanceMethod yX8_byteAt, .selects RX8 yX8_byteAt yX8_byteAt, .initialized RX8, .code yX8_byteAt cX8_byteAt 2 (some .int), .fieldLink RX8 15 "DearAsMany$Text" "length" "I", .fieldLink RX8 9 "DearAsMany$Text" "bytes" "[B", .methodLink RX6 64 yX6_figure, .static yX6_figure, .initialized RX6, .code yX6_figure cX6_figure 1 (some .int)] ++ wsX60 ++ wsX80)
def wsX6_readNumbers : List Cond := .code yX6_readNumbers cX6_readNumbers 5 (some .boolean) :: ([.fieldLink RX6 15 "DearAsMany$Reader" "place" "I", .fieldLink RX6 9 "DearAsMany$Reader" "numbers" "[I", .methodLink RX6 56 yX6_readNumber, .instanceMethod yX6_readNumber, .selects RX6 yX6_readNumber yX6_readNumber, .initialized RX6, .code yX6_readNumber cX6_readNumber 4 (some .int), .methodLink RX6 33 yX8_byteAt, .instanceMethod yX8_byteAt, .selects RX8 yX8_byteAt yX8_byteAt, .initialized RX8, .code yX8_byteAt cX8_byteAt 2 (some .int), .fieldLink RX8 15 "DearAsMany$Text" "length" "I", .fieldLink RX8 9 "DearAsMany$Text" "bytes" "[B", .methodLink RX6 64 yX6_figure, .static yX6_figure, .code yX6_figure cX6_figure 1 (some .int), .static yX9_put, .initialized RX9, .code yX9_put cX9_put 3 none] ++ wsX60 ++ wsX80)
def wsX6_readItem_r1 : List Cond := [Cond.fieldLink RX6 15 "DearAsMany$Reader" "place" "I", Cond.fieldLink RX6 9 "DearAsMany$Reader" "numbers" "[I", Cond.methodLink RX6 33 yX8_byteAt, Cond.instanceMethod yX8_byteAt, Cond.selects RX8 yX8_byteAt yX8_byteAt, Cond.initialized RX8, Cond.code yX8_byteAt cX8_byteAt 2 (some .int), Cond.fieldLink RX8 15 "DearAsMany$Text" "length" "I", Cond.fieldLink RX8 9 "DearAsMany$Text" "bytes" "[B", Cond.methodLink RX6 37 yX6_readNumbers, Cond.instanceMethod yX6_readNumbers, Cond.selects RX6 yX6_readNumbers yX6_readNumbers, Cond.initialized RX6, Cond.code yX6_readNumbers cX6_readNumbers 5 (some .boolean), Cond.methodLink RX6 56 yX6_readNumber, Cond.instanceMethod yX6_readNumber, Cond.selects RX6 yX6_readNumber yX6_readNumber, Cond.code yX6_readNumber cX6_readNumber 4 (some .int), Cond.methodLink RX6 64 yX6_figure, Cond.static yX6_figure, Cond.code yX6_figure cX6_figure 1 (some .int), Cond.static yX9_put, Cond.initialized RX9, Cond.code yX9_put cX9_put 3 none]
def wsX6_readItem_r2 : List Cond := [Cond.static yX9_at, Cond.code yX9_at cX9_at 2 (some .int), Cond.methodLink RX6 45 yX4_add, Cond.instanceMethod yX4_add, Cond.selects RX4 yX4_add yX4_add, Cond.initialized RX4, Cond.code yX4_add cX4_add 6 (some .boolean), Cond.fieldLink RX4 15 "DearAsMany$People" "size" "I", Cond.fieldLink RX4 9 "DearAsMany$People" "traits" "[I", Cond.methodLink RX6 49 yX4_giveOne, Cond.instanceMethod yX4_giveOne, Cond.selects RX4 yX4_giveOne yX4_giveOne, Cond.code yX4_giveOne cX4_giveOne 2 (some .boolean), Cond.fieldLink RX4 19 "DearAsMany$People" "firstOwners" "I", Cond.static yX9_bit, Cond.code yX9_bit cX9_bit 1 (some .int), Cond.methodLink RX6 53 yX4_setSeason, Cond.instanceMethod yX4_setSeason, Cond.selects RX4 yX4_setSeason yX4_setSeason, Cond.code yX4_setSeason cX4_setSeason 2 (some .boolean), Cond.fieldLink RX4 22 "DearAsMany$People" "season" "I"]
def wsX6_readItem : List Cond := .code yX6_readItem cX6_readItem 4 (some .boolean) :: ((wsX6_readItem_r1 ++ wsX6_readItem_r2) ++ wsX60 ++ wsX80 ++ wsX40)
def wsX6_readAll_r1 : List Cond := [Cond.fieldLink RX6 15 "DearAsMany$Reader" "place" "I", Cond.fieldLink RX6 24 "DearAsMany$Text" "length" "I", Cond.methodLink RX6 19 yX4_clear, Cond.instanceMethod yX4_clear, Cond.selects RX4 yX4_clear yX4_clear, Cond.initialized RX4, Cond.code yX4_clear cX4_clear 1 none, Cond.fieldLink RX4 15 "DearAsMany$People" "size" "I", Cond.fieldLink RX4 19 "DearAsMany$People" "firstOwners" "I", Cond.fieldLink RX4 22 "DearAsMany$People" "season" "I", Cond.methodLink RX6 29 yX6_readItem, Cond.instanceMethod yX6_readItem, Cond.selects RX6 yX6_readItem yX6_readItem, Cond.initialized RX6, Cond.code yX6_readItem cX6_readItem 4 (some .boolean), Cond.fieldLink RX6 9 "DearAsMany$Reader" "numbers" "[I", Cond.methodLink RX6 33 yX8_byteAt, Cond.instanceMethod yX8_byteAt, Cond.selects RX8 yX8_byteAt yX8_byteAt, Cond.initialized RX8, Cond.code yX8_byteAt cX8_byteAt 2 (some .int), Cond.fieldLink RX8 15 "DearAsMany$Text" "length" "I", Cond.fieldLink RX8 9 "DearAsMany$Text" "bytes" "[B", Cond.methodLink RX6 37 yX6_readNumbers]
def wsX6_readAll_r2 : List Cond := [Cond.instanceMethod yX6_readNumbers, Cond.selects RX6 yX6_readNumbers yX6_readNumbers, Cond.code yX6_readNumbers cX6_readNumbers 5 (some .boolean), Cond.methodLink RX6 56 yX6_readNumber, Cond.instanceMethod yX6_readNumber, Cond.selects RX6 yX6_readNumber yX6_readNumber, Cond.code yX6_readNumber cX6_readNumber 4 (some .int), Cond.methodLink RX6 64 yX6_figure, Cond.static yX6_figure, Cond.code yX6_figure cX6_figure 1 (some .int), Cond.static yX9_put, Cond.initialized RX9, Cond.code yX9_put cX9_put 3 none, Cond.static yX9_at, Cond.code yX9_at cX9_at 2 (some .int), Cond.methodLink RX6 45 yX4_add, Cond.instanceMethod yX4_add, Cond.selects RX4 yX4_add yX4_add, Cond.code yX4_add cX4_add 6 (some .boolean), Cond.fieldLink RX4 9 "DearAsMany$People" "traits" "[I", Cond.methodLink RX6 49 yX4_giveOne, Cond.instanceMethod yX4_giveOne, Cond.selects RX4 yX4_giveOne yX4_giveOne, Cond.code yX4_giveOne cX4_giveOne 2 (some .boolean)]
def wsX6_readAll_r3 : List Cond := [Cond.static yX9_bit, Cond.code yX9_bit cX9_bit 1 (some .int), Cond.methodLink RX6 53 yX4_setSeason, Cond.instanceMethod yX4_setSeason, Cond.selects RX4 yX4_setSeason yX4_setSeason, Cond.code yX4_setSeason cX4_setSeason 2 (some .boolean)]
def wsX6_readAll : List Cond := .code yX6_readAll cX6_readAll 5 (some .int) :: ((wsX6_readAll_r1 ++ (wsX6_readAll_r2 ++ wsX6_readAll_r3)) ++ wsX60 ++ wsX80 ++ wsX40)
def wsX7_init : List Cond := .code yX7_init cX7_init 1 none :: ([.methodLink RX7 3 objectInit, .instanceMethod objectInit, .code objectInit ⟨#[0xb1]⟩ 1 none, .arrayClass .int, .fieldLink RX7 9 "DearAsMany$Sightings" "persons" "[I", .fieldLink RX7 15 "DearAsMany$Sightings" "others" "[I", .arrayClass .boolean, .fieldLink RX7 18 "DearAsMany$Sightings" "purchases" "[Z", .fieldLink RX7 22 "DearAsMany$Sightings" "size" "I"] ++ wsX70)
def wsX7_add : List Cond := .code yX7_add cX7_add 4 none :: ([.fieldLink RX7 22 "DearAsMany$Sightings" "size" "I", .fieldLink RX7 18 "DearAsMany$Sightings" "purchases" "[Z", .fieldLink RX7 9 "DearAsMany$Sightings" "persons" "[I", .fieldLink RX7 15 "DearAsMany$Sightings" "others" "[I", .static yX9_put, .initialized RX9, .code yX9_put cX9_put 3 none] ++ wsX70)
def wsX7_fit : List Cond := .code yX7_fit cX7_fit 7 (some .boolean) :: ([.fieldLink RX7 22 "DearAsMany$Sightings" "size" "I", .fieldLink RX7 18 "DearAsMany$Sightings" "purchases" "[Z", .fieldLink RX7 15 "DearAsMany$Sightings" "others" "[I", .fieldLink RX7 9 "DearAsMany$Sightings" "persons" "[I", .static yX9_at, .initialized RX9, .code yX9_at cX9_at 2 (some .int), .methodLink RX7 34 yX4_trait, .instanceMethod yX4_trait, .selects RX4 yX4_trait yX4_trait, .initialized RX4, .code yX4_trait cX4_trait 4 (some .int), .fieldLink RX4 9 "DearAsMany$People" "traits" "[I", .static yX9_valueOf, .code yX9_valueOf cX9_valueOf 5 (some .int)] ++ wsX70 ++ wsX40)
def wsX8_init : List Cond := .code yX8_init cX8_init 1 none :: ([.methodLink RX8 3 objectInit, .instanceMethod objectInit, .code objectInit ⟨#[0xb1]⟩ 1 none, .arrayClass .byte, .fieldLink RX8 9 "DearAsMany$Text" "bytes" "[B", .fieldLink RX8 15 "DearAsMany$Text" "length" "I"] ++ wsX80)
def wsX8_hasRoomFor : List Cond := .code yX8_hasRoomFor cX8_hasRoomFor 2 (some .boolean) :: ([.fieldLink RX8 15 "DearAsMany$Text" "length" "I"] ++ wsX80)
def wsX8_append : List Cond := .code yX8_append cX8_append 2 none :: ([.fieldLink RX8 15 "DearAsMany$Text" "length" "I", .fieldLink RX8 9 "DearAsMany$Text" "bytes" "[B"] ++ wsX80)
def wsX8_empty : List Cond := .code yX8_empty cX8_empty 2 (some .int) :: ([.fieldLink RX8 15 "DearAsMany$Text" "length" "I"] ++ wsX80)
def wsX9_settle_r1 : List Cond := [Cond.fieldLink RX9 33 "DearAsMany" "market" "LDearAsMany$Market;", Cond.fieldLink RX9 26 "DearAsMany" "told" "LDearAsMany$People;", Cond.fieldLink RX9 56 "DearAsMany" "now" "LDearAsMany$Holding;", Cond.fieldLink RX9 108 "DearAsMany$Market" "people" "LDearAsMany$People;", Cond.fieldLink RX9 65 "DearAsMany" "undoable" "LDearAsMany$Pile;", Cond.fieldLink RX9 164 "DearAsMany$Pile" "size" "I", Cond.fieldLink RX9 69 "DearAsMany" "kept" "LDearAsMany$Pile;", Cond.fieldLink RX9 75 "DearAsMany" "sightings" "LDearAsMany$Sightings;", Cond.fieldLink RX9 206 "DearAsMany$Sightings" "size" "I", Cond.methodLink RX9 223 yX3_open, Cond.instanceMethod yX3_open, Cond.selects RX3 yX3_open yX3_open, Cond.initialized RX3, Cond.code yX3_open cX3_open 5 none, Cond.fieldLink RX3 12 "DearAsMany$Market" "people" "LDearAsMany$People;", Cond.fieldLink RX3 26 "DearAsMany$People" "size" "I", Cond.fieldLink RX3 18 "DearAsMany$Market" "homes" "[I", Cond.methodLink RX3 22 yX4_copy, Cond.instanceMethod yX4_copy, Cond.selects RX4 yX4_copy yX4_copy, Cond.initialized RX4, Cond.code yX4_copy cX4_copy 3 none, Cond.fieldLink RX4 9 "DearAsMany$People" "traits" "[I", Cond.fieldLink RX4 15 "DearAsMany$People" "size" "I"]
def wsX9_settle_r2 : List Cond := [Cond.fieldLink RX4 19 "DearAsMany$People" "firstOwners" "I", Cond.fieldLink RX4 22 "DearAsMany$People" "season" "I", Cond.static yX9_at, Cond.initialized RX9, Cond.code yX9_at cX9_at 2 (some .int), Cond.static yX9_put, Cond.code yX9_put cX9_put 3 none, Cond.methodLink RX3 30 yX4_trait, Cond.instanceMethod yX4_trait, Cond.selects RX4 yX4_trait yX4_trait, Cond.code yX4_trait cX4_trait 4 (some .int), Cond.static yX9_bit, Cond.code yX9_bit cX9_bit 1 (some .int), Cond.methodLink RX9 227 yX2_begin, Cond.instanceMethod yX2_begin, Cond.selects RX2 yX2_begin yX2_begin, Cond.initialized RX2, Cond.code yX2_begin cX2_begin 3 none, Cond.fieldLink RX2 19 "DearAsMany$People" "firstOwners" "I", Cond.fieldLink RX2 15 "DearAsMany$Holding" "owners" "I", Cond.fieldLink RX2 9 "DearAsMany$Holding" "pennies" "[I", Cond.methodLink RX2 24 yX4_trait]
def wsX9_settle : List Cond := .code yX9_settle cX9_settle 1 none :: ((wsX9_settle_r1 ++ wsX9_settle_r2) ++ wsX90 ++ wsX30 ++ wsX50 ++ wsX70 ++ wsX40 ++ wsX20)
def wsX9_init_r1 : List Cond := [Cond.methodLink RX9 1 objectInit, Cond.instanceMethod objectInit, Cond.code objectInit ⟨#[0xb1]⟩ 1 none, Cond.classLink RX9 7 RX8, Cond.instantiable RX8 2, Cond.initialized RX8, Cond.fieldLink RX9 10 "DearAsMany" "text" "LDearAsMany$Text;", Cond.classLink RX9 16 RX6, Cond.instantiable RX6 2, Cond.initialized RX6, Cond.fieldLink RX9 19 "DearAsMany" "reader" "LDearAsMany$Reader;", Cond.classLink RX9 23 RX4, Cond.instantiable RX4 4, Cond.initialized RX4, Cond.fieldLink RX9 26 "DearAsMany" "told" "LDearAsMany$People;", Cond.classLink RX9 30 RX3, Cond.instantiable RX3 2, Cond.initialized RX3, Cond.fieldLink RX9 33 "DearAsMany" "market" "LDearAsMany$Market;", Cond.classLink RX9 37 RX1, Cond.instantiable RX1 2, Cond.initialized RX1, Cond.fieldLink RX9 42 "DearAsMany" "course" "LDearAsMany$Course;", Cond.classLink RX9 46 RX0]
def wsX9_init_r2 : List Cond := [Cond.instantiable RX0 1, Cond.initialized RX0, Cond.fieldLink RX9 49 "DearAsMany" "counsel" "LDearAsMany$Counsel;", Cond.classLink RX9 53 RX2, Cond.instantiable RX2 2, Cond.initialized RX2, Cond.fieldLink RX9 56 "DearAsMany" "now" "LDearAsMany$Holding;", Cond.classLink RX9 60 RX5, Cond.instantiable RX5 3, Cond.initialized RX5, Cond.fieldLink RX9 65 "DearAsMany" "undoable" "LDearAsMany$Pile;", Cond.fieldLink RX9 69 "DearAsMany" "kept" "LDearAsMany$Pile;", Cond.classLink RX9 72 RX7, Cond.instantiable RX7 4, Cond.initialized RX7, Cond.fieldLink RX9 75 "DearAsMany" "sightings" "LDearAsMany$Sightings;", Cond.instanceMethod yX8_init, Cond.code yX8_init cX8_init 1 none, Cond.methodLink RX8 3 objectInit, Cond.arrayClass .byte, Cond.fieldLink RX8 9 "DearAsMany$Text" "bytes" "[B", Cond.fieldLink RX8 15 "DearAsMany$Text" "length" "I", Cond.instanceMethod yX6_init, Cond.code yX6_init cX6_init 1 none]
def wsX9_init_r3 : List Cond := [Cond.methodLink RX6 3 objectInit, Cond.arrayClass .int, Cond.fieldLink RX6 9 "DearAsMany$Reader" "numbers" "[I", Cond.fieldLink RX6 15 "DearAsMany$Reader" "place" "I", Cond.instanceMethod yX4_init, Cond.code yX4_init cX4_init 1 none, Cond.methodLink RX4 3 objectInit, Cond.fieldLink RX4 9 "DearAsMany$People" "traits" "[I", Cond.fieldLink RX4 15 "DearAsMany$People" "size" "I", Cond.fieldLink RX4 19 "DearAsMany$People" "firstOwners" "I", Cond.fieldLink RX4 22 "DearAsMany$People" "season" "I", Cond.instanceMethod yX3_init, Cond.code yX3_init cX3_init 1 none, Cond.methodLink RX3 3 objectInit, Cond.classLink RX3 9 RX4, Cond.fieldLink RX3 12 "DearAsMany$Market" "people" "LDearAsMany$People;", Cond.fieldLink RX3 18 "DearAsMany$Market" "homes" "[I", Cond.methodLink RX9 39 yX1_init, Cond.instanceMethod yX1_init, Cond.code yX1_init cX1_init 2 none, Cond.methodLink RX1 3 objectInit, Cond.fieldLink RX1 9 "DearAsMany$Course" "onward" "[I", Cond.fieldLink RX1 15 "DearAsMany$Course" "market" "LDearAsMany$Market;", Cond.methodLink RX9 48 yX0_init]
def wsX9_init_r4 : List Cond := [Cond.instanceMethod yX0_init, Cond.code yX0_init cX0_init 2 none, Cond.methodLink RX0 3 objectInit, Cond.fieldLink RX0 9 "DearAsMany$Counsel" "market" "LDearAsMany$Market;", Cond.instanceMethod yX2_init, Cond.code yX2_init cX2_init 1 none, Cond.methodLink RX2 3 objectInit, Cond.fieldLink RX2 9 "DearAsMany$Holding" "pennies" "[I", Cond.fieldLink RX2 15 "DearAsMany$Holding" "owners" "I", Cond.methodLink RX9 62 yX5_init, Cond.instanceMethod yX5_init, Cond.code yX5_init cX5_init 2 none, Cond.methodLink RX5 3 objectInit, Cond.fieldLink RX5 9 "DearAsMany$Pile" "size" "I", Cond.fieldLink RX5 15 "DearAsMany$Pile" "most" "I", Cond.fieldLink RX5 18 "DearAsMany$Pile" "rows" "[I", Cond.instanceMethod yX7_init, Cond.code yX7_init cX7_init 1 none, Cond.methodLink RX7 3 objectInit, Cond.fieldLink RX7 9 "DearAsMany$Sightings" "persons" "[I", Cond.fieldLink RX7 15 "DearAsMany$Sightings" "others" "[I", Cond.arrayClass .boolean, Cond.fieldLink RX7 18 "DearAsMany$Sightings" "purchases" "[Z", Cond.fieldLink RX7 22 "DearAsMany$Sightings" "size" "I"]
def wsX9_init_r5 : List Cond := [Cond.methodLink RX9 79 yX4_add, Cond.instanceMethod yX4_add, Cond.selects RX4 yX4_add yX4_add, Cond.code yX4_add cX4_add 6 (some .boolean), Cond.static yX9_put, Cond.initialized RX9, Cond.code yX9_put cX9_put 3 none, Cond.methodLink RX9 83 yX9_settle, Cond.instanceMethod yX9_settle, Cond.selects RX9 yX9_settle yX9_settle, Cond.code yX9_settle cX9_settle 1 none, Cond.fieldLink RX9 108 "DearAsMany$Market" "people" "LDearAsMany$People;", Cond.fieldLink RX9 164 "DearAsMany$Pile" "size" "I", Cond.fieldLink RX9 206 "DearAsMany$Sightings" "size" "I", Cond.methodLink RX9 223 yX3_open, Cond.instanceMethod yX3_open, Cond.selects RX3 yX3_open yX3_open, Cond.code yX3_open cX3_open 5 none, Cond.fieldLink RX3 26 "DearAsMany$People" "size" "I", Cond.methodLink RX3 22 yX4_copy, Cond.instanceMethod yX4_copy, Cond.selects RX4 yX4_copy yX4_copy, Cond.code yX4_copy cX4_copy 3 none, Cond.static yX9_at]
def wsX9_init_r6 : List Cond := [Cond.code yX9_at cX9_at 2 (some .int), Cond.methodLink RX3 30 yX4_trait, Cond.instanceMethod yX4_trait, Cond.selects RX4 yX4_trait yX4_trait, Cond.code yX4_trait cX4_trait 4 (some .int), Cond.static yX9_bit, Cond.code yX9_bit cX9_bit 1 (some .int), Cond.methodLink RX9 227 yX2_begin, Cond.instanceMethod yX2_begin, Cond.selects RX2 yX2_begin yX2_begin, Cond.code yX2_begin cX2_begin 3 none, Cond.fieldLink RX2 19 "DearAsMany$People" "firstOwners" "I", Cond.methodLink RX2 24 yX4_trait]
def wsX9_init : List Cond := .code yX9_init cX9_init 1 none :: ((wsX9_init_r1 ++ (wsX9_init_r2 ++ (wsX9_init_r3 ++ (wsX9_init_r4 ++ (wsX9_init_r5 ++ wsX9_init_r6))))) ++ wsX80 ++ wsX90 ++ wsX60 ++ wsX40 ++ wsX30 ++ wsX10 ++ wsX00 ++ wsX20 ++ wsX50 ++ wsX70)
def wsX9_write : List Cond := .code yX9_write cX9_write 5 (some .int) :: ([.fieldLink RX9 10 "DearAsMany" "text" "LDearAsMany$Text;", .fieldLink RX9 93 "DearAsMany$Text" "length" "I", .methodLink RX9 86 yX8_hasRoomFor, .instanceMethod yX8_hasRoomFor, .selects RX8 yX8_hasRoomFor yX8_hasRoomFor, .initialized RX8, .code yX8_hasRoomFor cX8_hasRoomFor 2 (some .boolean), .fieldLink RX8 15 "DearAsMany$Text" "length" "I", .methodLink RX9 90 yX8_append, .instanceMethod yX8_append, .selects RX8 yX8_append yX8_append, .code yX8_append cX8_append 2 none, .fieldLink RX8 9 "DearAsMany$Text" "bytes" "[B"] ++ wsX90 ++ wsX80)
def wsX9_wipe : List Cond := .code yX9_wipe cX9_wipe 1 (some .int) :: ([.fieldLink RX9 10 "DearAsMany" "text" "LDearAsMany$Text;", .methodLink RX9 97 yX8_empty, .instanceMethod yX8_empty, .selects RX8 yX8_empty yX8_empty, .initialized RX8, .code yX8_empty cX8_empty 2 (some .int), .fieldLink RX8 15 "DearAsMany$Text" "length" "I"] ++ wsX90 ++ wsX80)
def wsX9_fault_r1 : List Cond := [Cond.fieldLink RX9 19 "DearAsMany" "reader" "LDearAsMany$Reader;", Cond.fieldLink RX9 10 "DearAsMany" "text" "LDearAsMany$Text;", Cond.fieldLink RX9 26 "DearAsMany" "told" "LDearAsMany$People;", Cond.methodLink RX9 101 yX6_readAll, Cond.instanceMethod yX6_readAll, Cond.selects RX6 yX6_readAll yX6_readAll, Cond.initialized RX6, Cond.code yX6_readAll cX6_readAll 5 (some .int), Cond.fieldLink RX6 15 "DearAsMany$Reader" "place" "I", Cond.fieldLink RX6 24 "DearAsMany$Text" "length" "I", Cond.methodLink RX6 19 yX4_clear, Cond.instanceMethod yX4_clear, Cond.selects RX4 yX4_clear yX4_clear, Cond.initialized RX4, Cond.code yX4_clear cX4_clear 1 none, Cond.fieldLink RX4 15 "DearAsMany$People" "size" "I", Cond.fieldLink RX4 19 "DearAsMany$People" "firstOwners" "I", Cond.fieldLink RX4 22 "DearAsMany$People" "season" "I", Cond.methodLink RX6 29 yX6_readItem, Cond.instanceMethod yX6_readItem, Cond.selects RX6 yX6_readItem yX6_readItem, Cond.code yX6_readItem cX6_readItem 4 (some .boolean), Cond.fieldLink RX6 9 "DearAsMany$Reader" "numbers" "[I", Cond.methodLink RX6 33 yX8_byteAt]
def wsX9_fault_r2 : List Cond := [Cond.instanceMethod yX8_byteAt, Cond.selects RX8 yX8_byteAt yX8_byteAt, Cond.initialized RX8, Cond.code yX8_byteAt cX8_byteAt 2 (some .int), Cond.fieldLink RX8 15 "DearAsMany$Text" "length" "I", Cond.fieldLink RX8 9 "DearAsMany$Text" "bytes" "[B", Cond.methodLink RX6 37 yX6_readNumbers, Cond.instanceMethod yX6_readNumbers, Cond.selects RX6 yX6_readNumbers yX6_readNumbers, Cond.code yX6_readNumbers cX6_readNumbers 5 (some .boolean), Cond.methodLink RX6 56 yX6_readNumber, Cond.instanceMethod yX6_readNumber, Cond.selects RX6 yX6_readNumber yX6_readNumber, Cond.code yX6_readNumber cX6_readNumber 4 (some .int), Cond.methodLink RX6 64 yX6_figure, Cond.static yX6_figure, Cond.code yX6_figure cX6_figure 1 (some .int), Cond.static yX9_put, Cond.initialized RX9, Cond.code yX9_put cX9_put 3 none, Cond.static yX9_at, Cond.code yX9_at cX9_at 2 (some .int), Cond.methodLink RX6 45 yX4_add, Cond.instanceMethod yX4_add]
def wsX9_fault_r3 : List Cond := [Cond.selects RX4 yX4_add yX4_add, Cond.code yX4_add cX4_add 6 (some .boolean), Cond.fieldLink RX4 9 "DearAsMany$People" "traits" "[I", Cond.methodLink RX6 49 yX4_giveOne, Cond.instanceMethod yX4_giveOne, Cond.selects RX4 yX4_giveOne yX4_giveOne, Cond.code yX4_giveOne cX4_giveOne 2 (some .boolean), Cond.static yX9_bit, Cond.code yX9_bit cX9_bit 1 (some .int), Cond.methodLink RX6 53 yX4_setSeason, Cond.instanceMethod yX4_setSeason, Cond.selects RX4 yX4_setSeason yX4_setSeason, Cond.code yX4_setSeason cX4_setSeason 2 (some .boolean)]
def wsX9_fault : List Cond := .code yX9_fault cX9_fault 1 (some .int) :: ((wsX9_fault_r1 ++ (wsX9_fault_r2 ++ wsX9_fault_r3)) ++ wsX90 ++ wsX60 ++ wsX80 ++ wsX40)
def wsX9_lay_r1 : List Cond := [Cond.fieldLink RX9 19 "DearAsMany" "reader" "LDearAsMany$Reader;", Cond.fieldLink RX9 10 "DearAsMany" "text" "LDearAsMany$Text;", Cond.fieldLink RX9 26 "DearAsMany" "told" "LDearAsMany$People;", Cond.fieldLink RX9 105 "DearAsMany$People" "size" "I", Cond.fieldLink RX9 33 "DearAsMany" "market" "LDearAsMany$Market;", Cond.fieldLink RX9 108 "DearAsMany$Market" "people" "LDearAsMany$People;", Cond.methodLink RX9 101 yX6_readAll, Cond.instanceMethod yX6_readAll, Cond.selects RX6 yX6_readAll yX6_readAll, Cond.initialized RX6, Cond.code yX6_readAll cX6_readAll 5 (some .int), Cond.fieldLink RX6 15 "DearAsMany$Reader" "place" "I", Cond.fieldLink RX6 24 "DearAsMany$Text" "length" "I", Cond.methodLink RX6 19 yX4_clear, Cond.instanceMethod yX4_clear, Cond.selects RX4 yX4_clear yX4_clear, Cond.initialized RX4, Cond.code yX4_clear cX4_clear 1 none, Cond.fieldLink RX4 15 "DearAsMany$People" "size" "I", Cond.fieldLink RX4 19 "DearAsMany$People" "firstOwners" "I", Cond.fieldLink RX4 22 "DearAsMany$People" "season" "I", Cond.methodLink RX6 29 yX6_readItem, Cond.instanceMethod yX6_readItem, Cond.selects RX6 yX6_readItem yX6_readItem]
def wsX9_lay_r2 : List Cond := [Cond.code yX6_readItem cX6_readItem 4 (some .boolean), Cond.fieldLink RX6 9 "DearAsMany$Reader" "numbers" "[I", Cond.methodLink RX6 33 yX8_byteAt, Cond.instanceMethod yX8_byteAt, Cond.selects RX8 yX8_byteAt yX8_byteAt, Cond.initialized RX8, Cond.code yX8_byteAt cX8_byteAt 2 (some .int), Cond.fieldLink RX8 15 "DearAsMany$Text" "length" "I", Cond.fieldLink RX8 9 "DearAsMany$Text" "bytes" "[B", Cond.methodLink RX6 37 yX6_readNumbers, Cond.instanceMethod yX6_readNumbers, Cond.selects RX6 yX6_readNumbers yX6_readNumbers, Cond.code yX6_readNumbers cX6_readNumbers 5 (some .boolean), Cond.methodLink RX6 56 yX6_readNumber, Cond.instanceMethod yX6_readNumber, Cond.selects RX6 yX6_readNumber yX6_readNumber, Cond.code yX6_readNumber cX6_readNumber 4 (some .int), Cond.methodLink RX6 64 yX6_figure, Cond.static yX6_figure, Cond.code yX6_figure cX6_figure 1 (some .int), Cond.static yX9_put, Cond.initialized RX9, Cond.code yX9_put cX9_put 3 none, Cond.static yX9_at]
def wsX9_lay_r3 : List Cond := [Cond.code yX9_at cX9_at 2 (some .int), Cond.methodLink RX6 45 yX4_add, Cond.instanceMethod yX4_add, Cond.selects RX4 yX4_add yX4_add, Cond.code yX4_add cX4_add 6 (some .boolean), Cond.fieldLink RX4 9 "DearAsMany$People" "traits" "[I", Cond.methodLink RX6 49 yX4_giveOne, Cond.instanceMethod yX4_giveOne, Cond.selects RX4 yX4_giveOne yX4_giveOne, Cond.code yX4_giveOne cX4_giveOne 2 (some .boolean), Cond.static yX9_bit, Cond.code yX9_bit cX9_bit 1 (some .int), Cond.methodLink RX6 53 yX4_setSeason, Cond.instanceMethod yX4_setSeason, Cond.selects RX4 yX4_setSeason yX4_setSeason, Cond.code yX4_setSeason cX4_setSeason 2 (some .boolean), Cond.methodLink RX9 83 yX9_settle, Cond.instanceMethod yX9_settle, Cond.selects RX9 yX9_settle yX9_settle, Cond.code yX9_settle cX9_settle 1 none, Cond.fieldLink RX9 56 "DearAsMany" "now" "LDearAsMany$Holding;", Cond.fieldLink RX9 65 "DearAsMany" "undoable" "LDearAsMany$Pile;", Cond.fieldLink RX9 164 "DearAsMany$Pile" "size" "I", Cond.fieldLink RX9 69 "DearAsMany" "kept" "LDearAsMany$Pile;"]
def wsX9_lay_r4 : List Cond := [Cond.fieldLink RX9 75 "DearAsMany" "sightings" "LDearAsMany$Sightings;", Cond.fieldLink RX9 206 "DearAsMany$Sightings" "size" "I", Cond.methodLink RX9 223 yX3_open, Cond.instanceMethod yX3_open, Cond.selects RX3 yX3_open yX3_open, Cond.initialized RX3, Cond.code yX3_open cX3_open 5 none, Cond.fieldLink RX3 12 "DearAsMany$Market" "people" "LDearAsMany$People;", Cond.fieldLink RX3 26 "DearAsMany$People" "size" "I", Cond.fieldLink RX3 18 "DearAsMany$Market" "homes" "[I", Cond.methodLink RX3 22 yX4_copy, Cond.instanceMethod yX4_copy, Cond.selects RX4 yX4_copy yX4_copy, Cond.code yX4_copy cX4_copy 3 none, Cond.methodLink RX3 30 yX4_trait, Cond.instanceMethod yX4_trait, Cond.selects RX4 yX4_trait yX4_trait, Cond.code yX4_trait cX4_trait 4 (some .int), Cond.methodLink RX9 227 yX2_begin, Cond.instanceMethod yX2_begin, Cond.selects RX2 yX2_begin yX2_begin, Cond.initialized RX2, Cond.code yX2_begin cX2_begin 3 none, Cond.fieldLink RX2 19 "DearAsMany$People" "firstOwners" "I"]
def wsX9_lay_r5 : List Cond := [Cond.fieldLink RX2 15 "DearAsMany$Holding" "owners" "I", Cond.fieldLink RX2 9 "DearAsMany$Holding" "pennies" "[I", Cond.methodLink RX2 24 yX4_trait]
def wsX9_lay : List Cond := .code yX9_lay cX9_lay 1 (some .int) :: ((wsX9_lay_r1 ++ (wsX9_lay_r2 ++ (wsX9_lay_r3 ++ (wsX9_lay_r4 ++ wsX9_lay_r5)))) ++ wsX90 ++ wsX40 ++ wsX30 ++ wsX60 ++ wsX80 ++ wsX50 ++ wsX70 ++ wsX20)
def wsX9_isPerson : List Cond := .code yX9_isPerson cX9_isPerson 2 (some .boolean) :: ([.fieldLink RX9 33 "DearAsMany" "market" "LDearAsMany$Market;", .fieldLink RX9 108 "DearAsMany$Market" "people" "LDearAsMany$People;", .fieldLink RX9 105 "DearAsMany$People" "size" "I"] ++ wsX90 ++ wsX30 ++ wsX40)
def wsX9_person_r1 : List Cond := [Cond.fieldLink RX9 56 "DearAsMany" "now" "LDearAsMany$Holding;", Cond.fieldLink RX9 33 "DearAsMany" "market" "LDearAsMany$Market;", Cond.fieldLink RX9 108 "DearAsMany$Market" "people" "LDearAsMany$People;", Cond.methodLink RX9 111 yX9_isPerson, Cond.instanceMethod yX9_isPerson, Cond.selects RX9 yX9_isPerson yX9_isPerson, Cond.initialized RX9, Cond.code yX9_isPerson cX9_isPerson 2 (some .boolean), Cond.fieldLink RX9 105 "DearAsMany$People" "size" "I", Cond.methodLink RX9 114 yX2_penniesOf, Cond.instanceMethod yX2_penniesOf, Cond.selects RX2 yX2_penniesOf yX2_penniesOf, Cond.initialized RX2, Cond.code yX2_penniesOf cX2_penniesOf 2 (some .int), Cond.fieldLink RX2 9 "DearAsMany$Holding" "pennies" "[I", Cond.static yX9_at, Cond.code yX9_at cX9_at 2 (some .int), Cond.methodLink RX9 118 yX2_owns, Cond.instanceMethod yX2_owns, Cond.selects RX2 yX2_owns yX2_owns, Cond.code yX2_owns cX2_owns 2 (some .boolean), Cond.fieldLink RX2 15 "DearAsMany$Holding" "owners" "I", Cond.static yX9_has, Cond.code yX9_has cX9_has 2 (some .boolean)]
def wsX9_person_r2 : List Cond := [Cond.methodLink RX9 156 yX9_bit, Cond.static yX9_bit, Cond.code yX9_bit cX9_bit 1 (some .int), Cond.methodLink RX9 121 yX4_trait, Cond.instanceMethod yX4_trait, Cond.selects RX4 yX4_trait yX4_trait, Cond.initialized RX4, Cond.code yX4_trait cX4_trait 4 (some .int), Cond.fieldLink RX4 9 "DearAsMany$People" "traits" "[I"]
def wsX9_person : List Cond := .code yX9_person cX9_person 3 (some .int) :: ((wsX9_person_r1 ++ wsX9_person_r2) ++ wsX90 ++ wsX30 ++ wsX40 ++ wsX20)
def wsX9_isSet : List Cond := .code yX9_isSet cX9_isSet 2 (some .boolean) :: ([.fieldLink RX9 33 "DearAsMany" "market" "LDearAsMany$Market;", .fieldLink RX9 108 "DearAsMany$Market" "people" "LDearAsMany$People;", .methodLink RX9 230 yX4_sets, .instanceMethod yX4_sets, .selects RX4 yX4_sets yX4_sets, .initialized RX4, .code yX4_sets cX4_sets 1 (some .int), .fieldLink RX4 15 "DearAsMany$People" "size" "I"] ++ wsX90 ++ wsX30 ++ wsX40)
def wsX9_season : List Cond := .code yX9_season cX9_season 1 (some .int) :: ([.fieldLink RX9 33 "DearAsMany" "market" "LDearAsMany$Market;", .fieldLink RX9 108 "DearAsMany$Market" "people" "LDearAsMany$People;", .fieldLink RX9 233 "DearAsMany$People" "season" "I"] ++ wsX90 ++ wsX30 ++ wsX40)
def wsX9_worth_r1 : List Cond := [Cond.fieldLink RX9 33 "DearAsMany" "market" "LDearAsMany$Market;", Cond.methodLink RX9 111 yX9_isPerson, Cond.instanceMethod yX9_isPerson, Cond.selects RX9 yX9_isPerson yX9_isPerson, Cond.initialized RX9, Cond.code yX9_isPerson cX9_isPerson 2 (some .boolean), Cond.fieldLink RX9 108 "DearAsMany$Market" "people" "LDearAsMany$People;", Cond.fieldLink RX9 105 "DearAsMany$People" "size" "I", Cond.methodLink RX9 125 yX9_isSet, Cond.instanceMethod yX9_isSet, Cond.selects RX9 yX9_isSet yX9_isSet, Cond.code yX9_isSet cX9_isSet 2 (some .boolean), Cond.methodLink RX9 230 yX4_sets, Cond.instanceMethod yX4_sets, Cond.selects RX4 yX4_sets yX4_sets, Cond.initialized RX4, Cond.code yX4_sets cX4_sets 1 (some .int), Cond.fieldLink RX4 15 "DearAsMany$People" "size" "I", Cond.methodLink RX9 128 yX9_season, Cond.instanceMethod yX9_season, Cond.selects RX9 yX9_season yX9_season, Cond.code yX9_season cX9_season 1 (some .int), Cond.fieldLink RX9 233 "DearAsMany$People" "season" "I", Cond.methodLink RX9 131 yX3_valueTo]
def wsX9_worth_r2 : List Cond := [Cond.instanceMethod yX3_valueTo, Cond.selects RX3 yX3_valueTo yX3_valueTo, Cond.initialized RX3, Cond.code yX3_valueTo cX3_valueTo 4 (some .int), Cond.methodLink RX3 51 yX3_othersOf, Cond.instanceMethod yX3_othersOf, Cond.selects RX3 yX3_othersOf yX3_othersOf, Cond.code yX3_othersOf cX3_othersOf 3 (some .int), Cond.fieldLink RX3 18 "DearAsMany$Market" "homes" "[I", Cond.fieldLink RX3 12 "DearAsMany$Market" "people" "LDearAsMany$People;", Cond.static yX9_at, Cond.code yX9_at cX9_at 2 (some .int), Cond.methodLink RX3 30 yX4_trait, Cond.instanceMethod yX4_trait, Cond.selects RX4 yX4_trait yX4_trait, Cond.code yX4_trait cX4_trait 4 (some .int), Cond.fieldLink RX4 9 "DearAsMany$People" "traits" "[I", Cond.static yX9_bit, Cond.code yX9_bit cX9_bit 1 (some .int), Cond.methodLink RX3 46 yJ6_bitCount_0f7a4, Cond.static yJ6_bitCount_0f7a4, Cond.initialized RJ6, Cond.code yJ6_bitCount_0f7a4 cJ6_bitCount_0f7a4 1 (some .int), Cond.constant RJ6 265 (1431655765)]
def wsX9_worth_r3 : List Cond := [Cond.constant RJ6 266 (858993459), Cond.constant RJ6 267 (252645135), Cond.methodLink RX3 54 yX3_valueWith, Cond.instanceMethod yX3_valueWith, Cond.selects RX3 yX3_valueWith yX3_valueWith, Cond.code yX3_valueWith cX3_valueWith 4 (some .int), Cond.static yX9_valueOf, Cond.code yX9_valueOf cX9_valueOf 5 (some .int)]
def wsX9_worth : List Cond := .code yX9_worth cX9_worth 3 (some .int) :: ((wsX9_worth_r1 ++ (wsX9_worth_r2 ++ wsX9_worth_r3)) ++ wsX90 ++ wsX30 ++ wsX40)
def wsX9_canPay_r1 : List Cond := [Cond.fieldLink RX9 33 "DearAsMany" "market" "LDearAsMany$Market;", Cond.fieldLink RX9 108 "DearAsMany$Market" "people" "LDearAsMany$People;", Cond.fieldLink RX9 105 "DearAsMany$People" "size" "I", Cond.fieldLink RX9 56 "DearAsMany" "now" "LDearAsMany$Holding;", Cond.fieldLink RX9 135 "DearAsMany$Holding" "owners" "I", Cond.methodLink RX9 145 yX9_has, Cond.static yX9_has, Cond.initialized RX9, Cond.code yX9_has cX9_has 2 (some .boolean), Cond.methodLink RX9 156 yX9_bit, Cond.static yX9_bit, Cond.code yX9_bit cX9_bit 1 (some .int), Cond.methodLink RX9 114 yX2_penniesOf, Cond.instanceMethod yX2_penniesOf, Cond.selects RX2 yX2_penniesOf yX2_penniesOf, Cond.initialized RX2, Cond.code yX2_penniesOf cX2_penniesOf 2 (some .int), Cond.fieldLink RX2 9 "DearAsMany$Holding" "pennies" "[I", Cond.static yX9_at, Cond.code yX9_at cX9_at 2 (some .int), Cond.methodLink RX9 149 yX3_othersOf, Cond.instanceMethod yX3_othersOf, Cond.selects RX3 yX3_othersOf yX3_othersOf, Cond.initialized RX3]
def wsX9_canPay_r2 : List Cond := [Cond.code yX3_othersOf cX3_othersOf 3 (some .int), Cond.fieldLink RX3 18 "DearAsMany$Market" "homes" "[I", Cond.fieldLink RX3 12 "DearAsMany$Market" "people" "LDearAsMany$People;", Cond.methodLink RX3 30 yX4_trait, Cond.instanceMethod yX4_trait, Cond.selects RX4 yX4_trait yX4_trait, Cond.initialized RX4, Cond.code yX4_trait cX4_trait 4 (some .int), Cond.fieldLink RX4 9 "DearAsMany$People" "traits" "[I", Cond.methodLink RX3 46 yJ6_bitCount_0f7a4, Cond.static yJ6_bitCount_0f7a4, Cond.initialized RJ6, Cond.code yJ6_bitCount_0f7a4 cJ6_bitCount_0f7a4 1 (some .int), Cond.constant RJ6 265 (1431655765), Cond.constant RJ6 266 (858993459), Cond.constant RJ6 267 (252645135)]
def wsX9_canPay : List Cond := .code yX9_canPay cX9_canPay 3 (some .boolean) :: ((wsX9_canPay_r1 ++ wsX9_canPay_r2) ++ wsX90 ++ wsX30 ++ wsX40 ++ wsX20)
def wsX9_buy_r1 : List Cond := [Cond.fieldLink RX9 56 "DearAsMany" "now" "LDearAsMany$Holding;", Cond.fieldLink RX9 135 "DearAsMany$Holding" "owners" "I", Cond.fieldLink RX9 65 "DearAsMany" "undoable" "LDearAsMany$Pile;", Cond.fieldLink RX9 33 "DearAsMany" "market" "LDearAsMany$Market;", Cond.fieldLink RX9 108 "DearAsMany$Market" "people" "LDearAsMany$People;", Cond.fieldLink RX9 105 "DearAsMany$People" "size" "I", Cond.methodLink RX9 125 yX9_isSet, Cond.instanceMethod yX9_isSet, Cond.selects RX9 yX9_isSet yX9_isSet, Cond.initialized RX9, Cond.code yX9_isSet cX9_isSet 2 (some .boolean), Cond.methodLink RX9 230 yX4_sets, Cond.instanceMethod yX4_sets, Cond.selects RX4 yX4_sets yX4_sets, Cond.initialized RX4, Cond.code yX4_sets cX4_sets 1 (some .int), Cond.fieldLink RX4 15 "DearAsMany$People" "size" "I", Cond.methodLink RX9 138 yX9_canPay, Cond.instanceMethod yX9_canPay, Cond.selects RX9 yX9_canPay yX9_canPay, Cond.code yX9_canPay cX9_canPay 3 (some .boolean), Cond.methodLink RX9 145 yX9_has, Cond.static yX9_has, Cond.code yX9_has cX9_has 2 (some .boolean)]
def wsX9_buy_r2 : List Cond := [Cond.methodLink RX9 156 yX9_bit, Cond.static yX9_bit, Cond.code yX9_bit cX9_bit 1 (some .int), Cond.methodLink RX9 114 yX2_penniesOf, Cond.instanceMethod yX2_penniesOf, Cond.selects RX2 yX2_penniesOf yX2_penniesOf, Cond.initialized RX2, Cond.code yX2_penniesOf cX2_penniesOf 2 (some .int), Cond.fieldLink RX2 9 "DearAsMany$Holding" "pennies" "[I", Cond.static yX9_at, Cond.code yX9_at cX9_at 2 (some .int), Cond.methodLink RX9 149 yX3_othersOf, Cond.instanceMethod yX3_othersOf, Cond.selects RX3 yX3_othersOf yX3_othersOf, Cond.initialized RX3, Cond.code yX3_othersOf cX3_othersOf 3 (some .int), Cond.fieldLink RX3 18 "DearAsMany$Market" "homes" "[I", Cond.fieldLink RX3 12 "DearAsMany$Market" "people" "LDearAsMany$People;", Cond.methodLink RX3 30 yX4_trait, Cond.instanceMethod yX4_trait, Cond.selects RX4 yX4_trait yX4_trait, Cond.code yX4_trait cX4_trait 4 (some .int), Cond.fieldLink RX4 9 "DearAsMany$People" "traits" "[I", Cond.methodLink RX3 46 yJ6_bitCount_0f7a4]
def wsX9_buy_r3 : List Cond := [Cond.static yJ6_bitCount_0f7a4, Cond.initialized RJ6, Cond.code yJ6_bitCount_0f7a4 cJ6_bitCount_0f7a4 1 (some .int), Cond.constant RJ6 265 (1431655765), Cond.constant RJ6 266 (858993459), Cond.constant RJ6 267 (252645135), Cond.methodLink RX9 141 yX5_pushOverOldest, Cond.instanceMethod yX5_pushOverOldest, Cond.selects RX5 yX5_pushOverOldest yX5_pushOverOldest, Cond.initialized RX5, Cond.code yX5_pushOverOldest cX5_pushOverOldest 3 none, Cond.fieldLink RX5 9 "DearAsMany$Pile" "size" "I", Cond.fieldLink RX5 15 "DearAsMany$Pile" "most" "I", Cond.fieldLink RX5 18 "DearAsMany$Pile" "rows" "[I", Cond.static yX9_put, Cond.code yX9_put cX9_put 3 none, Cond.methodLink RX5 39 yX5_push, Cond.instanceMethod yX5_push, Cond.selects RX5 yX5_push yX5_push, Cond.code yX5_push cX5_push 4 none, Cond.fieldLink RX5 32 "DearAsMany$Holding" "owners" "I", Cond.methodLink RX5 22 yX2_penniesOf, Cond.methodLink RX9 152 yX2_earn, Cond.instanceMethod yX2_earn]
def wsX9_buy_r4 : List Cond := [Cond.selects RX2 yX2_earn yX2_earn, Cond.code yX2_earn cX2_earn 3 none]
def wsX9_buy : List Cond := .code yX9_buy cX9_buy 6 (some .int) :: ((wsX9_buy_r1 ++ (wsX9_buy_r2 ++ (wsX9_buy_r3 ++ wsX9_buy_r4))) ++ wsX90 ++ wsX20 ++ wsX30 ++ wsX40 ++ wsX50)
def wsX9_toss_r1 : List Cond := [Cond.fieldLink RX9 56 "DearAsMany" "now" "LDearAsMany$Holding;", Cond.fieldLink RX9 65 "DearAsMany" "undoable" "LDearAsMany$Pile;", Cond.fieldLink RX9 135 "DearAsMany$Holding" "owners" "I", Cond.methodLink RX9 111 yX9_isPerson, Cond.instanceMethod yX9_isPerson, Cond.selects RX9 yX9_isPerson yX9_isPerson, Cond.initialized RX9, Cond.code yX9_isPerson cX9_isPerson 2 (some .boolean), Cond.fieldLink RX9 33 "DearAsMany" "market" "LDearAsMany$Market;", Cond.fieldLink RX9 108 "DearAsMany$Market" "people" "LDearAsMany$People;", Cond.fieldLink RX9 105 "DearAsMany$People" "size" "I", Cond.methodLink RX9 118 yX2_owns, Cond.instanceMethod yX2_owns, Cond.selects RX2 yX2_owns yX2_owns, Cond.initialized RX2, Cond.code yX2_owns cX2_owns 2 (some .boolean), Cond.fieldLink RX2 15 "DearAsMany$Holding" "owners" "I", Cond.static yX9_has, Cond.code yX9_has cX9_has 2 (some .boolean), Cond.methodLink RX9 156 yX9_bit, Cond.static yX9_bit, Cond.code yX9_bit cX9_bit 1 (some .int), Cond.methodLink RX9 141 yX5_pushOverOldest, Cond.instanceMethod yX5_pushOverOldest]
def wsX9_toss_r2 : List Cond := [Cond.selects RX5 yX5_pushOverOldest yX5_pushOverOldest, Cond.initialized RX5, Cond.code yX5_pushOverOldest cX5_pushOverOldest 3 none, Cond.fieldLink RX5 9 "DearAsMany$Pile" "size" "I", Cond.fieldLink RX5 15 "DearAsMany$Pile" "most" "I", Cond.fieldLink RX5 18 "DearAsMany$Pile" "rows" "[I", Cond.static yX9_at, Cond.code yX9_at cX9_at 2 (some .int), Cond.static yX9_put, Cond.code yX9_put cX9_put 3 none, Cond.methodLink RX5 39 yX5_push, Cond.instanceMethod yX5_push, Cond.selects RX5 yX5_push yX5_push, Cond.code yX5_push cX5_push 4 none, Cond.fieldLink RX5 32 "DearAsMany$Holding" "owners" "I", Cond.methodLink RX5 22 yX2_penniesOf, Cond.instanceMethod yX2_penniesOf, Cond.selects RX2 yX2_penniesOf yX2_penniesOf, Cond.code yX2_penniesOf cX2_penniesOf 2 (some .int), Cond.fieldLink RX2 9 "DearAsMany$Holding" "pennies" "[I", Cond.methodLink RX9 159 yJ6_bitCount_0f7a4, Cond.static yJ6_bitCount_0f7a4, Cond.initialized RJ6, Cond.code yJ6_bitCount_0f7a4 cJ6_bitCount_0f7a4 1 (some .int)]
def wsX9_toss_r3 : List Cond := [Cond.constant RJ6 265 (1431655765), Cond.constant RJ6 266 (858993459), Cond.constant RJ6 267 (252645135)]
def wsX9_toss : List Cond := .code yX9_toss cX9_toss 2 (some .int) :: ((wsX9_toss_r1 ++ (wsX9_toss_r2 ++ wsX9_toss_r3)) ++ wsX90 ++ wsX20 ++ wsX30 ++ wsX40 ++ wsX50)
def wsX9_sell_r1 : List Cond := [Cond.fieldLink RX9 56 "DearAsMany" "now" "LDearAsMany$Holding;", Cond.fieldLink RX9 135 "DearAsMany$Holding" "owners" "I", Cond.fieldLink RX9 33 "DearAsMany" "market" "LDearAsMany$Market;", Cond.fieldLink RX9 65 "DearAsMany" "undoable" "LDearAsMany$Pile;", Cond.methodLink RX9 111 yX9_isPerson, Cond.instanceMethod yX9_isPerson, Cond.selects RX9 yX9_isPerson yX9_isPerson, Cond.initialized RX9, Cond.code yX9_isPerson cX9_isPerson 2 (some .boolean), Cond.fieldLink RX9 108 "DearAsMany$Market" "people" "LDearAsMany$People;", Cond.fieldLink RX9 105 "DearAsMany$People" "size" "I", Cond.methodLink RX9 118 yX2_owns, Cond.instanceMethod yX2_owns, Cond.selects RX2 yX2_owns yX2_owns, Cond.initialized RX2, Cond.code yX2_owns cX2_owns 2 (some .boolean), Cond.fieldLink RX2 15 "DearAsMany$Holding" "owners" "I", Cond.static yX9_has, Cond.code yX9_has cX9_has 2 (some .boolean), Cond.methodLink RX9 156 yX9_bit, Cond.static yX9_bit, Cond.code yX9_bit cX9_bit 1 (some .int), Cond.methodLink RX9 149 yX3_othersOf, Cond.instanceMethod yX3_othersOf]
def wsX9_sell_r2 : List Cond := [Cond.selects RX3 yX3_othersOf yX3_othersOf, Cond.initialized RX3, Cond.code yX3_othersOf cX3_othersOf 3 (some .int), Cond.fieldLink RX3 18 "DearAsMany$Market" "homes" "[I", Cond.fieldLink RX3 12 "DearAsMany$Market" "people" "LDearAsMany$People;", Cond.static yX9_at, Cond.code yX9_at cX9_at 2 (some .int), Cond.methodLink RX3 30 yX4_trait, Cond.instanceMethod yX4_trait, Cond.selects RX4 yX4_trait yX4_trait, Cond.initialized RX4, Cond.code yX4_trait cX4_trait 4 (some .int), Cond.fieldLink RX4 9 "DearAsMany$People" "traits" "[I", Cond.methodLink RX3 46 yJ6_bitCount_0f7a4, Cond.static yJ6_bitCount_0f7a4, Cond.initialized RJ6, Cond.code yJ6_bitCount_0f7a4 cJ6_bitCount_0f7a4 1 (some .int), Cond.constant RJ6 265 (1431655765), Cond.constant RJ6 266 (858993459), Cond.constant RJ6 267 (252645135), Cond.methodLink RX9 114 yX2_penniesOf, Cond.instanceMethod yX2_penniesOf, Cond.selects RX2 yX2_penniesOf yX2_penniesOf, Cond.code yX2_penniesOf cX2_penniesOf 2 (some .int)]
def wsX9_sell_r3 : List Cond := [Cond.fieldLink RX2 9 "DearAsMany$Holding" "pennies" "[I", Cond.methodLink RX9 141 yX5_pushOverOldest, Cond.instanceMethod yX5_pushOverOldest, Cond.selects RX5 yX5_pushOverOldest yX5_pushOverOldest, Cond.initialized RX5, Cond.code yX5_pushOverOldest cX5_pushOverOldest 3 none, Cond.fieldLink RX5 9 "DearAsMany$Pile" "size" "I", Cond.fieldLink RX5 15 "DearAsMany$Pile" "most" "I", Cond.fieldLink RX5 18 "DearAsMany$Pile" "rows" "[I", Cond.static yX9_put, Cond.code yX9_put cX9_put 3 none, Cond.methodLink RX5 39 yX5_push, Cond.instanceMethod yX5_push, Cond.selects RX5 yX5_push yX5_push, Cond.code yX5_push cX5_push 4 none, Cond.fieldLink RX5 32 "DearAsMany$Holding" "owners" "I", Cond.methodLink RX5 22 yX2_penniesOf, Cond.methodLink RX9 152 yX2_earn, Cond.instanceMethod yX2_earn, Cond.selects RX2 yX2_earn yX2_earn, Cond.code yX2_earn cX2_earn 3 none]
def wsX9_sell : List Cond := .code yX9_sell cX9_sell 5 (some .int) :: ((wsX9_sell_r1 ++ (wsX9_sell_r2 ++ wsX9_sell_r3)) ++ wsX90 ++ wsX20 ++ wsX30 ++ wsX40 ++ wsX50)
def wsX9_undo : List Cond := .code yX9_undo cX9_undo 1 (some .int) :: ([.fieldLink RX9 65 "DearAsMany" "undoable" "LDearAsMany$Pile;", .fieldLink RX9 164 "DearAsMany$Pile" "size" "I", .fieldLink RX9 56 "DearAsMany" "now" "LDearAsMany$Holding;", .methodLink RX9 165 yX5_popInto, .instanceMethod yX5_popInto, .selects RX5 yX5_popInto yX5_popInto, .initialized RX5, .code yX5_popInto cX5_popInto 4 none, .fieldLink RX5 9 "DearAsMany$Pile" "size" "I", .fieldLink RX5 43 "DearAsMany$Holding" "pennies" "[I", .fieldLink RX5 18 "DearAsMany$Pile" "rows" "[I", .fieldLink RX5 32 "DearAsMany$Holding" "owners" "I", .static yX9_at, .initialized RX9, .code yX9_at cX9_at 2 (some .int), .static yX9_put, .code yX9_put cX9_put 3 none] ++ wsX90 ++ wsX50 ++ wsX20)
def wsX9_price_r1 : List Cond := [Cond.fieldLink RX9 56 "DearAsMany" "now" "LDearAsMany$Holding;", Cond.fieldLink RX9 33 "DearAsMany" "market" "LDearAsMany$Market;", Cond.fieldLink RX9 135 "DearAsMany$Holding" "owners" "I", Cond.methodLink RX9 111 yX9_isPerson, Cond.instanceMethod yX9_isPerson, Cond.selects RX9 yX9_isPerson yX9_isPerson, Cond.initialized RX9, Cond.code yX9_isPerson cX9_isPerson 2 (some .boolean), Cond.fieldLink RX9 108 "DearAsMany$Market" "people" "LDearAsMany$People;", Cond.fieldLink RX9 105 "DearAsMany$People" "size" "I", Cond.methodLink RX9 118 yX2_owns, Cond.instanceMethod yX2_owns, Cond.selects RX2 yX2_owns yX2_owns, Cond.initialized RX2, Cond.code yX2_owns cX2_owns 2 (some .boolean), Cond.fieldLink RX2 15 "DearAsMany$Holding" "owners" "I", Cond.static yX9_has, Cond.code yX9_has cX9_has 2 (some .boolean), Cond.methodLink RX9 156 yX9_bit, Cond.static yX9_bit, Cond.code yX9_bit cX9_bit 1 (some .int), Cond.methodLink RX9 149 yX3_othersOf, Cond.instanceMethod yX3_othersOf, Cond.selects RX3 yX3_othersOf yX3_othersOf]
def wsX9_price_r2 : List Cond := [Cond.initialized RX3, Cond.code yX3_othersOf cX3_othersOf 3 (some .int), Cond.fieldLink RX3 18 "DearAsMany$Market" "homes" "[I", Cond.fieldLink RX3 12 "DearAsMany$Market" "people" "LDearAsMany$People;", Cond.static yX9_at, Cond.code yX9_at cX9_at 2 (some .int), Cond.methodLink RX3 30 yX4_trait, Cond.instanceMethod yX4_trait, Cond.selects RX4 yX4_trait yX4_trait, Cond.initialized RX4, Cond.code yX4_trait cX4_trait 4 (some .int), Cond.fieldLink RX4 9 "DearAsMany$People" "traits" "[I", Cond.methodLink RX3 46 yJ6_bitCount_0f7a4, Cond.static yJ6_bitCount_0f7a4, Cond.initialized RJ6, Cond.code yJ6_bitCount_0f7a4 cJ6_bitCount_0f7a4 1 (some .int), Cond.constant RJ6 265 (1431655765), Cond.constant RJ6 266 (858993459), Cond.constant RJ6 267 (252645135)]
def wsX9_price : List Cond := .code yX9_price cX9_price 2 (some .int) :: ((wsX9_price_r1 ++ wsX9_price_r2) ++ wsX90 ++ wsX20 ++ wsX30 ++ wsX40)
def wsX9_isEither : List Cond := .code yX9_isEither cX9_isEither 1 (some .boolean) :: ([])
def wsX9_would_r1 : List Cond := [Cond.fieldLink RX9 33 "DearAsMany" "market" "LDearAsMany$Market;", Cond.fieldLink RX9 56 "DearAsMany" "now" "LDearAsMany$Holding;", Cond.fieldLink RX9 135 "DearAsMany$Holding" "owners" "I", Cond.methodLink RX9 168 yX9_isEither, Cond.static yX9_isEither, Cond.initialized RX9, Cond.code yX9_isEither cX9_isEither 1 (some .boolean), Cond.methodLink RX9 128 yX9_season, Cond.instanceMethod yX9_season, Cond.selects RX9 yX9_season yX9_season, Cond.code yX9_season cX9_season 1 (some .int), Cond.fieldLink RX9 108 "DearAsMany$Market" "people" "LDearAsMany$People;", Cond.fieldLink RX9 233 "DearAsMany$People" "season" "I", Cond.methodLink RX9 171 yX3_changersBy, Cond.instanceMethod yX3_changersBy, Cond.selects RX3 yX3_changersBy yX3_changersBy, Cond.initialized RX3, Cond.code yX3_changersBy cX3_changersBy 5 (some .int), Cond.fieldLink RX3 12 "DearAsMany$Market" "people" "LDearAsMany$People;", Cond.fieldLink RX3 26 "DearAsMany$People" "size" "I", Cond.methodLink RX3 66 yX3_changes, Cond.instanceMethod yX3_changes, Cond.selects RX3 yX3_changes yX3_changes, Cond.code yX3_changes cX3_changes 6 (some .boolean)]
def wsX9_would_r2 : List Cond := [Cond.methodLink RX3 51 yX3_othersOf, Cond.instanceMethod yX3_othersOf, Cond.selects RX3 yX3_othersOf yX3_othersOf, Cond.code yX3_othersOf cX3_othersOf 3 (some .int), Cond.fieldLink RX3 18 "DearAsMany$Market" "homes" "[I", Cond.static yX9_at, Cond.code yX9_at cX9_at 2 (some .int), Cond.methodLink RX3 30 yX4_trait, Cond.instanceMethod yX4_trait, Cond.selects RX4 yX4_trait yX4_trait, Cond.initialized RX4, Cond.code yX4_trait cX4_trait 4 (some .int), Cond.fieldLink RX4 9 "DearAsMany$People" "traits" "[I", Cond.static yX9_bit, Cond.code yX9_bit cX9_bit 1 (some .int), Cond.methodLink RX3 46 yJ6_bitCount_0f7a4, Cond.static yJ6_bitCount_0f7a4, Cond.initialized RJ6, Cond.code yJ6_bitCount_0f7a4 cJ6_bitCount_0f7a4 1 (some .int), Cond.constant RJ6 265 (1431655765), Cond.constant RJ6 266 (858993459), Cond.constant RJ6 267 (252645135), Cond.methodLink RX3 54 yX3_valueWith, Cond.instanceMethod yX3_valueWith]
def wsX9_would_r3 : List Cond := [Cond.selects RX3 yX3_valueWith yX3_valueWith, Cond.code yX3_valueWith cX3_valueWith 4 (some .int), Cond.static yX9_valueOf, Cond.code yX9_valueOf cX9_valueOf 5 (some .int), Cond.static yX9_has, Cond.code yX9_has cX9_has 2 (some .boolean), Cond.methodLink RX9 156 yX9_bit]
def wsX9_would : List Cond := .code yX9_would cX9_would 3 (some .int) :: ((wsX9_would_r1 ++ (wsX9_would_r2 ++ wsX9_would_r3)) ++ wsX90 ++ wsX20 ++ wsX30 ++ wsX40)
def wsX9_behind_r1 : List Cond := [Cond.fieldLink RX9 42 "DearAsMany" "course" "LDearAsMany$Course;", Cond.fieldLink RX9 56 "DearAsMany" "now" "LDearAsMany$Holding;", Cond.fieldLink RX9 135 "DearAsMany$Holding" "owners" "I", Cond.methodLink RX9 174 yX1_ownersBehind, Cond.instanceMethod yX1_ownersBehind, Cond.selects RX1 yX1_ownersBehind yX1_ownersBehind, Cond.initialized RX1, Cond.code yX1_ownersBehind cX1_ownersBehind 7 (some .int), Cond.fieldLink RX1 15 "DearAsMany$Course" "market" "LDearAsMany$Market;", Cond.fieldLink RX1 19 "DearAsMany$Market" "people" "LDearAsMany$People;", Cond.fieldLink RX1 25 "DearAsMany$People" "season" "I", Cond.methodLink RX1 31 yX3_nextOwners, Cond.instanceMethod yX3_nextOwners, Cond.selects RX3 yX3_nextOwners yX3_nextOwners, Cond.initialized RX3, Cond.code yX3_nextOwners cX3_nextOwners 6 (some .int), Cond.fieldLink RX3 12 "DearAsMany$Market" "people" "LDearAsMany$People;", Cond.fieldLink RX3 26 "DearAsMany$People" "size" "I", Cond.methodLink RX3 66 yX3_changes, Cond.instanceMethod yX3_changes, Cond.selects RX3 yX3_changes yX3_changes, Cond.code yX3_changes cX3_changes 6 (some .boolean), Cond.methodLink RX3 51 yX3_othersOf, Cond.instanceMethod yX3_othersOf]
def wsX9_behind_r2 : List Cond := [Cond.selects RX3 yX3_othersOf yX3_othersOf, Cond.code yX3_othersOf cX3_othersOf 3 (some .int), Cond.fieldLink RX3 18 "DearAsMany$Market" "homes" "[I", Cond.static yX9_at, Cond.initialized RX9, Cond.code yX9_at cX9_at 2 (some .int), Cond.methodLink RX3 30 yX4_trait, Cond.instanceMethod yX4_trait, Cond.selects RX4 yX4_trait yX4_trait, Cond.initialized RX4, Cond.code yX4_trait cX4_trait 4 (some .int), Cond.fieldLink RX4 9 "DearAsMany$People" "traits" "[I", Cond.static yX9_bit, Cond.code yX9_bit cX9_bit 1 (some .int), Cond.methodLink RX3 46 yJ6_bitCount_0f7a4, Cond.static yJ6_bitCount_0f7a4, Cond.initialized RJ6, Cond.code yJ6_bitCount_0f7a4 cJ6_bitCount_0f7a4 1 (some .int), Cond.constant RJ6 265 (1431655765), Cond.constant RJ6 266 (858993459), Cond.constant RJ6 267 (252645135), Cond.methodLink RX3 54 yX3_valueWith, Cond.instanceMethod yX3_valueWith, Cond.selects RX3 yX3_valueWith yX3_valueWith]
def wsX9_behind_r3 : List Cond := [Cond.code yX3_valueWith cX3_valueWith 4 (some .int), Cond.static yX9_valueOf, Cond.code yX9_valueOf cX9_valueOf 5 (some .int), Cond.static yX9_has, Cond.code yX9_has cX9_has 2 (some .boolean), Cond.methodLink RX9 156 yX9_bit]
def wsX9_behind : List Cond := .code yX9_behind cX9_behind 3 (some .int) :: ((wsX9_behind_r1 ++ (wsX9_behind_r2 ++ wsX9_behind_r3)) ++ wsX90 ++ wsX20 ++ wsX10 ++ wsX30 ++ wsX40)
def wsX9_rest_r1 : List Cond := [Cond.fieldLink RX9 42 "DearAsMany" "course" "LDearAsMany$Course;", Cond.fieldLink RX9 56 "DearAsMany" "now" "LDearAsMany$Holding;", Cond.fieldLink RX9 135 "DearAsMany$Holding" "owners" "I", Cond.methodLink RX9 168 yX9_isEither, Cond.static yX9_isEither, Cond.initialized RX9, Cond.code yX9_isEither cX9_isEither 1 (some .boolean), Cond.methodLink RX9 178 yX1_roundsToRest, Cond.instanceMethod yX1_roundsToRest, Cond.selects RX1 yX1_roundsToRest yX1_roundsToRest, Cond.initialized RX1, Cond.code yX1_roundsToRest cX1_roundsToRest 7 (some .int), Cond.fieldLink RX1 15 "DearAsMany$Course" "market" "LDearAsMany$Market;", Cond.fieldLink RX1 19 "DearAsMany$Market" "people" "LDearAsMany$People;", Cond.fieldLink RX1 25 "DearAsMany$People" "season" "I", Cond.methodLink RX1 31 yX3_nextOwners, Cond.instanceMethod yX3_nextOwners, Cond.selects RX3 yX3_nextOwners yX3_nextOwners, Cond.initialized RX3, Cond.code yX3_nextOwners cX3_nextOwners 6 (some .int), Cond.fieldLink RX3 12 "DearAsMany$Market" "people" "LDearAsMany$People;", Cond.fieldLink RX3 26 "DearAsMany$People" "size" "I", Cond.methodLink RX3 66 yX3_changes, Cond.instanceMethod yX3_changes]
def wsX9_rest_r2 : List Cond := [Cond.selects RX3 yX3_changes yX3_changes, Cond.code yX3_changes cX3_changes 6 (some .boolean), Cond.methodLink RX3 51 yX3_othersOf, Cond.instanceMethod yX3_othersOf, Cond.selects RX3 yX3_othersOf yX3_othersOf, Cond.code yX3_othersOf cX3_othersOf 3 (some .int), Cond.fieldLink RX3 18 "DearAsMany$Market" "homes" "[I", Cond.static yX9_at, Cond.code yX9_at cX9_at 2 (some .int), Cond.methodLink RX3 30 yX4_trait, Cond.instanceMethod yX4_trait, Cond.selects RX4 yX4_trait yX4_trait, Cond.initialized RX4, Cond.code yX4_trait cX4_trait 4 (some .int), Cond.fieldLink RX4 9 "DearAsMany$People" "traits" "[I", Cond.static yX9_bit, Cond.code yX9_bit cX9_bit 1 (some .int), Cond.methodLink RX3 46 yJ6_bitCount_0f7a4, Cond.static yJ6_bitCount_0f7a4, Cond.initialized RJ6, Cond.code yJ6_bitCount_0f7a4 cJ6_bitCount_0f7a4 1 (some .int), Cond.constant RJ6 265 (1431655765), Cond.constant RJ6 266 (858993459), Cond.constant RJ6 267 (252645135)]
def wsX9_rest_r3 : List Cond := [Cond.methodLink RX3 54 yX3_valueWith, Cond.instanceMethod yX3_valueWith, Cond.selects RX3 yX3_valueWith yX3_valueWith, Cond.code yX3_valueWith cX3_valueWith 4 (some .int), Cond.static yX9_valueOf, Cond.code yX9_valueOf cX9_valueOf 5 (some .int), Cond.static yX9_has, Cond.code yX9_has cX9_has 2 (some .boolean), Cond.methodLink RX9 156 yX9_bit, Cond.methodLink RX9 182 yX1_roundsOfSwing, Cond.instanceMethod yX1_roundsOfSwing, Cond.selects RX1 yX1_roundsOfSwing yX1_roundsOfSwing, Cond.code yX1_roundsOfSwing cX1_roundsOfSwing 7 (some .int), Cond.methodLink RX1 35 yX1_ownersBehind, Cond.instanceMethod yX1_ownersBehind, Cond.selects RX1 yX1_ownersBehind yX1_ownersBehind, Cond.code yX1_ownersBehind cX1_ownersBehind 7 (some .int)]
def wsX9_rest : List Cond := .code yX9_rest cX9_rest 3 (some .int) :: ((wsX9_rest_r1 ++ (wsX9_rest_r2 ++ wsX9_rest_r3)) ++ wsX90 ++ wsX20 ++ wsX10 ++ wsX30 ++ wsX40)
def wsX9_rests_r1 : List Cond := [Cond.fieldLink RX9 42 "DearAsMany" "course" "LDearAsMany$Course;", Cond.methodLink RX9 185 yX1_countRests, Cond.instanceMethod yX1_countRests, Cond.selects RX1 yX1_countRests yX1_countRests, Cond.initialized RX1, Cond.code yX1_countRests cX1_countRests 3 (some .int), Cond.fieldLink RX1 15 "DearAsMany$Course" "market" "LDearAsMany$Market;", Cond.fieldLink RX1 19 "DearAsMany$Market" "people" "LDearAsMany$People;", Cond.methodLink RX1 43 yX4_sets, Cond.instanceMethod yX4_sets, Cond.selects RX4 yX4_sets yX4_sets, Cond.initialized RX4, Cond.code yX4_sets cX4_sets 1 (some .int), Cond.fieldLink RX4 15 "DearAsMany$People" "size" "I", Cond.methodLink RX1 47 yX1_restsWith, Cond.instanceMethod yX1_restsWith, Cond.selects RX1 yX1_restsWith yX1_restsWith, Cond.code yX1_restsWith cX1_restsWith 2 (some .boolean), Cond.fieldLink RX1 25 "DearAsMany$People" "season" "I", Cond.methodLink RX1 39 yX3_changersBy, Cond.instanceMethod yX3_changersBy, Cond.selects RX3 yX3_changersBy yX3_changersBy, Cond.initialized RX3, Cond.code yX3_changersBy cX3_changersBy 5 (some .int)]
def wsX9_rests_r2 : List Cond := [Cond.fieldLink RX3 12 "DearAsMany$Market" "people" "LDearAsMany$People;", Cond.fieldLink RX3 26 "DearAsMany$People" "size" "I", Cond.methodLink RX3 66 yX3_changes, Cond.instanceMethod yX3_changes, Cond.selects RX3 yX3_changes yX3_changes, Cond.code yX3_changes cX3_changes 6 (some .boolean), Cond.methodLink RX3 51 yX3_othersOf, Cond.instanceMethod yX3_othersOf, Cond.selects RX3 yX3_othersOf yX3_othersOf, Cond.code yX3_othersOf cX3_othersOf 3 (some .int), Cond.fieldLink RX3 18 "DearAsMany$Market" "homes" "[I", Cond.static yX9_at, Cond.initialized RX9, Cond.code yX9_at cX9_at 2 (some .int), Cond.methodLink RX3 30 yX4_trait, Cond.instanceMethod yX4_trait, Cond.selects RX4 yX4_trait yX4_trait, Cond.code yX4_trait cX4_trait 4 (some .int), Cond.fieldLink RX4 9 "DearAsMany$People" "traits" "[I", Cond.static yX9_bit, Cond.code yX9_bit cX9_bit 1 (some .int), Cond.methodLink RX3 46 yJ6_bitCount_0f7a4, Cond.static yJ6_bitCount_0f7a4, Cond.initialized RJ6]
def wsX9_rests_r3 : List Cond := [Cond.code yJ6_bitCount_0f7a4 cJ6_bitCount_0f7a4 1 (some .int), Cond.constant RJ6 265 (1431655765), Cond.constant RJ6 266 (858993459), Cond.constant RJ6 267 (252645135), Cond.methodLink RX3 54 yX3_valueWith, Cond.instanceMethod yX3_valueWith, Cond.selects RX3 yX3_valueWith yX3_valueWith, Cond.code yX3_valueWith cX3_valueWith 4 (some .int), Cond.static yX9_valueOf, Cond.code yX9_valueOf cX9_valueOf 5 (some .int), Cond.static yX9_has, Cond.code yX9_has cX9_has 2 (some .boolean), Cond.methodLink RX9 156 yX9_bit, Cond.methodLink RX9 188 yX1_restAt, Cond.instanceMethod yX1_restAt, Cond.selects RX1 yX1_restAt yX1_restAt, Cond.code yX1_restAt cX1_restAt 4 (some .int)]
def wsX9_rests : List Cond := .code yX9_rests cX9_rests 2 (some .int) :: ((wsX9_rests_r1 ++ (wsX9_rests_r2 ++ wsX9_rests_r3)) ++ wsX90 ++ wsX10 ++ wsX30 ++ wsX40)
def wsX9_tip_r1 : List Cond := [Cond.fieldLink RX9 42 "DearAsMany" "course" "LDearAsMany$Course;", Cond.fieldLink RX9 56 "DearAsMany" "now" "LDearAsMany$Holding;", Cond.fieldLink RX9 135 "DearAsMany$Holding" "owners" "I", Cond.methodLink RX9 125 yX9_isSet, Cond.instanceMethod yX9_isSet, Cond.selects RX9 yX9_isSet yX9_isSet, Cond.initialized RX9, Cond.code yX9_isSet cX9_isSet 2 (some .boolean), Cond.fieldLink RX9 33 "DearAsMany" "market" "LDearAsMany$Market;", Cond.fieldLink RX9 108 "DearAsMany$Market" "people" "LDearAsMany$People;", Cond.methodLink RX9 230 yX4_sets, Cond.instanceMethod yX4_sets, Cond.selects RX4 yX4_sets yX4_sets, Cond.initialized RX4, Cond.code yX4_sets cX4_sets 1 (some .int), Cond.fieldLink RX4 15 "DearAsMany$People" "size" "I", Cond.methodLink RX9 168 yX9_isEither, Cond.static yX9_isEither, Cond.code yX9_isEither cX9_isEither 1 (some .boolean), Cond.methodLink RX9 191 yX1_leastPush, Cond.instanceMethod yX1_leastPush, Cond.selects RX1 yX1_leastPush yX1_leastPush, Cond.initialized RX1, Cond.code yX1_leastPush cX1_leastPush 8 (some .int)]
def wsX9_tip_r2 : List Cond := [Cond.fieldLink RX1 15 "DearAsMany$Course" "market" "LDearAsMany$Market;", Cond.fieldLink RX1 19 "DearAsMany$Market" "people" "LDearAsMany$People;", Cond.fieldLink RX1 9 "DearAsMany$Course" "onward" "[I", Cond.methodLink RX1 47 yX1_restsWith, Cond.instanceMethod yX1_restsWith, Cond.selects RX1 yX1_restsWith yX1_restsWith, Cond.code yX1_restsWith cX1_restsWith 2 (some .boolean), Cond.fieldLink RX1 25 "DearAsMany$People" "season" "I", Cond.methodLink RX1 39 yX3_changersBy, Cond.instanceMethod yX3_changersBy, Cond.selects RX3 yX3_changersBy yX3_changersBy, Cond.initialized RX3, Cond.code yX3_changersBy cX3_changersBy 5 (some .int), Cond.fieldLink RX3 12 "DearAsMany$Market" "people" "LDearAsMany$People;", Cond.fieldLink RX3 26 "DearAsMany$People" "size" "I", Cond.methodLink RX3 66 yX3_changes, Cond.instanceMethod yX3_changes, Cond.selects RX3 yX3_changes yX3_changes, Cond.code yX3_changes cX3_changes 6 (some .boolean), Cond.methodLink RX3 51 yX3_othersOf, Cond.instanceMethod yX3_othersOf, Cond.selects RX3 yX3_othersOf yX3_othersOf, Cond.code yX3_othersOf cX3_othersOf 3 (some .int), Cond.fieldLink RX3 18 "DearAsMany$Market" "homes" "[I"]
def wsX9_tip_r3 : List Cond := [Cond.static yX9_at, Cond.code yX9_at cX9_at 2 (some .int), Cond.methodLink RX3 30 yX4_trait, Cond.instanceMethod yX4_trait, Cond.selects RX4 yX4_trait yX4_trait, Cond.code yX4_trait cX4_trait 4 (some .int), Cond.fieldLink RX4 9 "DearAsMany$People" "traits" "[I", Cond.static yX9_bit, Cond.code yX9_bit cX9_bit 1 (some .int), Cond.methodLink RX3 46 yJ6_bitCount_0f7a4, Cond.static yJ6_bitCount_0f7a4, Cond.initialized RJ6, Cond.code yJ6_bitCount_0f7a4 cJ6_bitCount_0f7a4 1 (some .int), Cond.constant RJ6 265 (1431655765), Cond.constant RJ6 266 (858993459), Cond.constant RJ6 267 (252645135), Cond.methodLink RX3 54 yX3_valueWith, Cond.instanceMethod yX3_valueWith, Cond.selects RX3 yX3_valueWith yX3_valueWith, Cond.code yX3_valueWith cX3_valueWith 4 (some .int), Cond.static yX9_valueOf, Cond.code yX9_valueOf cX9_valueOf 5 (some .int), Cond.static yX9_has, Cond.code yX9_has cX9_has 2 (some .boolean)]
def wsX9_tip_r4 : List Cond := [Cond.methodLink RX9 156 yX9_bit, Cond.methodLink RX1 51 yX1_lookFarAhead, Cond.instanceMethod yX1_lookFarAhead, Cond.selects RX1 yX1_lookFarAhead yX1_lookFarAhead, Cond.code yX1_lookFarAhead cX1_lookFarAhead 5 none, Cond.methodLink RX1 43 yX4_sets, Cond.methodLink RX1 31 yX3_nextOwners, Cond.instanceMethod yX3_nextOwners, Cond.selects RX3 yX3_nextOwners yX3_nextOwners, Cond.code yX3_nextOwners cX3_nextOwners 6 (some .int), Cond.static yX9_put, Cond.code yX9_put cX9_put 3 none, Cond.methodLink RX1 55 yJ6_bitCount_0f7a4, Cond.methodLink RX9 159 yJ6_bitCount_0f7a4]
def wsX9_tip : List Cond := .code yX9_tip cX9_tip 5 (some .int) :: ((wsX9_tip_r1 ++ (wsX9_tip_r2 ++ (wsX9_tip_r3 ++ wsX9_tip_r4))) ++ wsX90 ++ wsX20 ++ wsX30 ++ wsX40 ++ wsX10)
def wsX9_place_r1 : List Cond := [Cond.fieldLink RX9 56 "DearAsMany" "now" "LDearAsMany$Holding;", Cond.fieldLink RX9 49 "DearAsMany" "counsel" "LDearAsMany$Counsel;", Cond.fieldLink RX9 135 "DearAsMany$Holding" "owners" "I", Cond.methodLink RX9 111 yX9_isPerson, Cond.instanceMethod yX9_isPerson, Cond.selects RX9 yX9_isPerson yX9_isPerson, Cond.initialized RX9, Cond.code yX9_isPerson cX9_isPerson 2 (some .boolean), Cond.fieldLink RX9 33 "DearAsMany" "market" "LDearAsMany$Market;", Cond.fieldLink RX9 108 "DearAsMany$Market" "people" "LDearAsMany$People;", Cond.fieldLink RX9 105 "DearAsMany$People" "size" "I", Cond.methodLink RX9 168 yX9_isEither, Cond.static yX9_isEither, Cond.code yX9_isEither cX9_isEither 1 (some .boolean), Cond.methodLink RX9 118 yX2_owns, Cond.instanceMethod yX2_owns, Cond.selects RX2 yX2_owns yX2_owns, Cond.initialized RX2, Cond.code yX2_owns cX2_owns 2 (some .boolean), Cond.fieldLink RX2 15 "DearAsMany$Holding" "owners" "I", Cond.static yX9_has, Cond.code yX9_has cX9_has 2 (some .boolean), Cond.methodLink RX9 156 yX9_bit, Cond.static yX9_bit]
def wsX9_place_r2 : List Cond := [Cond.code yX9_bit cX9_bit 1 (some .int), Cond.methodLink RX9 194 yX0_bestAhead, Cond.instanceMethod yX0_bestAhead, Cond.selects RX0 yX0_bestAhead yX0_bestAhead, Cond.initialized RX0, Cond.code yX0_bestAhead cX0_bestAhead 8 (some .int), Cond.fieldLink RX0 9 "DearAsMany$Counsel" "market" "LDearAsMany$Market;", Cond.fieldLink RX0 15 "DearAsMany$Market" "people" "LDearAsMany$People;", Cond.fieldLink RX0 21 "DearAsMany$People" "size" "I", Cond.methodLink RX0 27 yJ6_bitCount_0f7a4, Cond.static yJ6_bitCount_0f7a4, Cond.initialized RJ6, Cond.code yJ6_bitCount_0f7a4 cJ6_bitCount_0f7a4 1 (some .int), Cond.constant RJ6 265 (1431655765), Cond.constant RJ6 266 (858993459), Cond.constant RJ6 267 (252645135), Cond.methodLink RX0 33 yX0_gainBehind, Cond.instanceMethod yX0_gainBehind, Cond.selects RX0 yX0_gainBehind yX0_gainBehind, Cond.code yX0_gainBehind cX0_gainBehind 8 (some .int), Cond.fieldLink RX0 48 "DearAsMany$People" "season" "I", Cond.methodLink RX0 41 yX3_othersOf, Cond.instanceMethod yX3_othersOf, Cond.selects RX3 yX3_othersOf yX3_othersOf]
def wsX9_place_r3 : List Cond := [Cond.initialized RX3, Cond.code yX3_othersOf cX3_othersOf 3 (some .int), Cond.fieldLink RX3 18 "DearAsMany$Market" "homes" "[I", Cond.fieldLink RX3 12 "DearAsMany$Market" "people" "LDearAsMany$People;", Cond.static yX9_at, Cond.code yX9_at cX9_at 2 (some .int), Cond.methodLink RX3 30 yX4_trait, Cond.instanceMethod yX4_trait, Cond.selects RX4 yX4_trait yX4_trait, Cond.initialized RX4, Cond.code yX4_trait cX4_trait 4 (some .int), Cond.fieldLink RX4 9 "DearAsMany$People" "traits" "[I", Cond.methodLink RX3 46 yJ6_bitCount_0f7a4, Cond.methodLink RX0 51 yX3_wants, Cond.instanceMethod yX3_wants, Cond.selects RX3 yX3_wants yX3_wants, Cond.code yX3_wants cX3_wants 5 (some .boolean), Cond.methodLink RX3 51 yX3_othersOf, Cond.methodLink RX3 54 yX3_valueWith, Cond.instanceMethod yX3_valueWith, Cond.selects RX3 yX3_valueWith yX3_valueWith, Cond.code yX3_valueWith cX3_valueWith 4 (some .int), Cond.static yX9_valueOf, Cond.code yX9_valueOf cX9_valueOf 5 (some .int)]
def wsX9_place_r4 : List Cond := [Cond.methodLink RX0 55 yX3_valueTo, Cond.instanceMethod yX3_valueTo, Cond.selects RX3 yX3_valueTo yX3_valueTo, Cond.code yX3_valueTo cX3_valueTo 4 (some .int), Cond.methodLink RX9 197 yX0_gainBehind]
def wsX9_place : List Cond := .code yX9_place cX9_place 4 (some .int) :: ((wsX9_place_r1 ++ (wsX9_place_r2 ++ (wsX9_place_r3 ++ wsX9_place_r4))) ++ wsX90 ++ wsX20 ++ wsX30 ++ wsX40 ++ wsX00)
def wsX9_burn_r1 : List Cond := [Cond.fieldLink RX9 56 "DearAsMany" "now" "LDearAsMany$Holding;", Cond.fieldLink RX9 49 "DearAsMany" "counsel" "LDearAsMany$Counsel;", Cond.fieldLink RX9 135 "DearAsMany$Holding" "owners" "I", Cond.methodLink RX9 111 yX9_isPerson, Cond.instanceMethod yX9_isPerson, Cond.selects RX9 yX9_isPerson yX9_isPerson, Cond.initialized RX9, Cond.code yX9_isPerson cX9_isPerson 2 (some .boolean), Cond.fieldLink RX9 33 "DearAsMany" "market" "LDearAsMany$Market;", Cond.fieldLink RX9 108 "DearAsMany$Market" "people" "LDearAsMany$People;", Cond.fieldLink RX9 105 "DearAsMany$People" "size" "I", Cond.methodLink RX9 118 yX2_owns, Cond.instanceMethod yX2_owns, Cond.selects RX2 yX2_owns yX2_owns, Cond.initialized RX2, Cond.code yX2_owns cX2_owns 2 (some .boolean), Cond.fieldLink RX2 15 "DearAsMany$Holding" "owners" "I", Cond.static yX9_has, Cond.code yX9_has cX9_has 2 (some .boolean), Cond.methodLink RX9 156 yX9_bit, Cond.static yX9_bit, Cond.code yX9_bit cX9_bit 1 (some .int), Cond.methodLink RX9 200 yX0_leastBurnt, Cond.instanceMethod yX0_leastBurnt]
def wsX9_burn_r2 : List Cond := [Cond.selects RX0 yX0_leastBurnt yX0_leastBurnt, Cond.initialized RX0, Cond.code yX0_leastBurnt cX0_leastBurnt 8 (some .int), Cond.fieldLink RX0 9 "DearAsMany$Counsel" "market" "LDearAsMany$Market;", Cond.fieldLink RX0 15 "DearAsMany$Market" "people" "LDearAsMany$People;", Cond.fieldLink RX0 48 "DearAsMany$People" "season" "I", Cond.methodLink RX0 27 yJ6_bitCount_0f7a4, Cond.static yJ6_bitCount_0f7a4, Cond.initialized RJ6, Cond.code yJ6_bitCount_0f7a4 cJ6_bitCount_0f7a4 1 (some .int), Cond.constant RJ6 265 (1431655765), Cond.constant RJ6 266 (858993459), Cond.constant RJ6 267 (252645135), Cond.methodLink RX0 51 yX3_wants, Cond.instanceMethod yX3_wants, Cond.selects RX3 yX3_wants yX3_wants, Cond.initialized RX3, Cond.code yX3_wants cX3_wants 5 (some .boolean), Cond.methodLink RX3 51 yX3_othersOf, Cond.instanceMethod yX3_othersOf, Cond.selects RX3 yX3_othersOf yX3_othersOf, Cond.code yX3_othersOf cX3_othersOf 3 (some .int), Cond.fieldLink RX3 18 "DearAsMany$Market" "homes" "[I", Cond.fieldLink RX3 12 "DearAsMany$Market" "people" "LDearAsMany$People;"]
def wsX9_burn_r3 : List Cond := [Cond.static yX9_at, Cond.code yX9_at cX9_at 2 (some .int), Cond.methodLink RX3 30 yX4_trait, Cond.instanceMethod yX4_trait, Cond.selects RX4 yX4_trait yX4_trait, Cond.initialized RX4, Cond.code yX4_trait cX4_trait 4 (some .int), Cond.fieldLink RX4 9 "DearAsMany$People" "traits" "[I", Cond.methodLink RX3 46 yJ6_bitCount_0f7a4, Cond.methodLink RX3 54 yX3_valueWith, Cond.instanceMethod yX3_valueWith, Cond.selects RX3 yX3_valueWith yX3_valueWith, Cond.code yX3_valueWith cX3_valueWith 4 (some .int), Cond.static yX9_valueOf, Cond.code yX9_valueOf cX9_valueOf 5 (some .int)]
def wsX9_burn : List Cond := .code yX9_burn cX9_burn 2 (some .int) :: ((wsX9_burn_r1 ++ (wsX9_burn_r2 ++ wsX9_burn_r3)) ++ wsX90 ++ wsX20 ++ wsX30 ++ wsX40 ++ wsX00)
def wsX9_share_r1 : List Cond := [Cond.fieldLink RX9 49 "DearAsMany" "counsel" "LDearAsMany$Counsel;", Cond.fieldLink RX9 56 "DearAsMany" "now" "LDearAsMany$Holding;", Cond.fieldLink RX9 135 "DearAsMany$Holding" "owners" "I", Cond.methodLink RX9 203 yX0_bestPair, Cond.instanceMethod yX0_bestPair, Cond.selects RX0 yX0_bestPair yX0_bestPair, Cond.initialized RX0, Cond.code yX0_bestPair cX0_bestPair 7 (some .int), Cond.fieldLink RX0 9 "DearAsMany$Counsel" "market" "LDearAsMany$Market;", Cond.fieldLink RX0 15 "DearAsMany$Market" "people" "LDearAsMany$People;", Cond.fieldLink RX0 21 "DearAsMany$People" "size" "I", Cond.static yX9_has, Cond.initialized RX9, Cond.code yX9_has cX9_has 2 (some .boolean), Cond.methodLink RX9 156 yX9_bit, Cond.static yX9_bit, Cond.code yX9_bit cX9_bit 1 (some .int), Cond.methodLink RX0 58 yX0_gainTogether, Cond.instanceMethod yX0_gainTogether, Cond.selects RX0 yX0_gainTogether yX0_gainTogether, Cond.code yX0_gainTogether cX0_gainTogether 6 (some .int), Cond.fieldLink RX0 48 "DearAsMany$People" "season" "I", Cond.methodLink RX0 41 yX3_othersOf, Cond.instanceMethod yX3_othersOf]
def wsX9_share_r2 : List Cond := [Cond.selects RX3 yX3_othersOf yX3_othersOf, Cond.initialized RX3, Cond.code yX3_othersOf cX3_othersOf 3 (some .int), Cond.fieldLink RX3 18 "DearAsMany$Market" "homes" "[I", Cond.fieldLink RX3 12 "DearAsMany$Market" "people" "LDearAsMany$People;", Cond.static yX9_at, Cond.code yX9_at cX9_at 2 (some .int), Cond.methodLink RX3 30 yX4_trait, Cond.instanceMethod yX4_trait, Cond.selects RX4 yX4_trait yX4_trait, Cond.initialized RX4, Cond.code yX4_trait cX4_trait 4 (some .int), Cond.fieldLink RX4 9 "DearAsMany$People" "traits" "[I", Cond.methodLink RX3 46 yJ6_bitCount_0f7a4, Cond.static yJ6_bitCount_0f7a4, Cond.initialized RJ6, Cond.code yJ6_bitCount_0f7a4 cJ6_bitCount_0f7a4 1 (some .int), Cond.constant RJ6 265 (1431655765), Cond.constant RJ6 266 (858993459), Cond.constant RJ6 267 (252645135), Cond.methodLink RX0 61 yX3_valueWith, Cond.instanceMethod yX3_valueWith, Cond.selects RX3 yX3_valueWith yX3_valueWith, Cond.code yX3_valueWith cX3_valueWith 4 (some .int)]
def wsX9_share_r3 : List Cond := [Cond.static yX9_valueOf, Cond.code yX9_valueOf cX9_valueOf 5 (some .int)]
def wsX9_share : List Cond := .code yX9_share cX9_share 1 (some .int) :: ((wsX9_share_r1 ++ (wsX9_share_r2 ++ wsX9_share_r3)) ++ wsX90 ++ wsX20 ++ wsX00 ++ wsX30 ++ wsX40)
def wsX9_seen : List Cond := .code yX9_seen cX9_seen 4 (some .int) :: ([.fieldLink RX9 75 "DearAsMany" "sightings" "LDearAsMany$Sightings;", .fieldLink RX9 206 "DearAsMany$Sightings" "size" "I", .methodLink RX9 111 yX9_isPerson, .instanceMethod yX9_isPerson, .selects RX9 yX9_isPerson yX9_isPerson, .initialized RX9, .code yX9_isPerson cX9_isPerson 2 (some .boolean), .fieldLink RX9 33 "DearAsMany" "market" "LDearAsMany$Market;", .fieldLink RX9 108 "DearAsMany$Market" "people" "LDearAsMany$People;", .fieldLink RX9 105 "DearAsMany$People" "size" "I", .methodLink RX9 207 yX7_add, .instanceMethod yX7_add, .selects RX7 yX7_add yX7_add, .initialized RX7, .code yX7_add cX7_add 4 none, .fieldLink RX7 22 "DearAsMany$Sightings" "size" "I", .fieldLink RX7 18 "DearAsMany$Sightings" "purchases" "[Z", .fieldLink RX7 9 "DearAsMany$Sightings" "persons" "[I", .fieldLink RX7 15 "DearAsMany$Sightings" "others" "[I", .static yX9_put, .code yX9_put cX9_put 3 none] ++ wsX90 ++ wsX70 ++ wsX30 ++ wsX40)
def wsX9_forget : List Cond := .code yX9_forget cX9_forget 2 (some .int) :: ([.fieldLink RX9 75 "DearAsMany" "sightings" "LDearAsMany$Sightings;", .fieldLink RX9 206 "DearAsMany$Sightings" "size" "I"] ++ wsX90 ++ wsX70)
def wsX9_likes_r1 : List Cond := [Cond.fieldLink RX9 75 "DearAsMany" "sightings" "LDearAsMany$Sightings;", Cond.fieldLink RX9 33 "DearAsMany" "market" "LDearAsMany$Market;", Cond.fieldLink RX9 108 "DearAsMany$Market" "people" "LDearAsMany$People;", Cond.methodLink RX9 111 yX9_isPerson, Cond.instanceMethod yX9_isPerson, Cond.selects RX9 yX9_isPerson yX9_isPerson, Cond.initialized RX9, Cond.code yX9_isPerson cX9_isPerson 2 (some .boolean), Cond.fieldLink RX9 105 "DearAsMany$People" "size" "I", Cond.methodLink RX9 168 yX9_isEither, Cond.static yX9_isEither, Cond.code yX9_isEither cX9_isEither 1 (some .boolean), Cond.methodLink RX9 210 yX7_fit, Cond.instanceMethod yX7_fit, Cond.selects RX7 yX7_fit yX7_fit, Cond.initialized RX7, Cond.code yX7_fit cX7_fit 7 (some .boolean), Cond.fieldLink RX7 22 "DearAsMany$Sightings" "size" "I", Cond.fieldLink RX7 18 "DearAsMany$Sightings" "purchases" "[Z", Cond.fieldLink RX7 15 "DearAsMany$Sightings" "others" "[I", Cond.fieldLink RX7 9 "DearAsMany$Sightings" "persons" "[I", Cond.static yX9_at, Cond.code yX9_at cX9_at 2 (some .int), Cond.methodLink RX7 34 yX4_trait]
def wsX9_likes_r2 : List Cond := [Cond.instanceMethod yX4_trait, Cond.selects RX4 yX4_trait yX4_trait, Cond.initialized RX4, Cond.code yX4_trait cX4_trait 4 (some .int), Cond.fieldLink RX4 9 "DearAsMany$People" "traits" "[I", Cond.static yX9_valueOf, Cond.code yX9_valueOf cX9_valueOf 5 (some .int)]
def wsX9_likes : List Cond := .code yX9_likes cX9_likes 6 (some .int) :: ((wsX9_likes_r1 ++ wsX9_likes_r2) ++ wsX90 ++ wsX30 ++ wsX40 ++ wsX70)
def wsX9_year_r1 : List Cond := [Cond.fieldLink RX9 42 "DearAsMany" "course" "LDearAsMany$Course;", Cond.fieldLink RX9 56 "DearAsMany" "now" "LDearAsMany$Holding;", Cond.fieldLink RX9 135 "DearAsMany$Holding" "owners" "I", Cond.methodLink RX9 168 yX9_isEither, Cond.static yX9_isEither, Cond.initialized RX9, Cond.code yX9_isEither cX9_isEither 1 (some .boolean), Cond.methodLink RX9 214 yX1_ownersBehindYear, Cond.instanceMethod yX1_ownersBehindYear, Cond.selects RX1 yX1_ownersBehindYear yX1_ownersBehindYear, Cond.initialized RX1, Cond.code yX1_ownersBehindYear cX1_ownersBehindYear 6 (some .int), Cond.fieldLink RX1 15 "DearAsMany$Course" "market" "LDearAsMany$Market;", Cond.methodLink RX1 69 yX1_seasonOn, Cond.static yX1_seasonOn, Cond.code yX1_seasonOn cX1_seasonOn 4 (some .int), Cond.constantLong RX1 72 (7919), Cond.constantLong RX1 74 (6151), Cond.constantLong RX1 76 (65521), Cond.constantLong RX1 78 (100), Cond.methodLink RX1 31 yX3_nextOwners, Cond.instanceMethod yX3_nextOwners, Cond.selects RX3 yX3_nextOwners yX3_nextOwners, Cond.initialized RX3]
def wsX9_year_r2 : List Cond := [Cond.code yX3_nextOwners cX3_nextOwners 6 (some .int), Cond.fieldLink RX3 12 "DearAsMany$Market" "people" "LDearAsMany$People;", Cond.fieldLink RX3 26 "DearAsMany$People" "size" "I", Cond.methodLink RX3 66 yX3_changes, Cond.instanceMethod yX3_changes, Cond.selects RX3 yX3_changes yX3_changes, Cond.code yX3_changes cX3_changes 6 (some .boolean), Cond.methodLink RX3 51 yX3_othersOf, Cond.instanceMethod yX3_othersOf, Cond.selects RX3 yX3_othersOf yX3_othersOf, Cond.code yX3_othersOf cX3_othersOf 3 (some .int), Cond.fieldLink RX3 18 "DearAsMany$Market" "homes" "[I", Cond.static yX9_at, Cond.code yX9_at cX9_at 2 (some .int), Cond.methodLink RX3 30 yX4_trait, Cond.instanceMethod yX4_trait, Cond.selects RX4 yX4_trait yX4_trait, Cond.initialized RX4, Cond.code yX4_trait cX4_trait 4 (some .int), Cond.fieldLink RX4 9 "DearAsMany$People" "traits" "[I", Cond.static yX9_bit, Cond.code yX9_bit cX9_bit 1 (some .int), Cond.methodLink RX3 46 yJ6_bitCount_0f7a4, Cond.static yJ6_bitCount_0f7a4]
def wsX9_year_r3 : List Cond := [Cond.initialized RJ6, Cond.code yJ6_bitCount_0f7a4 cJ6_bitCount_0f7a4 1 (some .int), Cond.constant RJ6 265 (1431655765), Cond.constant RJ6 266 (858993459), Cond.constant RJ6 267 (252645135), Cond.methodLink RX3 54 yX3_valueWith, Cond.instanceMethod yX3_valueWith, Cond.selects RX3 yX3_valueWith yX3_valueWith, Cond.code yX3_valueWith cX3_valueWith 4 (some .int), Cond.static yX9_valueOf, Cond.code yX9_valueOf cX9_valueOf 5 (some .int), Cond.static yX9_has, Cond.code yX9_has cX9_has 2 (some .boolean), Cond.methodLink RX9 156 yX9_bit, Cond.methodLink RX1 55 yJ6_bitCount_0f7a4, Cond.methodLink RX9 217 yX1_bestDay, Cond.instanceMethod yX1_bestDay, Cond.selects RX1 yX1_bestDay yX1_bestDay, Cond.code yX1_bestDay cX1_bestDay 9 (some .int)]
def wsX9_year : List Cond := .code yX9_year cX9_year 4 (some .int) :: ((wsX9_year_r1 ++ (wsX9_year_r2 ++ wsX9_year_r3)) ++ wsX90 ++ wsX20 ++ wsX10 ++ wsX30 ++ wsX40)
def wsX9_keep : List Cond := .code yX9_keep cX9_keep 1 (some .int) :: ([.fieldLink RX9 69 "DearAsMany" "kept" "LDearAsMany$Pile;", .fieldLink RX9 164 "DearAsMany$Pile" "size" "I", .fieldLink RX9 56 "DearAsMany" "now" "LDearAsMany$Holding;", .methodLink RX9 220 yX5_push, .instanceMethod yX5_push, .selects RX5 yX5_push yX5_push, .initialized RX5, .code yX5_push cX5_push 4 none, .fieldLink RX5 9 "DearAsMany$Pile" "size" "I", .fieldLink RX5 15 "DearAsMany$Pile" "most" "I", .fieldLink RX5 18 "DearAsMany$Pile" "rows" "[I", .fieldLink RX5 32 "DearAsMany$Holding" "owners" "I", .methodLink RX5 22 yX2_penniesOf, .instanceMethod yX2_penniesOf, .selects RX2 yX2_penniesOf yX2_penniesOf, .initialized RX2, .code yX2_penniesOf cX2_penniesOf 2 (some .int), .fieldLink RX2 9 "DearAsMany$Holding" "pennies" "[I", .static yX9_at, .initialized RX9, .code yX9_at cX9_at 2 (some .int), .static yX9_put, .code yX9_put cX9_put 3 none] ++ wsX90 ++ wsX50 ++ wsX20)
def wsX9_back : List Cond := .code yX9_back cX9_back 1 (some .int) :: ([.fieldLink RX9 69 "DearAsMany" "kept" "LDearAsMany$Pile;", .fieldLink RX9 164 "DearAsMany$Pile" "size" "I", .fieldLink RX9 56 "DearAsMany" "now" "LDearAsMany$Holding;", .fieldLink RX9 65 "DearAsMany" "undoable" "LDearAsMany$Pile;", .methodLink RX9 165 yX5_popInto, .instanceMethod yX5_popInto, .selects RX5 yX5_popInto yX5_popInto, .initialized RX5, .code yX5_popInto cX5_popInto 4 none, .fieldLink RX5 9 "DearAsMany$Pile" "size" "I", .fieldLink RX5 43 "DearAsMany$Holding" "pennies" "[I", .fieldLink RX5 18 "DearAsMany$Pile" "rows" "[I", .fieldLink RX5 32 "DearAsMany$Holding" "owners" "I", .static yX9_at, .initialized RX9, .code yX9_at cX9_at 2 (some .int), .static yX9_put, .code yX9_put cX9_put 3 none] ++ wsX90 ++ wsX50 ++ wsX20)
def wsX9_count : List Cond := .code yX9_count cX9_count 2 (some .int) :: ([.fieldLink RX9 33 "DearAsMany" "market" "LDearAsMany$Market;", .fieldLink RX9 108 "DearAsMany$Market" "people" "LDearAsMany$People;", .fieldLink RX9 105 "DearAsMany$People" "size" "I", .fieldLink RX9 56 "DearAsMany" "now" "LDearAsMany$Holding;", .fieldLink RX9 135 "DearAsMany$Holding" "owners" "I", .fieldLink RX9 75 "DearAsMany" "sightings" "LDearAsMany$Sightings;", .fieldLink RX9 206 "DearAsMany$Sightings" "size" "I", .fieldLink RX9 65 "DearAsMany" "undoable" "LDearAsMany$Pile;", .fieldLink RX9 164 "DearAsMany$Pile" "size" "I", .fieldLink RX9 69 "DearAsMany" "kept" "LDearAsMany$Pile;", .fieldLink RX9 10 "DearAsMany" "text" "LDearAsMany$Text;", .fieldLink RX9 93 "DearAsMany$Text" "length" "I", .methodLink RX9 128 yX9_season, .instanceMethod yX9_season, .selects RX9 yX9_season yX9_season, .initialized RX9, .code yX9_season cX9_season 1 (some .int), .fieldLink RX9 233 "DearAsMany$People" "season" "I"] ++ wsX90 ++ wsX30 ++ wsX40 ++ wsX20 ++ wsX70 ++ wsX50 ++ wsX80)
def wsX10_init : List Cond := .code yX10_init cX10_init 2 none :: ([.methodLink RX10 1 objectInit, .instanceMethod objectInit, .code objectInit ⟨#[0xb1]⟩ 1 none, .arrayClass .int, .fieldLink RX10 7 "DearAsManyModel" "text" "[I", .fieldLink RX10 13 "DearAsManyModel" "many" "I", .fieldLink RX10 17 "DearAsManyModel" "kind" "[I", .fieldLink RX10 20 "DearAsManyModel" "w" "[I", .fieldLink RX10 23 "DearAsManyModel" "c" "[I", .fieldLink RX10 26 "DearAsManyModel" "house" "[I", .fieldLink RX10 29 "DearAsManyModel" "pennies" "[I", .fieldLink RX10 32 "DearAsManyModel" "season" "I", .fieldLink RX10 35 "DearAsManyModel" "before" "[I", .fieldLink RX10 38 "DearAsManyModel" "kept" "[I", .fieldLink RX10 41 "DearAsManyModel" "sightWho" "[I", .fieldLink RX10 44 "DearAsManyModel" "sightOthers" "[I", .arrayClass .boolean, .fieldLink RX10 47 "DearAsManyModel" "sightBought" "[Z", .fieldLink RX10 51 "DearAsManyModel" "read" "[I", .fieldLink RX10 54 "DearAsManyModel" "leads" "[I"] ++ wsX100)
def wsX10_in : List Cond := .code yX10_in cX10_in 6 (some .boolean) :: ([])
def wsX10_has : List Cond := .code yX10_has cX10_has 2 (some .boolean) :: ([])
def wsX10_bits : List Cond := .code yX10_bits cX10_bits 3 (some .int) :: ([])
def wsX10_isPerson : List Cond := .code yX10_isPerson cX10_isPerson 2 (some .boolean) :: ([.fieldLink RX10 13 "DearAsManyModel" "many" "I", .methodLink RX10 57 yX10_in, .static yX10_in, .initialized RX10, .code yX10_in cX10_in 6 (some .boolean)] ++ wsX100)
def wsX10_all : List Cond := .code yX10_all cX10_all 1 (some .int) :: ([.fieldLink RX10 13 "DearAsManyModel" "many" "I"] ++ wsX100)
def wsX10_write : List Cond := .code yX10_write cX10_write 5 (some .int) :: ([.constantLong RX10 61 (8), .fieldLink RX10 63 "DearAsManyModel" "size" "I", .fieldLink RX10 7 "DearAsManyModel" "text" "[I", .constantLong RX10 66 (255), .methodLink RX10 57 yX10_in, .static yX10_in, .initialized RX10, .code yX10_in cX10_in 6 (some .boolean)] ++ wsX100)
def wsX10_wipe : List Cond := .code yX10_wipe cX10_wipe 2 (some .int) :: ([.fieldLink RX10 63 "DearAsManyModel" "size" "I"] ++ wsX100)
def wsX10_isFigure : List Cond := .code yX10_isFigure cX10_isFigure 2 (some .boolean) :: ([.fieldLink RX10 63 "DearAsManyModel" "size" "I", .fieldLink RX10 7 "DearAsManyModel" "text" "[I", .constantLong RX10 68 (48), .constantLong RX10 70 (57), .methodLink RX10 57 yX10_in, .static yX10_in, .initialized RX10, .code yX10_in cX10_in 6 (some .boolean)] ++ wsX100)
def wsX10_number : List Cond := .code yX10_number cX10_number 5 (some .int) :: ([.fieldLink RX10 72 "DearAsManyModel" "at" "I", .fieldLink RX10 7 "DearAsManyModel" "text" "[I", .fieldLink RX10 63 "DearAsManyModel" "size" "I", .methodLink RX10 75 yX10_isFigure, .instanceMethod yX10_isFigure, .selects RX10 yX10_isFigure yX10_isFigure, .initialized RX10, .code yX10_isFigure cX10_isFigure 2 (some .boolean), .constantLong RX10 68 (48), .constantLong RX10 70 (57), .methodLink RX10 57 yX10_in, .static yX10_in, .code yX10_in cX10_in 6 (some .boolean)] ++ wsX100)
def wsX10_mostOf : List Cond := .code yX10_mostOf cX10_mostOf 1 (some .int) :: ([])
def wsX10_takesPerson : List Cond := .code yX10_takesPerson cX10_takesPerson 3 (some .boolean) :: ([.fieldLink RX10 79 "DearAsManyModel" "readMany" "I", .fieldLink RX10 51 "DearAsManyModel" "read" "[I", .methodLink RX10 82 yX10_mostOf, .static yX10_mostOf, .initialized RX10, .code yX10_mostOf cX10_mostOf 1 (some .int), .methodLink RX10 86 yX10_number, .instanceMethod yX10_number, .selects RX10 yX10_number yX10_number, .code yX10_number cX10_number 5 (some .int), .fieldLink RX10 72 "DearAsManyModel" "at" "I", .fieldLink RX10 7 "DearAsManyModel" "text" "[I", .fieldLink RX10 63 "DearAsManyModel" "size" "I", .methodLink RX10 75 yX10_isFigure, .instanceMethod yX10_isFigure, .selects RX10 yX10_isFigure yX10_isFigure, .code yX10_isFigure cX10_isFigure 2 (some .boolean), .constantLong RX10 68 (48), .constantLong RX10 70 (57), .methodLink RX10 57 yX10_in, .static yX10_in, .code yX10_in cX10_in 6 (some .boolean)] ++ wsX100)
def wsX10_takesItem_r1 : List Cond := [Cond.fieldLink RX10 7 "DearAsManyModel" "text" "[I", Cond.fieldLink RX10 72 "DearAsManyModel" "at" "I", Cond.fieldLink RX10 79 "DearAsManyModel" "readMany" "I", Cond.fieldLink RX10 94 "DearAsManyModel" "readOwners" "I", Cond.fieldLink RX10 97 "DearAsManyModel" "readSeason" "I", Cond.methodLink RX10 90 yX10_takesPerson, Cond.instanceMethod yX10_takesPerson, Cond.selects RX10 yX10_takesPerson yX10_takesPerson, Cond.initialized RX10, Cond.code yX10_takesPerson cX10_takesPerson 3 (some .boolean), Cond.fieldLink RX10 51 "DearAsManyModel" "read" "[I", Cond.methodLink RX10 82 yX10_mostOf, Cond.static yX10_mostOf, Cond.code yX10_mostOf cX10_mostOf 1 (some .int), Cond.methodLink RX10 86 yX10_number, Cond.instanceMethod yX10_number, Cond.selects RX10 yX10_number yX10_number, Cond.code yX10_number cX10_number 5 (some .int), Cond.fieldLink RX10 63 "DearAsManyModel" "size" "I", Cond.methodLink RX10 75 yX10_isFigure, Cond.instanceMethod yX10_isFigure, Cond.selects RX10 yX10_isFigure yX10_isFigure, Cond.code yX10_isFigure cX10_isFigure 2 (some .boolean), Cond.constantLong RX10 68 (48)]
def wsX10_takesItem_r2 : List Cond := [Cond.constantLong RX10 70 (57), Cond.methodLink RX10 57 yX10_in, Cond.static yX10_in, Cond.code yX10_in cX10_in 6 (some .boolean)]
def wsX10_takesItem : List Cond := .code yX10_takesItem cX10_takesItem 3 (some .boolean) :: ((wsX10_takesItem_r1 ++ wsX10_takesItem_r2) ++ wsX100)
def wsX10_fault_r1 : List Cond := [Cond.fieldLink RX10 72 "DearAsManyModel" "at" "I", Cond.fieldLink RX10 79 "DearAsManyModel" "readMany" "I", Cond.fieldLink RX10 94 "DearAsManyModel" "readOwners" "I", Cond.fieldLink RX10 97 "DearAsManyModel" "readSeason" "I", Cond.fieldLink RX10 63 "DearAsManyModel" "size" "I", Cond.methodLink RX10 100 yX10_takesItem, Cond.instanceMethod yX10_takesItem, Cond.selects RX10 yX10_takesItem yX10_takesItem, Cond.initialized RX10, Cond.code yX10_takesItem cX10_takesItem 3 (some .boolean), Cond.fieldLink RX10 7 "DearAsManyModel" "text" "[I", Cond.methodLink RX10 90 yX10_takesPerson, Cond.instanceMethod yX10_takesPerson, Cond.selects RX10 yX10_takesPerson yX10_takesPerson, Cond.code yX10_takesPerson cX10_takesPerson 3 (some .boolean), Cond.fieldLink RX10 51 "DearAsManyModel" "read" "[I", Cond.methodLink RX10 82 yX10_mostOf, Cond.static yX10_mostOf, Cond.code yX10_mostOf cX10_mostOf 1 (some .int), Cond.methodLink RX10 86 yX10_number, Cond.instanceMethod yX10_number, Cond.selects RX10 yX10_number yX10_number, Cond.code yX10_number cX10_number 5 (some .int), Cond.methodLink RX10 75 yX10_isFigure]
def wsX10_fault_r2 : List Cond := [Cond.instanceMethod yX10_isFigure, Cond.selects RX10 yX10_isFigure yX10_isFigure, Cond.code yX10_isFigure cX10_isFigure 2 (some .boolean), Cond.constantLong RX10 68 (48), Cond.constantLong RX10 70 (57), Cond.methodLink RX10 57 yX10_in, Cond.static yX10_in, Cond.code yX10_in cX10_in 6 (some .boolean)]
def wsX10_fault : List Cond := .code yX10_fault cX10_fault 2 (some .int) :: ((wsX10_fault_r1 ++ wsX10_fault_r2) ++ wsX100)
def wsX10_lay_r1 : List Cond := [Cond.fieldLink RX10 79 "DearAsManyModel" "readMany" "I", Cond.fieldLink RX10 13 "DearAsManyModel" "many" "I", Cond.fieldLink RX10 17 "DearAsManyModel" "kind" "[I", Cond.fieldLink RX10 51 "DearAsManyModel" "read" "[I", Cond.fieldLink RX10 20 "DearAsManyModel" "w" "[I", Cond.fieldLink RX10 23 "DearAsManyModel" "c" "[I", Cond.fieldLink RX10 26 "DearAsManyModel" "house" "[I", Cond.fieldLink RX10 29 "DearAsManyModel" "pennies" "[I", Cond.fieldLink RX10 94 "DearAsManyModel" "readOwners" "I", Cond.fieldLink RX10 107 "DearAsManyModel" "owners" "I", Cond.fieldLink RX10 97 "DearAsManyModel" "readSeason" "I", Cond.fieldLink RX10 32 "DearAsManyModel" "season" "I", Cond.fieldLink RX10 110 "DearAsManyModel" "sights" "I", Cond.fieldLink RX10 113 "DearAsManyModel" "undos" "I", Cond.fieldLink RX10 116 "DearAsManyModel" "kepts" "I", Cond.methodLink RX10 103 yX10_fault, Cond.instanceMethod yX10_fault, Cond.selects RX10 yX10_fault yX10_fault, Cond.initialized RX10, Cond.code yX10_fault cX10_fault 2 (some .int), Cond.fieldLink RX10 72 "DearAsManyModel" "at" "I", Cond.fieldLink RX10 63 "DearAsManyModel" "size" "I", Cond.methodLink RX10 100 yX10_takesItem, Cond.instanceMethod yX10_takesItem]
def wsX10_lay_r2 : List Cond := [Cond.selects RX10 yX10_takesItem yX10_takesItem, Cond.code yX10_takesItem cX10_takesItem 3 (some .boolean), Cond.fieldLink RX10 7 "DearAsManyModel" "text" "[I", Cond.methodLink RX10 90 yX10_takesPerson, Cond.instanceMethod yX10_takesPerson, Cond.selects RX10 yX10_takesPerson yX10_takesPerson, Cond.code yX10_takesPerson cX10_takesPerson 3 (some .boolean), Cond.methodLink RX10 82 yX10_mostOf, Cond.static yX10_mostOf, Cond.code yX10_mostOf cX10_mostOf 1 (some .int), Cond.methodLink RX10 86 yX10_number, Cond.instanceMethod yX10_number, Cond.selects RX10 yX10_number yX10_number, Cond.code yX10_number cX10_number 5 (some .int), Cond.methodLink RX10 75 yX10_isFigure, Cond.instanceMethod yX10_isFigure, Cond.selects RX10 yX10_isFigure yX10_isFigure, Cond.code yX10_isFigure cX10_isFigure 2 (some .boolean), Cond.constantLong RX10 68 (48), Cond.constantLong RX10 70 (57), Cond.methodLink RX10 57 yX10_in, Cond.static yX10_in, Cond.code yX10_in cX10_in 6 (some .boolean)]
def wsX10_lay : List Cond := .code yX10_lay cX10_lay 2 (some .int) :: ((wsX10_lay_r1 ++ wsX10_lay_r2) ++ wsX100)
def wsX10_person : List Cond := .code yX10_person cX10_person 3 (some .int) :: ([.constantLong RX10 122 (5), .fieldLink RX10 17 "DearAsManyModel" "kind" "[I", .fieldLink RX10 20 "DearAsManyModel" "w" "[I", .fieldLink RX10 23 "DearAsManyModel" "c" "[I", .fieldLink RX10 26 "DearAsManyModel" "house" "[I", .fieldLink RX10 29 "DearAsManyModel" "pennies" "[I", .fieldLink RX10 107 "DearAsManyModel" "owners" "I", .methodLink RX10 119 yX10_isPerson, .instanceMethod yX10_isPerson, .selects RX10 yX10_isPerson yX10_isPerson, .initialized RX10, .code yX10_isPerson cX10_isPerson 2 (some .boolean), .fieldLink RX10 13 "DearAsManyModel" "many" "I", .methodLink RX10 57 yX10_in, .static yX10_in, .code yX10_in cX10_in 6 (some .boolean), .methodLink RX10 124 yX10_has, .static yX10_has, .code yX10_has cX10_has 2 (some .boolean)] ++ wsX100)
def wsX10_othersThan : List Cond := .code yX10_othersThan cX10_othersThan 5 (some .int) :: ([.fieldLink RX10 13 "DearAsManyModel" "many" "I", .fieldLink RX10 26 "DearAsManyModel" "house" "[I", .methodLink RX10 124 yX10_has, .static yX10_has, .initialized RX10, .code yX10_has cX10_has 2 (some .boolean), .methodLink RX10 128 yX10_bits, .static yX10_bits, .code yX10_bits cX10_bits 3 (some .int)] ++ wsX100)
def wsX10_others : List Cond := .code yX10_others cX10_others 3 (some .int) :: ([.fieldLink RX10 26 "DearAsManyModel" "house" "[I", .methodLink RX10 131 yX10_othersThan, .instanceMethod yX10_othersThan, .selects RX10 yX10_othersThan yX10_othersThan, .initialized RX10, .code yX10_othersThan cX10_othersThan 5 (some .int), .fieldLink RX10 13 "DearAsManyModel" "many" "I", .methodLink RX10 124 yX10_has, .static yX10_has, .code yX10_has cX10_has 2 (some .boolean), .methodLink RX10 128 yX10_bits, .static yX10_bits, .code yX10_bits cX10_bits 3 (some .int)] ++ wsX100)
def wsX10_worthBy : List Cond := .code yX10_worthBy cX10_worthBy 4 (some .int) :: ([])
def wsX10_worthOf : List Cond := .code yX10_worthOf cX10_worthOf 3 (some .int) :: ([.fieldLink RX10 17 "DearAsManyModel" "kind" "[I", .fieldLink RX10 20 "DearAsManyModel" "w" "[I", .fieldLink RX10 32 "DearAsManyModel" "season" "I", .fieldLink RX10 23 "DearAsManyModel" "c" "[I", .methodLink RX10 134 yX10_others, .instanceMethod yX10_others, .selects RX10 yX10_others yX10_others, .initialized RX10, .code yX10_others cX10_others 3 (some .int), .fieldLink RX10 26 "DearAsManyModel" "house" "[I", .methodLink RX10 131 yX10_othersThan, .instanceMethod yX10_othersThan, .selects RX10 yX10_othersThan yX10_othersThan, .code yX10_othersThan cX10_othersThan 5 (some .int), .fieldLink RX10 13 "DearAsManyModel" "many" "I", .methodLink RX10 124 yX10_has, .static yX10_has, .code yX10_has cX10_has 2 (some .boolean), .methodLink RX10 128 yX10_bits, .static yX10_bits, .code yX10_bits cX10_bits 3 (some .int), .methodLink RX10 137 yX10_worthBy, .static yX10_worthBy, .code yX10_worthBy cX10_worthBy 4 (some .int)] ++ wsX100)
def wsX10_worth_r1 : List Cond := [Cond.methodLink RX10 119 yX10_isPerson, Cond.instanceMethod yX10_isPerson, Cond.selects RX10 yX10_isPerson yX10_isPerson, Cond.initialized RX10, Cond.code yX10_isPerson cX10_isPerson 2 (some .boolean), Cond.fieldLink RX10 13 "DearAsManyModel" "many" "I", Cond.methodLink RX10 57 yX10_in, Cond.static yX10_in, Cond.code yX10_in cX10_in 6 (some .boolean), Cond.methodLink RX10 141 yX10_all, Cond.instanceMethod yX10_all, Cond.selects RX10 yX10_all yX10_all, Cond.code yX10_all cX10_all 1 (some .int), Cond.methodLink RX10 144 yX10_worthOf, Cond.instanceMethod yX10_worthOf, Cond.selects RX10 yX10_worthOf yX10_worthOf, Cond.code yX10_worthOf cX10_worthOf 3 (some .int), Cond.fieldLink RX10 17 "DearAsManyModel" "kind" "[I", Cond.fieldLink RX10 20 "DearAsManyModel" "w" "[I", Cond.fieldLink RX10 32 "DearAsManyModel" "season" "I", Cond.fieldLink RX10 23 "DearAsManyModel" "c" "[I", Cond.methodLink RX10 134 yX10_others, Cond.instanceMethod yX10_others, Cond.selects RX10 yX10_others yX10_others]
def wsX10_worth_r2 : List Cond := [Cond.code yX10_others cX10_others 3 (some .int), Cond.fieldLink RX10 26 "DearAsManyModel" "house" "[I", Cond.methodLink RX10 131 yX10_othersThan, Cond.instanceMethod yX10_othersThan, Cond.selects RX10 yX10_othersThan yX10_othersThan, Cond.code yX10_othersThan cX10_othersThan 5 (some .int), Cond.methodLink RX10 124 yX10_has, Cond.static yX10_has, Cond.code yX10_has cX10_has 2 (some .boolean), Cond.methodLink RX10 128 yX10_bits, Cond.static yX10_bits, Cond.code yX10_bits cX10_bits 3 (some .int), Cond.methodLink RX10 137 yX10_worthBy, Cond.static yX10_worthBy, Cond.code yX10_worthBy cX10_worthBy 4 (some .int)]
def wsX10_worth : List Cond := .code yX10_worth cX10_worth 3 (some .int) :: ((wsX10_worth_r1 ++ wsX10_worth_r2) ++ wsX100)
def wsX10_remember : List Cond := .code yX10_remember cX10_remember 2 none :: ([.fieldLink RX10 113 "DearAsManyModel" "undos" "I", .fieldLink RX10 35 "DearAsManyModel" "before" "[I", .fieldLink RX10 107 "DearAsManyModel" "owners" "I", .fieldLink RX10 29 "DearAsManyModel" "pennies" "[I"] ++ wsX100)
def wsX10_buy_r1 : List Cond := [Cond.fieldLink RX10 107 "DearAsManyModel" "owners" "I", Cond.fieldLink RX10 13 "DearAsManyModel" "many" "I", Cond.fieldLink RX10 29 "DearAsManyModel" "pennies" "[I", Cond.methodLink RX10 141 yX10_all, Cond.instanceMethod yX10_all, Cond.selects RX10 yX10_all yX10_all, Cond.initialized RX10, Cond.code yX10_all cX10_all 1 (some .int), Cond.methodLink RX10 57 yX10_in, Cond.static yX10_in, Cond.code yX10_in cX10_in 6 (some .boolean), Cond.methodLink RX10 124 yX10_has, Cond.static yX10_has, Cond.code yX10_has cX10_has 2 (some .boolean), Cond.methodLink RX10 134 yX10_others, Cond.instanceMethod yX10_others, Cond.selects RX10 yX10_others yX10_others, Cond.code yX10_others cX10_others 3 (some .int), Cond.fieldLink RX10 26 "DearAsManyModel" "house" "[I", Cond.methodLink RX10 131 yX10_othersThan, Cond.instanceMethod yX10_othersThan, Cond.selects RX10 yX10_othersThan yX10_othersThan, Cond.code yX10_othersThan cX10_othersThan 5 (some .int), Cond.methodLink RX10 128 yX10_bits]
def wsX10_buy_r2 : List Cond := [Cond.static yX10_bits, Cond.code yX10_bits cX10_bits 3 (some .int), Cond.methodLink RX10 147 yX10_remember, Cond.instanceMethod yX10_remember, Cond.selects RX10 yX10_remember yX10_remember, Cond.code yX10_remember cX10_remember 2 none, Cond.fieldLink RX10 113 "DearAsManyModel" "undos" "I", Cond.fieldLink RX10 35 "DearAsManyModel" "before" "[I"]
def wsX10_buy : List Cond := .code yX10_buy cX10_buy 6 (some .int) :: ((wsX10_buy_r1 ++ wsX10_buy_r2) ++ wsX100)
def wsX10_toss : List Cond := .code yX10_toss cX10_toss 2 (some .int) :: ([.fieldLink RX10 107 "DearAsManyModel" "owners" "I", .methodLink RX10 119 yX10_isPerson, .instanceMethod yX10_isPerson, .selects RX10 yX10_isPerson yX10_isPerson, .initialized RX10, .code yX10_isPerson cX10_isPerson 2 (some .boolean), .fieldLink RX10 13 "DearAsManyModel" "many" "I", .methodLink RX10 57 yX10_in, .static yX10_in, .code yX10_in cX10_in 6 (some .boolean), .methodLink RX10 124 yX10_has, .static yX10_has, .code yX10_has cX10_has 2 (some .boolean), .methodLink RX10 147 yX10_remember, .instanceMethod yX10_remember, .selects RX10 yX10_remember yX10_remember, .code yX10_remember cX10_remember 2 none, .fieldLink RX10 113 "DearAsManyModel" "undos" "I", .fieldLink RX10 35 "DearAsManyModel" "before" "[I", .fieldLink RX10 29 "DearAsManyModel" "pennies" "[I", .methodLink RX10 128 yX10_bits, .static yX10_bits, .code yX10_bits cX10_bits 3 (some .int)] ++ wsX100)
def wsX10_sell_r1 : List Cond := [Cond.fieldLink RX10 107 "DearAsManyModel" "owners" "I", Cond.fieldLink RX10 29 "DearAsManyModel" "pennies" "[I", Cond.methodLink RX10 119 yX10_isPerson, Cond.instanceMethod yX10_isPerson, Cond.selects RX10 yX10_isPerson yX10_isPerson, Cond.initialized RX10, Cond.code yX10_isPerson cX10_isPerson 2 (some .boolean), Cond.fieldLink RX10 13 "DearAsManyModel" "many" "I", Cond.methodLink RX10 57 yX10_in, Cond.static yX10_in, Cond.code yX10_in cX10_in 6 (some .boolean), Cond.methodLink RX10 134 yX10_others, Cond.instanceMethod yX10_others, Cond.selects RX10 yX10_others yX10_others, Cond.code yX10_others cX10_others 3 (some .int), Cond.fieldLink RX10 26 "DearAsManyModel" "house" "[I", Cond.methodLink RX10 131 yX10_othersThan, Cond.instanceMethod yX10_othersThan, Cond.selects RX10 yX10_othersThan yX10_othersThan, Cond.code yX10_othersThan cX10_othersThan 5 (some .int), Cond.methodLink RX10 124 yX10_has, Cond.static yX10_has, Cond.code yX10_has cX10_has 2 (some .boolean), Cond.methodLink RX10 128 yX10_bits]
def wsX10_sell_r2 : List Cond := [Cond.static yX10_bits, Cond.code yX10_bits cX10_bits 3 (some .int), Cond.methodLink RX10 147 yX10_remember, Cond.instanceMethod yX10_remember, Cond.selects RX10 yX10_remember yX10_remember, Cond.code yX10_remember cX10_remember 2 none, Cond.fieldLink RX10 113 "DearAsManyModel" "undos" "I", Cond.fieldLink RX10 35 "DearAsManyModel" "before" "[I"]
def wsX10_sell : List Cond := .code yX10_sell cX10_sell 4 (some .int) :: ((wsX10_sell_r1 ++ wsX10_sell_r2) ++ wsX100)
def wsX10_undo : List Cond := .code yX10_undo cX10_undo 2 (some .int) :: ([.fieldLink RX10 113 "DearAsManyModel" "undos" "I", .fieldLink RX10 35 "DearAsManyModel" "before" "[I", .fieldLink RX10 107 "DearAsManyModel" "owners" "I", .fieldLink RX10 29 "DearAsManyModel" "pennies" "[I"] ++ wsX100)
def wsX10_price_r1 : List Cond := [Cond.fieldLink RX10 107 "DearAsManyModel" "owners" "I", Cond.methodLink RX10 119 yX10_isPerson, Cond.instanceMethod yX10_isPerson, Cond.selects RX10 yX10_isPerson yX10_isPerson, Cond.initialized RX10, Cond.code yX10_isPerson cX10_isPerson 2 (some .boolean), Cond.fieldLink RX10 13 "DearAsManyModel" "many" "I", Cond.methodLink RX10 57 yX10_in, Cond.static yX10_in, Cond.code yX10_in cX10_in 6 (some .boolean), Cond.methodLink RX10 124 yX10_has, Cond.static yX10_has, Cond.code yX10_has cX10_has 2 (some .boolean), Cond.methodLink RX10 134 yX10_others, Cond.instanceMethod yX10_others, Cond.selects RX10 yX10_others yX10_others, Cond.code yX10_others cX10_others 3 (some .int), Cond.fieldLink RX10 26 "DearAsManyModel" "house" "[I", Cond.methodLink RX10 131 yX10_othersThan, Cond.instanceMethod yX10_othersThan, Cond.selects RX10 yX10_othersThan yX10_othersThan, Cond.code yX10_othersThan cX10_othersThan 5 (some .int), Cond.methodLink RX10 128 yX10_bits, Cond.static yX10_bits]
def wsX10_price_r2 : List Cond := [Cond.code yX10_bits cX10_bits 3 (some .int)]
def wsX10_price : List Cond := .code yX10_price cX10_price 2 (some .int) :: ((wsX10_price_r1 ++ wsX10_price_r2) ++ wsX100)
def wsX10_wouldBuy_r1 : List Cond := [Cond.methodLink RX10 124 yX10_has, Cond.static yX10_has, Cond.initialized RX10, Cond.code yX10_has cX10_has 2 (some .boolean), Cond.methodLink RX10 144 yX10_worthOf, Cond.instanceMethod yX10_worthOf, Cond.selects RX10 yX10_worthOf yX10_worthOf, Cond.code yX10_worthOf cX10_worthOf 3 (some .int), Cond.fieldLink RX10 17 "DearAsManyModel" "kind" "[I", Cond.fieldLink RX10 20 "DearAsManyModel" "w" "[I", Cond.fieldLink RX10 32 "DearAsManyModel" "season" "I", Cond.fieldLink RX10 23 "DearAsManyModel" "c" "[I", Cond.methodLink RX10 134 yX10_others, Cond.instanceMethod yX10_others, Cond.selects RX10 yX10_others yX10_others, Cond.code yX10_others cX10_others 3 (some .int), Cond.fieldLink RX10 26 "DearAsManyModel" "house" "[I", Cond.methodLink RX10 131 yX10_othersThan, Cond.instanceMethod yX10_othersThan, Cond.selects RX10 yX10_othersThan yX10_othersThan, Cond.code yX10_othersThan cX10_othersThan 5 (some .int), Cond.fieldLink RX10 13 "DearAsManyModel" "many" "I", Cond.methodLink RX10 128 yX10_bits, Cond.static yX10_bits]
def wsX10_wouldBuy_r2 : List Cond := [Cond.code yX10_bits cX10_bits 3 (some .int), Cond.methodLink RX10 137 yX10_worthBy, Cond.static yX10_worthBy, Cond.code yX10_worthBy cX10_worthBy 4 (some .int)]
def wsX10_wouldBuy : List Cond := .code yX10_wouldBuy cX10_wouldBuy 3 (some .boolean) :: ((wsX10_wouldBuy_r1 ++ wsX10_wouldBuy_r2) ++ wsX100)
def wsX10_wouldThrow_r1 : List Cond := [Cond.methodLink RX10 124 yX10_has, Cond.static yX10_has, Cond.initialized RX10, Cond.code yX10_has cX10_has 2 (some .boolean), Cond.methodLink RX10 144 yX10_worthOf, Cond.instanceMethod yX10_worthOf, Cond.selects RX10 yX10_worthOf yX10_worthOf, Cond.code yX10_worthOf cX10_worthOf 3 (some .int), Cond.fieldLink RX10 17 "DearAsManyModel" "kind" "[I", Cond.fieldLink RX10 20 "DearAsManyModel" "w" "[I", Cond.fieldLink RX10 32 "DearAsManyModel" "season" "I", Cond.fieldLink RX10 23 "DearAsManyModel" "c" "[I", Cond.methodLink RX10 134 yX10_others, Cond.instanceMethod yX10_others, Cond.selects RX10 yX10_others yX10_others, Cond.code yX10_others cX10_others 3 (some .int), Cond.fieldLink RX10 26 "DearAsManyModel" "house" "[I", Cond.methodLink RX10 131 yX10_othersThan, Cond.instanceMethod yX10_othersThan, Cond.selects RX10 yX10_othersThan yX10_othersThan, Cond.code yX10_othersThan cX10_othersThan 5 (some .int), Cond.fieldLink RX10 13 "DearAsManyModel" "many" "I", Cond.methodLink RX10 128 yX10_bits, Cond.static yX10_bits]
def wsX10_wouldThrow_r2 : List Cond := [Cond.code yX10_bits cX10_bits 3 (some .int), Cond.methodLink RX10 137 yX10_worthBy, Cond.static yX10_worthBy, Cond.code yX10_worthBy cX10_worthBy 4 (some .int)]
def wsX10_wouldThrow : List Cond := .code yX10_wouldThrow cX10_wouldThrow 3 (some .boolean) :: ((wsX10_wouldThrow_r1 ++ wsX10_wouldThrow_r2) ++ wsX100)
def wsX10_would_r1 : List Cond := [Cond.fieldLink RX10 13 "DearAsManyModel" "many" "I", Cond.fieldLink RX10 107 "DearAsManyModel" "owners" "I", Cond.methodLink RX10 57 yX10_in, Cond.static yX10_in, Cond.initialized RX10, Cond.code yX10_in cX10_in 6 (some .boolean), Cond.methodLink RX10 150 yX10_wouldBuy, Cond.instanceMethod yX10_wouldBuy, Cond.selects RX10 yX10_wouldBuy yX10_wouldBuy, Cond.code yX10_wouldBuy cX10_wouldBuy 3 (some .boolean), Cond.methodLink RX10 124 yX10_has, Cond.static yX10_has, Cond.code yX10_has cX10_has 2 (some .boolean), Cond.methodLink RX10 144 yX10_worthOf, Cond.instanceMethod yX10_worthOf, Cond.selects RX10 yX10_worthOf yX10_worthOf, Cond.code yX10_worthOf cX10_worthOf 3 (some .int), Cond.fieldLink RX10 17 "DearAsManyModel" "kind" "[I", Cond.fieldLink RX10 20 "DearAsManyModel" "w" "[I", Cond.fieldLink RX10 32 "DearAsManyModel" "season" "I", Cond.fieldLink RX10 23 "DearAsManyModel" "c" "[I", Cond.methodLink RX10 134 yX10_others, Cond.instanceMethod yX10_others, Cond.selects RX10 yX10_others yX10_others]
def wsX10_would_r2 : List Cond := [Cond.code yX10_others cX10_others 3 (some .int), Cond.fieldLink RX10 26 "DearAsManyModel" "house" "[I", Cond.methodLink RX10 131 yX10_othersThan, Cond.instanceMethod yX10_othersThan, Cond.selects RX10 yX10_othersThan yX10_othersThan, Cond.code yX10_othersThan cX10_othersThan 5 (some .int), Cond.methodLink RX10 128 yX10_bits, Cond.static yX10_bits, Cond.code yX10_bits cX10_bits 3 (some .int), Cond.methodLink RX10 137 yX10_worthBy, Cond.static yX10_worthBy, Cond.code yX10_worthBy cX10_worthBy 4 (some .int), Cond.methodLink RX10 153 yX10_wouldThrow, Cond.instanceMethod yX10_wouldThrow, Cond.selects RX10 yX10_wouldThrow yX10_wouldThrow, Cond.code yX10_wouldThrow cX10_wouldThrow 3 (some .boolean)]
def wsX10_would : List Cond := .code yX10_would cX10_would 4 (some .int) :: ((wsX10_would_r1 ++ wsX10_would_r2) ++ wsX100)
def wsX10_round_r1 : List Cond := [Cond.fieldLink RX10 13 "DearAsManyModel" "many" "I", Cond.methodLink RX10 150 yX10_wouldBuy, Cond.instanceMethod yX10_wouldBuy, Cond.selects RX10 yX10_wouldBuy yX10_wouldBuy, Cond.initialized RX10, Cond.code yX10_wouldBuy cX10_wouldBuy 3 (some .boolean), Cond.methodLink RX10 124 yX10_has, Cond.static yX10_has, Cond.code yX10_has cX10_has 2 (some .boolean), Cond.methodLink RX10 144 yX10_worthOf, Cond.instanceMethod yX10_worthOf, Cond.selects RX10 yX10_worthOf yX10_worthOf, Cond.code yX10_worthOf cX10_worthOf 3 (some .int), Cond.fieldLink RX10 17 "DearAsManyModel" "kind" "[I", Cond.fieldLink RX10 20 "DearAsManyModel" "w" "[I", Cond.fieldLink RX10 32 "DearAsManyModel" "season" "I", Cond.fieldLink RX10 23 "DearAsManyModel" "c" "[I", Cond.methodLink RX10 134 yX10_others, Cond.instanceMethod yX10_others, Cond.selects RX10 yX10_others yX10_others, Cond.code yX10_others cX10_others 3 (some .int), Cond.fieldLink RX10 26 "DearAsManyModel" "house" "[I", Cond.methodLink RX10 131 yX10_othersThan, Cond.instanceMethod yX10_othersThan]
def wsX10_round_r2 : List Cond := [Cond.selects RX10 yX10_othersThan yX10_othersThan, Cond.code yX10_othersThan cX10_othersThan 5 (some .int), Cond.methodLink RX10 128 yX10_bits, Cond.static yX10_bits, Cond.code yX10_bits cX10_bits 3 (some .int), Cond.methodLink RX10 137 yX10_worthBy, Cond.static yX10_worthBy, Cond.code yX10_worthBy cX10_worthBy 4 (some .int), Cond.methodLink RX10 153 yX10_wouldThrow, Cond.instanceMethod yX10_wouldThrow, Cond.selects RX10 yX10_wouldThrow yX10_wouldThrow, Cond.code yX10_wouldThrow cX10_wouldThrow 3 (some .boolean)]
def wsX10_round : List Cond := .code yX10_round cX10_round 6 (some .int) :: ((wsX10_round_r1 ++ wsX10_round_r2) ++ wsX100)
def wsX10_tells_r1 : List Cond := [Cond.fieldLink RX10 54 "DearAsManyModel" "leads" "[I", Cond.methodLink RX10 141 yX10_all, Cond.instanceMethod yX10_all, Cond.selects RX10 yX10_all yX10_all, Cond.initialized RX10, Cond.code yX10_all cX10_all 1 (some .int), Cond.fieldLink RX10 13 "DearAsManyModel" "many" "I", Cond.methodLink RX10 156 yX10_round, Cond.instanceMethod yX10_round, Cond.selects RX10 yX10_round yX10_round, Cond.code yX10_round cX10_round 6 (some .int), Cond.methodLink RX10 150 yX10_wouldBuy, Cond.instanceMethod yX10_wouldBuy, Cond.selects RX10 yX10_wouldBuy yX10_wouldBuy, Cond.code yX10_wouldBuy cX10_wouldBuy 3 (some .boolean), Cond.methodLink RX10 124 yX10_has, Cond.static yX10_has, Cond.code yX10_has cX10_has 2 (some .boolean), Cond.methodLink RX10 144 yX10_worthOf, Cond.instanceMethod yX10_worthOf, Cond.selects RX10 yX10_worthOf yX10_worthOf, Cond.code yX10_worthOf cX10_worthOf 3 (some .int), Cond.fieldLink RX10 17 "DearAsManyModel" "kind" "[I", Cond.fieldLink RX10 20 "DearAsManyModel" "w" "[I"]
def wsX10_tells_r2 : List Cond := [Cond.fieldLink RX10 32 "DearAsManyModel" "season" "I", Cond.fieldLink RX10 23 "DearAsManyModel" "c" "[I", Cond.methodLink RX10 134 yX10_others, Cond.instanceMethod yX10_others, Cond.selects RX10 yX10_others yX10_others, Cond.code yX10_others cX10_others 3 (some .int), Cond.fieldLink RX10 26 "DearAsManyModel" "house" "[I", Cond.methodLink RX10 131 yX10_othersThan, Cond.instanceMethod yX10_othersThan, Cond.selects RX10 yX10_othersThan yX10_othersThan, Cond.code yX10_othersThan cX10_othersThan 5 (some .int), Cond.methodLink RX10 128 yX10_bits, Cond.static yX10_bits, Cond.code yX10_bits cX10_bits 3 (some .int), Cond.methodLink RX10 137 yX10_worthBy, Cond.static yX10_worthBy, Cond.code yX10_worthBy cX10_worthBy 4 (some .int), Cond.methodLink RX10 153 yX10_wouldThrow, Cond.instanceMethod yX10_wouldThrow, Cond.selects RX10 yX10_wouldThrow yX10_wouldThrow, Cond.code yX10_wouldThrow cX10_wouldThrow 3 (some .boolean)]
def wsX10_tells : List Cond := .code yX10_tells cX10_tells 3 none :: ((wsX10_tells_r1 ++ wsX10_tells_r2) ++ wsX100)
def wsX10_behind_r1 : List Cond := [Cond.constantLong RX10 160 (60), Cond.fieldLink RX10 107 "DearAsManyModel" "owners" "I", Cond.methodLink RX10 57 yX10_in, Cond.static yX10_in, Cond.initialized RX10, Cond.code yX10_in cX10_in 6 (some .boolean), Cond.methodLink RX10 156 yX10_round, Cond.instanceMethod yX10_round, Cond.selects RX10 yX10_round yX10_round, Cond.code yX10_round cX10_round 6 (some .int), Cond.fieldLink RX10 13 "DearAsManyModel" "many" "I", Cond.methodLink RX10 150 yX10_wouldBuy, Cond.instanceMethod yX10_wouldBuy, Cond.selects RX10 yX10_wouldBuy yX10_wouldBuy, Cond.code yX10_wouldBuy cX10_wouldBuy 3 (some .boolean), Cond.methodLink RX10 124 yX10_has, Cond.static yX10_has, Cond.code yX10_has cX10_has 2 (some .boolean), Cond.methodLink RX10 144 yX10_worthOf, Cond.instanceMethod yX10_worthOf, Cond.selects RX10 yX10_worthOf yX10_worthOf, Cond.code yX10_worthOf cX10_worthOf 3 (some .int), Cond.fieldLink RX10 17 "DearAsManyModel" "kind" "[I", Cond.fieldLink RX10 20 "DearAsManyModel" "w" "[I"]
def wsX10_behind_r2 : List Cond := [Cond.fieldLink RX10 32 "DearAsManyModel" "season" "I", Cond.fieldLink RX10 23 "DearAsManyModel" "c" "[I", Cond.methodLink RX10 134 yX10_others, Cond.instanceMethod yX10_others, Cond.selects RX10 yX10_others yX10_others, Cond.code yX10_others cX10_others 3 (some .int), Cond.fieldLink RX10 26 "DearAsManyModel" "house" "[I", Cond.methodLink RX10 131 yX10_othersThan, Cond.instanceMethod yX10_othersThan, Cond.selects RX10 yX10_othersThan yX10_othersThan, Cond.code yX10_othersThan cX10_othersThan 5 (some .int), Cond.methodLink RX10 128 yX10_bits, Cond.static yX10_bits, Cond.code yX10_bits cX10_bits 3 (some .int), Cond.methodLink RX10 137 yX10_worthBy, Cond.static yX10_worthBy, Cond.code yX10_worthBy cX10_worthBy 4 (some .int), Cond.methodLink RX10 153 yX10_wouldThrow, Cond.instanceMethod yX10_wouldThrow, Cond.selects RX10 yX10_wouldThrow yX10_wouldThrow, Cond.code yX10_wouldThrow cX10_wouldThrow 3 (some .boolean)]
def wsX10_behind : List Cond := .code yX10_behind cX10_behind 5 (some .int) :: ((wsX10_behind_r1 ++ wsX10_behind_r2) ++ wsX100)
def wsX10_rest_r1 : List Cond := [Cond.fieldLink RX10 107 "DearAsManyModel" "owners" "I", Cond.fieldLink RX10 54 "DearAsManyModel" "leads" "[I", Cond.methodLink RX10 57 yX10_in, Cond.static yX10_in, Cond.initialized RX10, Cond.code yX10_in cX10_in 6 (some .boolean), Cond.methodLink RX10 162 yX10_tells, Cond.instanceMethod yX10_tells, Cond.selects RX10 yX10_tells yX10_tells, Cond.code yX10_tells cX10_tells 3 none, Cond.methodLink RX10 141 yX10_all, Cond.instanceMethod yX10_all, Cond.selects RX10 yX10_all yX10_all, Cond.code yX10_all cX10_all 1 (some .int), Cond.fieldLink RX10 13 "DearAsManyModel" "many" "I", Cond.methodLink RX10 156 yX10_round, Cond.instanceMethod yX10_round, Cond.selects RX10 yX10_round yX10_round, Cond.code yX10_round cX10_round 6 (some .int), Cond.methodLink RX10 150 yX10_wouldBuy, Cond.instanceMethod yX10_wouldBuy, Cond.selects RX10 yX10_wouldBuy yX10_wouldBuy, Cond.code yX10_wouldBuy cX10_wouldBuy 3 (some .boolean), Cond.methodLink RX10 124 yX10_has]
def wsX10_rest_r2 : List Cond := [Cond.static yX10_has, Cond.code yX10_has cX10_has 2 (some .boolean), Cond.methodLink RX10 144 yX10_worthOf, Cond.instanceMethod yX10_worthOf, Cond.selects RX10 yX10_worthOf yX10_worthOf, Cond.code yX10_worthOf cX10_worthOf 3 (some .int), Cond.fieldLink RX10 17 "DearAsManyModel" "kind" "[I", Cond.fieldLink RX10 20 "DearAsManyModel" "w" "[I", Cond.fieldLink RX10 32 "DearAsManyModel" "season" "I", Cond.fieldLink RX10 23 "DearAsManyModel" "c" "[I", Cond.methodLink RX10 134 yX10_others, Cond.instanceMethod yX10_others, Cond.selects RX10 yX10_others yX10_others, Cond.code yX10_others cX10_others 3 (some .int), Cond.fieldLink RX10 26 "DearAsManyModel" "house" "[I", Cond.methodLink RX10 131 yX10_othersThan, Cond.instanceMethod yX10_othersThan, Cond.selects RX10 yX10_othersThan yX10_othersThan, Cond.code yX10_othersThan cX10_othersThan 5 (some .int), Cond.methodLink RX10 128 yX10_bits, Cond.static yX10_bits, Cond.code yX10_bits cX10_bits 3 (some .int), Cond.methodLink RX10 137 yX10_worthBy, Cond.static yX10_worthBy]
def wsX10_rest_r3 : List Cond := [Cond.code yX10_worthBy cX10_worthBy 4 (some .int), Cond.methodLink RX10 153 yX10_wouldThrow, Cond.instanceMethod yX10_wouldThrow, Cond.selects RX10 yX10_wouldThrow yX10_wouldThrow, Cond.code yX10_wouldThrow cX10_wouldThrow 3 (some .boolean)]
def wsX10_rest : List Cond := .code yX10_rest cX10_rest 7 (some .int) :: ((wsX10_rest_r1 ++ (wsX10_rest_r2 ++ wsX10_rest_r3)) ++ wsX100)
def wsX10_rests_r1 : List Cond := [Cond.fieldLink RX10 54 "DearAsManyModel" "leads" "[I", Cond.methodLink RX10 162 yX10_tells, Cond.instanceMethod yX10_tells, Cond.selects RX10 yX10_tells yX10_tells, Cond.initialized RX10, Cond.code yX10_tells cX10_tells 3 none, Cond.methodLink RX10 141 yX10_all, Cond.instanceMethod yX10_all, Cond.selects RX10 yX10_all yX10_all, Cond.code yX10_all cX10_all 1 (some .int), Cond.fieldLink RX10 13 "DearAsManyModel" "many" "I", Cond.methodLink RX10 156 yX10_round, Cond.instanceMethod yX10_round, Cond.selects RX10 yX10_round yX10_round, Cond.code yX10_round cX10_round 6 (some .int), Cond.methodLink RX10 150 yX10_wouldBuy, Cond.instanceMethod yX10_wouldBuy, Cond.selects RX10 yX10_wouldBuy yX10_wouldBuy, Cond.code yX10_wouldBuy cX10_wouldBuy 3 (some .boolean), Cond.methodLink RX10 124 yX10_has, Cond.static yX10_has, Cond.code yX10_has cX10_has 2 (some .boolean), Cond.methodLink RX10 144 yX10_worthOf, Cond.instanceMethod yX10_worthOf]
def wsX10_rests_r2 : List Cond := [Cond.selects RX10 yX10_worthOf yX10_worthOf, Cond.code yX10_worthOf cX10_worthOf 3 (some .int), Cond.fieldLink RX10 17 "DearAsManyModel" "kind" "[I", Cond.fieldLink RX10 20 "DearAsManyModel" "w" "[I", Cond.fieldLink RX10 32 "DearAsManyModel" "season" "I", Cond.fieldLink RX10 23 "DearAsManyModel" "c" "[I", Cond.methodLink RX10 134 yX10_others, Cond.instanceMethod yX10_others, Cond.selects RX10 yX10_others yX10_others, Cond.code yX10_others cX10_others 3 (some .int), Cond.fieldLink RX10 26 "DearAsManyModel" "house" "[I", Cond.methodLink RX10 131 yX10_othersThan, Cond.instanceMethod yX10_othersThan, Cond.selects RX10 yX10_othersThan yX10_othersThan, Cond.code yX10_othersThan cX10_othersThan 5 (some .int), Cond.methodLink RX10 128 yX10_bits, Cond.static yX10_bits, Cond.code yX10_bits cX10_bits 3 (some .int), Cond.methodLink RX10 137 yX10_worthBy, Cond.static yX10_worthBy, Cond.code yX10_worthBy cX10_worthBy 4 (some .int), Cond.methodLink RX10 153 yX10_wouldThrow, Cond.instanceMethod yX10_wouldThrow, Cond.selects RX10 yX10_wouldThrow yX10_wouldThrow]
def wsX10_rests_r3 : List Cond := [Cond.code yX10_wouldThrow cX10_wouldThrow 3 (some .boolean)]
def wsX10_rests : List Cond := .code yX10_rests cX10_rests 4 (some .int) :: ((wsX10_rests_r1 ++ (wsX10_rests_r2 ++ wsX10_rests_r3)) ++ wsX100)
def wsX10_tip_r1 : List Cond := [Cond.fieldLink RX10 107 "DearAsManyModel" "owners" "I", Cond.fieldLink RX10 54 "DearAsManyModel" "leads" "[I", Cond.methodLink RX10 141 yX10_all, Cond.instanceMethod yX10_all, Cond.selects RX10 yX10_all yX10_all, Cond.initialized RX10, Cond.code yX10_all cX10_all 1 (some .int), Cond.fieldLink RX10 13 "DearAsManyModel" "many" "I", Cond.methodLink RX10 57 yX10_in, Cond.static yX10_in, Cond.code yX10_in cX10_in 6 (some .boolean), Cond.methodLink RX10 162 yX10_tells, Cond.instanceMethod yX10_tells, Cond.selects RX10 yX10_tells yX10_tells, Cond.code yX10_tells cX10_tells 3 none, Cond.methodLink RX10 156 yX10_round, Cond.instanceMethod yX10_round, Cond.selects RX10 yX10_round yX10_round, Cond.code yX10_round cX10_round 6 (some .int), Cond.methodLink RX10 150 yX10_wouldBuy, Cond.instanceMethod yX10_wouldBuy, Cond.selects RX10 yX10_wouldBuy yX10_wouldBuy, Cond.code yX10_wouldBuy cX10_wouldBuy 3 (some .boolean), Cond.methodLink RX10 124 yX10_has]
def wsX10_tip_r2 : List Cond := [Cond.static yX10_has, Cond.code yX10_has cX10_has 2 (some .boolean), Cond.methodLink RX10 144 yX10_worthOf, Cond.instanceMethod yX10_worthOf, Cond.selects RX10 yX10_worthOf yX10_worthOf, Cond.code yX10_worthOf cX10_worthOf 3 (some .int), Cond.fieldLink RX10 17 "DearAsManyModel" "kind" "[I", Cond.fieldLink RX10 20 "DearAsManyModel" "w" "[I", Cond.fieldLink RX10 32 "DearAsManyModel" "season" "I", Cond.fieldLink RX10 23 "DearAsManyModel" "c" "[I", Cond.methodLink RX10 134 yX10_others, Cond.instanceMethod yX10_others, Cond.selects RX10 yX10_others yX10_others, Cond.code yX10_others cX10_others 3 (some .int), Cond.fieldLink RX10 26 "DearAsManyModel" "house" "[I", Cond.methodLink RX10 131 yX10_othersThan, Cond.instanceMethod yX10_othersThan, Cond.selects RX10 yX10_othersThan yX10_othersThan, Cond.code yX10_othersThan cX10_othersThan 5 (some .int), Cond.methodLink RX10 128 yX10_bits, Cond.static yX10_bits, Cond.code yX10_bits cX10_bits 3 (some .int), Cond.methodLink RX10 137 yX10_worthBy, Cond.static yX10_worthBy]
def wsX10_tip_r3 : List Cond := [Cond.code yX10_worthBy cX10_worthBy 4 (some .int), Cond.methodLink RX10 153 yX10_wouldThrow, Cond.instanceMethod yX10_wouldThrow, Cond.selects RX10 yX10_wouldThrow yX10_wouldThrow, Cond.code yX10_wouldThrow cX10_wouldThrow 3 (some .boolean)]
def wsX10_tip : List Cond := .code yX10_tip cX10_tip 8 (some .int) :: ((wsX10_tip_r1 ++ (wsX10_tip_r2 ++ wsX10_tip_r3)) ++ wsX100)
def wsX10_place_r1 : List Cond := [Cond.fieldLink RX10 107 "DearAsManyModel" "owners" "I", Cond.fieldLink RX10 13 "DearAsManyModel" "many" "I", Cond.methodLink RX10 119 yX10_isPerson, Cond.instanceMethod yX10_isPerson, Cond.selects RX10 yX10_isPerson yX10_isPerson, Cond.initialized RX10, Cond.code yX10_isPerson cX10_isPerson 2 (some .boolean), Cond.methodLink RX10 57 yX10_in, Cond.static yX10_in, Cond.code yX10_in cX10_in 6 (some .boolean), Cond.methodLink RX10 124 yX10_has, Cond.static yX10_has, Cond.code yX10_has cX10_has 2 (some .boolean), Cond.methodLink RX10 128 yX10_bits, Cond.static yX10_bits, Cond.code yX10_bits cX10_bits 3 (some .int), Cond.methodLink RX10 134 yX10_others, Cond.instanceMethod yX10_others, Cond.selects RX10 yX10_others yX10_others, Cond.code yX10_others cX10_others 3 (some .int), Cond.fieldLink RX10 26 "DearAsManyModel" "house" "[I", Cond.methodLink RX10 131 yX10_othersThan, Cond.instanceMethod yX10_othersThan, Cond.selects RX10 yX10_othersThan yX10_othersThan]
def wsX10_place_r2 : List Cond := [Cond.code yX10_othersThan cX10_othersThan 5 (some .int), Cond.methodLink RX10 150 yX10_wouldBuy, Cond.instanceMethod yX10_wouldBuy, Cond.selects RX10 yX10_wouldBuy yX10_wouldBuy, Cond.code yX10_wouldBuy cX10_wouldBuy 3 (some .boolean), Cond.methodLink RX10 144 yX10_worthOf, Cond.instanceMethod yX10_worthOf, Cond.selects RX10 yX10_worthOf yX10_worthOf, Cond.code yX10_worthOf cX10_worthOf 3 (some .int), Cond.fieldLink RX10 17 "DearAsManyModel" "kind" "[I", Cond.fieldLink RX10 20 "DearAsManyModel" "w" "[I", Cond.fieldLink RX10 32 "DearAsManyModel" "season" "I", Cond.fieldLink RX10 23 "DearAsManyModel" "c" "[I", Cond.methodLink RX10 137 yX10_worthBy, Cond.static yX10_worthBy, Cond.code yX10_worthBy cX10_worthBy 4 (some .int)]
def wsX10_place : List Cond := .code yX10_place cX10_place 11 (some .int) :: ((wsX10_place_r1 ++ wsX10_place_r2) ++ wsX100)
def wsX10_burn_r1 : List Cond := [Cond.fieldLink RX10 107 "DearAsManyModel" "owners" "I", Cond.methodLink RX10 119 yX10_isPerson, Cond.instanceMethod yX10_isPerson, Cond.selects RX10 yX10_isPerson yX10_isPerson, Cond.initialized RX10, Cond.code yX10_isPerson cX10_isPerson 2 (some .boolean), Cond.fieldLink RX10 13 "DearAsManyModel" "many" "I", Cond.methodLink RX10 57 yX10_in, Cond.static yX10_in, Cond.code yX10_in cX10_in 6 (some .boolean), Cond.methodLink RX10 124 yX10_has, Cond.static yX10_has, Cond.code yX10_has cX10_has 2 (some .boolean), Cond.methodLink RX10 141 yX10_all, Cond.instanceMethod yX10_all, Cond.selects RX10 yX10_all yX10_all, Cond.code yX10_all cX10_all 1 (some .int), Cond.methodLink RX10 150 yX10_wouldBuy, Cond.instanceMethod yX10_wouldBuy, Cond.selects RX10 yX10_wouldBuy yX10_wouldBuy, Cond.code yX10_wouldBuy cX10_wouldBuy 3 (some .boolean), Cond.methodLink RX10 144 yX10_worthOf, Cond.instanceMethod yX10_worthOf, Cond.selects RX10 yX10_worthOf yX10_worthOf]
def wsX10_burn_r2 : List Cond := [Cond.code yX10_worthOf cX10_worthOf 3 (some .int), Cond.fieldLink RX10 17 "DearAsManyModel" "kind" "[I", Cond.fieldLink RX10 20 "DearAsManyModel" "w" "[I", Cond.fieldLink RX10 32 "DearAsManyModel" "season" "I", Cond.fieldLink RX10 23 "DearAsManyModel" "c" "[I", Cond.methodLink RX10 134 yX10_others, Cond.instanceMethod yX10_others, Cond.selects RX10 yX10_others yX10_others, Cond.code yX10_others cX10_others 3 (some .int), Cond.fieldLink RX10 26 "DearAsManyModel" "house" "[I", Cond.methodLink RX10 131 yX10_othersThan, Cond.instanceMethod yX10_othersThan, Cond.selects RX10 yX10_othersThan yX10_othersThan, Cond.code yX10_othersThan cX10_othersThan 5 (some .int), Cond.methodLink RX10 128 yX10_bits, Cond.static yX10_bits, Cond.code yX10_bits cX10_bits 3 (some .int), Cond.methodLink RX10 137 yX10_worthBy, Cond.static yX10_worthBy, Cond.code yX10_worthBy cX10_worthBy 4 (some .int)]
def wsX10_burn : List Cond := .code yX10_burn cX10_burn 5 (some .int) :: ((wsX10_burn_r1 ++ wsX10_burn_r2) ++ wsX100)
def wsX10_share_r1 : List Cond := [Cond.fieldLink RX10 13 "DearAsManyModel" "many" "I", Cond.fieldLink RX10 107 "DearAsManyModel" "owners" "I", Cond.fieldLink RX10 17 "DearAsManyModel" "kind" "[I", Cond.fieldLink RX10 20 "DearAsManyModel" "w" "[I", Cond.fieldLink RX10 32 "DearAsManyModel" "season" "I", Cond.fieldLink RX10 23 "DearAsManyModel" "c" "[I", Cond.methodLink RX10 124 yX10_has, Cond.static yX10_has, Cond.initialized RX10, Cond.code yX10_has cX10_has 2 (some .boolean), Cond.methodLink RX10 134 yX10_others, Cond.instanceMethod yX10_others, Cond.selects RX10 yX10_others yX10_others, Cond.code yX10_others cX10_others 3 (some .int), Cond.fieldLink RX10 26 "DearAsManyModel" "house" "[I", Cond.methodLink RX10 131 yX10_othersThan, Cond.instanceMethod yX10_othersThan, Cond.selects RX10 yX10_othersThan yX10_othersThan, Cond.code yX10_othersThan cX10_othersThan 5 (some .int), Cond.methodLink RX10 128 yX10_bits, Cond.static yX10_bits, Cond.code yX10_bits cX10_bits 3 (some .int), Cond.methodLink RX10 144 yX10_worthOf, Cond.instanceMethod yX10_worthOf]
def wsX10_share_r2 : List Cond := [Cond.selects RX10 yX10_worthOf yX10_worthOf, Cond.code yX10_worthOf cX10_worthOf 3 (some .int), Cond.methodLink RX10 137 yX10_worthBy, Cond.static yX10_worthBy, Cond.code yX10_worthBy cX10_worthBy 4 (some .int)]
def wsX10_share : List Cond := .code yX10_share cX10_share 7 (some .int) :: ((wsX10_share_r1 ++ wsX10_share_r2) ++ wsX100)
def wsX10_seen : List Cond := .code yX10_seen cX10_seen 4 (some .int) :: ([.constantLong RX10 166 (7), .fieldLink RX10 110 "DearAsManyModel" "sights" "I", .fieldLink RX10 41 "DearAsManyModel" "sightWho" "[I", .fieldLink RX10 44 "DearAsManyModel" "sightOthers" "[I", .fieldLink RX10 47 "DearAsManyModel" "sightBought" "[Z", .methodLink RX10 119 yX10_isPerson, .instanceMethod yX10_isPerson, .selects RX10 yX10_isPerson yX10_isPerson, .initialized RX10, .code yX10_isPerson cX10_isPerson 2 (some .boolean), .fieldLink RX10 13 "DearAsManyModel" "many" "I", .methodLink RX10 57 yX10_in, .static yX10_in, .code yX10_in cX10_in 6 (some .boolean)] ++ wsX100)
def wsX10_forget : List Cond := .code yX10_forget cX10_forget 2 (some .int) :: ([.fieldLink RX10 110 "DearAsManyModel" "sights" "I"] ++ wsX100)
def wsX10_likes : List Cond := .code yX10_likes cX10_likes 9 (some .int) :: ([.fieldLink RX10 110 "DearAsManyModel" "sights" "I", .fieldLink RX10 17 "DearAsManyModel" "kind" "[I", .fieldLink RX10 23 "DearAsManyModel" "c" "[I", .fieldLink RX10 44 "DearAsManyModel" "sightOthers" "[I", .fieldLink RX10 41 "DearAsManyModel" "sightWho" "[I", .fieldLink RX10 47 "DearAsManyModel" "sightBought" "[Z", .methodLink RX10 119 yX10_isPerson, .instanceMethod yX10_isPerson, .selects RX10 yX10_isPerson yX10_isPerson, .initialized RX10, .code yX10_isPerson cX10_isPerson 2 (some .boolean), .fieldLink RX10 13 "DearAsManyModel" "many" "I", .methodLink RX10 57 yX10_in, .static yX10_in, .code yX10_in cX10_in 6 (some .boolean), .methodLink RX10 137 yX10_worthBy, .static yX10_worthBy, .code yX10_worthBy cX10_worthBy 4 (some .int)] ++ wsX100)
def wsX10_year_r1 : List Cond := [Cond.constantLong RX10 168 (9999), Cond.constantLong RX10 170 (100), Cond.fieldLink RX10 32 "DearAsManyModel" "season" "I", Cond.fieldLink RX10 107 "DearAsManyModel" "owners" "I", Cond.constantLong RX10 172 (7919), Cond.constantLong RX10 174 (6151), Cond.constantLong RX10 176 (65521), Cond.methodLink RX10 57 yX10_in, Cond.static yX10_in, Cond.initialized RX10, Cond.code yX10_in cX10_in 6 (some .boolean), Cond.methodLink RX10 156 yX10_round, Cond.instanceMethod yX10_round, Cond.selects RX10 yX10_round yX10_round, Cond.code yX10_round cX10_round 6 (some .int), Cond.fieldLink RX10 13 "DearAsManyModel" "many" "I", Cond.methodLink RX10 150 yX10_wouldBuy, Cond.instanceMethod yX10_wouldBuy, Cond.selects RX10 yX10_wouldBuy yX10_wouldBuy, Cond.code yX10_wouldBuy cX10_wouldBuy 3 (some .boolean), Cond.methodLink RX10 124 yX10_has, Cond.static yX10_has, Cond.code yX10_has cX10_has 2 (some .boolean), Cond.methodLink RX10 144 yX10_worthOf]
def wsX10_year_r2 : List Cond := [Cond.instanceMethod yX10_worthOf, Cond.selects RX10 yX10_worthOf yX10_worthOf, Cond.code yX10_worthOf cX10_worthOf 3 (some .int), Cond.fieldLink RX10 17 "DearAsManyModel" "kind" "[I", Cond.fieldLink RX10 20 "DearAsManyModel" "w" "[I", Cond.fieldLink RX10 23 "DearAsManyModel" "c" "[I", Cond.methodLink RX10 134 yX10_others, Cond.instanceMethod yX10_others, Cond.selects RX10 yX10_others yX10_others, Cond.code yX10_others cX10_others 3 (some .int), Cond.fieldLink RX10 26 "DearAsManyModel" "house" "[I", Cond.methodLink RX10 131 yX10_othersThan, Cond.instanceMethod yX10_othersThan, Cond.selects RX10 yX10_othersThan yX10_othersThan, Cond.code yX10_othersThan cX10_othersThan 5 (some .int), Cond.methodLink RX10 128 yX10_bits, Cond.static yX10_bits, Cond.code yX10_bits cX10_bits 3 (some .int), Cond.methodLink RX10 137 yX10_worthBy, Cond.static yX10_worthBy, Cond.code yX10_worthBy cX10_worthBy 4 (some .int), Cond.methodLink RX10 153 yX10_wouldThrow, Cond.instanceMethod yX10_wouldThrow, Cond.selects RX10 yX10_wouldThrow yX10_wouldThrow]
def wsX10_year_r3 : List Cond := [Cond.code yX10_wouldThrow cX10_wouldThrow 3 (some .boolean)]
def wsX10_year : List Cond := .code yX10_year cX10_year 11 (some .int) :: ((wsX10_year_r1 ++ (wsX10_year_r2 ++ wsX10_year_r3)) ++ wsX100)
def wsX10_keep : List Cond := .code yX10_keep cX10_keep 2 (some .int) :: ([.fieldLink RX10 116 "DearAsManyModel" "kepts" "I", .fieldLink RX10 38 "DearAsManyModel" "kept" "[I", .fieldLink RX10 107 "DearAsManyModel" "owners" "I", .fieldLink RX10 29 "DearAsManyModel" "pennies" "[I"] ++ wsX100)
def wsX10_back : List Cond := .code yX10_back cX10_back 2 (some .int) :: ([.fieldLink RX10 116 "DearAsManyModel" "kepts" "I", .fieldLink RX10 38 "DearAsManyModel" "kept" "[I", .fieldLink RX10 107 "DearAsManyModel" "owners" "I", .fieldLink RX10 29 "DearAsManyModel" "pennies" "[I", .fieldLink RX10 113 "DearAsManyModel" "undos" "I"] ++ wsX100)
def wsX10_count : List Cond := .code yX10_count cX10_count 2 (some .int) :: ([.fieldLink RX10 13 "DearAsManyModel" "many" "I", .fieldLink RX10 107 "DearAsManyModel" "owners" "I", .fieldLink RX10 32 "DearAsManyModel" "season" "I", .fieldLink RX10 110 "DearAsManyModel" "sights" "I", .fieldLink RX10 113 "DearAsManyModel" "undos" "I", .fieldLink RX10 116 "DearAsManyModel" "kepts" "I", .fieldLink RX10 63 "DearAsManyModel" "size" "I"] ++ wsX100)
theorem inJ6 : ∀ w ∈ wsJ60, w ∈ lw_tbl := by decide +kernel
abbrev vwCl : List vw_C := [(RX0, TX0, 1), (RX1, TX1, 2), (RX2, TX2, 2), (RX3, TX3, 2), (RX4, TX4, 4), (RX5, TX5, 3), (RX6, TX6, 2), (RX7, TX7, 4), (RX8, TX8, 2), (RX9, TX9, 10), (RX10, TX10, 24)]
/-! ===== END printed: names ===== -/
end
section
set_option maxRecDepth 20000 in
theorem ggX0_bestAhead_J6_bitCount_0f7a4 : GoodIn wsX0_bestAhead wsJ6_bitCount_0f7a4 := goodIn_r _ [7, 8, 9, 10] (by decide +kernel) (by decide +kernel)
set_option maxRecDepth 20000 in
theorem gX0_bestAhead_J6_bitCount_0f7a4 : GoodIn wsX0_bestAhead (va_wsS RX0 27 yJ6_bitCount_0f7a4 wsJ6_bitCount_0f7a4) := goodIn_app (goodIn_of _ (by decide +kernel)) ggX0_bestAhead_J6_bitCount_0f7a4
set_option maxRecDepth 20000 in
theorem ggX0_bestAhead_X0_gainBehind : GoodIn wsX0_bestAhead wsX0_gainBehind := goodIn_r _ [15, 1, 2, 3, 16, 17, 18, 19, 20, 21, 22, 23, 24, 25, 26, 27, 28, 29, 30, 31, 32, 33, 34, 35, 36, 37, 38, 5, 6, 7, 8, 9, 10, 39, 40, 41, 42, 43, 44, 45, 46, 47, 48, 49, 50, 51, 52, 53, 54, 55, 56, 57, 58, 59, 60] (by decide +kernel) (by decide +kernel)
set_option maxRecDepth 20000 in
theorem gX0_bestAhead_X0_gainBehind : GoodIn wsX0_bestAhead (wsV RX0 33 RX0 yX0_gainBehind wsX0_gainBehind) := goodIn_app (goodIn_of _ (by decide +kernel)) ggX0_bestAhead_X0_gainBehind
set_option maxRecDepth 20000 in
theorem ggX0_gainBehind_X9_has : GoodIn wsX0_gainBehind wsX9_has := goodIn_r _ [7, 8, 9, 6, 10] (by decide +kernel) (by decide +kernel)
set_option maxRecDepth 20000 in
theorem gX0_gainBehind_X9_has_n37 : GoodIn wsX0_gainBehind (wsX9_has) := ggX0_gainBehind_X9_has
set_option maxRecDepth 20000 in
theorem ggX0_gainBehind_X3_othersOf : GoodIn wsX0_gainBehind wsX3_othersOf := goodIn_r _ [15, 16, 17, 18, 6, 19, 20, 21, 22, 23, 24, 25, 9, 10, 26, 27, 28, 29, 30, 31, 32, 49, 50, 51, 52, 53, 54] (by decide +kernel) (by decide +kernel)
set_option maxRecDepth 20000 in
theorem gX0_gainBehind_X3_othersOf : GoodIn wsX0_gainBehind (wsV RX0 41 RX3 yX3_othersOf wsX3_othersOf) := goodIn_app (goodIn_of _ (by decide +kernel)) ggX0_gainBehind_X3_othersOf
set_option maxRecDepth 20000 in
theorem ggX0_gainBehind_X9_bit : GoodIn wsX0_gainBehind wsX9_bit := goodIn_r _ [10] (by decide +kernel) (by decide +kernel)
set_option maxRecDepth 20000 in
theorem gX0_gainBehind_X9_bit_n45 : GoodIn wsX0_gainBehind (wsX9_bit) := ggX0_gainBehind_X9_bit
set_option maxRecDepth 20000 in
theorem ggX0_gainBehind_X3_wants : GoodIn wsX0_gainBehind wsX3_wants := goodIn_r _ [36, 37, 12, 13, 14, 15, 16, 17, 18, 6, 19, 20, 21, 22, 23, 24, 25, 9, 10, 26, 27, 28, 29, 30, 31, 32, 38, 39, 40, 41, 42, 43, 49, 50, 51, 52, 53, 54] (by decide +kernel) (by decide +kernel)
set_option maxRecDepth 20000 in
theorem gX0_gainBehind_X3_wants : GoodIn wsX0_gainBehind (wsV RX0 51 RX3 yX3_wants wsX3_wants) := goodIn_app (goodIn_of _ (by decide +kernel)) ggX0_gainBehind_X3_wants
set_option maxRecDepth 20000 in
theorem ggX0_gainBehind_X3_valueTo : GoodIn wsX0_gainBehind wsX3_valueTo := goodIn_r _ [47, 37, 12, 13, 14, 15, 16, 17, 18, 6, 19, 20, 21, 22, 23, 24, 25, 9, 10, 26, 27, 28, 29, 30, 31, 32, 38, 39, 40, 41, 42, 43, 49, 50, 51, 52, 53, 54] (by decide +kernel) (by decide +kernel)
set_option maxRecDepth 20000 in
theorem gX0_gainBehind_X3_valueTo : GoodIn wsX0_gainBehind (wsV RX0 55 RX3 yX3_valueTo wsX3_valueTo) := goodIn_app (goodIn_of _ (by decide +kernel)) ggX0_gainBehind_X3_valueTo
set_option maxRecDepth 20000 in
theorem ggX0_leastBurnt_J6_bitCount_0f7a4 : GoodIn wsX0_leastBurnt wsJ6_bitCount_0f7a4 := goodIn_r _ [7, 8, 9, 10] (by decide +kernel) (by decide +kernel)
set_option maxRecDepth 20000 in
theorem gX0_leastBurnt_J6_bitCount_0f7a4 : GoodIn wsX0_leastBurnt (va_wsS RX0 27 yJ6_bitCount_0f7a4 wsJ6_bitCount_0f7a4) := goodIn_app (goodIn_of _ (by decide +kernel)) ggX0_leastBurnt_J6_bitCount_0f7a4
set_option maxRecDepth 20000 in
theorem ggX0_leastBurnt_X3_wants : GoodIn wsX0_leastBurnt wsX3_wants := goodIn_r _ [15, 16, 17, 18, 14, 19, 20, 21, 22, 23, 24, 25, 26, 27, 28, 29, 30, 31, 32, 33, 5, 6, 7, 8, 9, 10, 34, 35, 36, 37, 38, 39, 41, 42, 43, 44, 45, 46] (by decide +kernel) (by decide +kernel)
set_option maxRecDepth 20000 in
theorem gX0_leastBurnt_X3_wants : GoodIn wsX0_leastBurnt (wsV RX0 51 RX3 yX3_wants wsX3_wants) := goodIn_app (goodIn_of _ (by decide +kernel)) ggX0_leastBurnt_X3_wants
set_option maxRecDepth 20000 in
theorem ggX0_bestPair_X9_has : GoodIn wsX0_bestPair wsX9_has := goodIn_r _ [6, 7, 8, 5, 9] (by decide +kernel) (by decide +kernel)
set_option maxRecDepth 20000 in
theorem gX0_bestPair_X9_has_n37 : GoodIn wsX0_bestPair (wsX9_has) := ggX0_bestPair_X9_has
set_option maxRecDepth 20000 in
theorem ggX0_bestPair_X0_gainTogether : GoodIn wsX0_bestPair wsX0_gainTogether := goodIn_r _ [14, 1, 2, 15, 16, 17, 18, 19, 20, 21, 22, 23, 5, 24, 25, 26, 27, 28, 29, 30, 8, 9, 31, 32, 33, 34, 35, 36, 37, 38, 39, 40, 41, 42, 43, 44, 45, 46, 47, 48, 49, 50] (by decide +kernel) (by decide +kernel)
set_option maxRecDepth 20000 in
theorem gX0_bestPair_X0_gainTogether : GoodIn wsX0_bestPair (wsV RX0 58 RX0 yX0_gainTogether wsX0_gainTogether) := goodIn_app (goodIn_of _ (by decide +kernel)) ggX0_bestPair_X0_gainTogether
set_option maxRecDepth 20000 in
theorem ggX0_gainTogether_X3_othersOf : GoodIn wsX0_gainTogether wsX3_othersOf := goodIn_r _ [8, 9, 10, 11, 12, 13, 14, 15, 16, 17, 18, 19, 20, 21, 22, 23, 24, 25, 26, 27, 28, 36, 37, 38, 39, 40, 41] (by decide +kernel) (by decide +kernel)
set_option maxRecDepth 20000 in
theorem gX0_gainTogether_X3_othersOf : GoodIn wsX0_gainTogether (wsV RX0 41 RX3 yX3_othersOf wsX3_othersOf) := goodIn_app (goodIn_of _ (by decide +kernel)) ggX0_gainTogether_X3_othersOf
set_option maxRecDepth 20000 in
theorem ggX0_gainTogether_X3_valueWith : GoodIn wsX0_gainTogether wsX3_valueWith := goodIn_r _ [32, 10, 14, 15, 16, 17, 18, 19, 33, 12, 34, 36, 37, 38, 39, 40, 41] (by decide +kernel) (by decide +kernel)
set_option maxRecDepth 20000 in
theorem gX0_gainTogether_X3_valueWith : GoodIn wsX0_gainTogether (wsV RX0 61 RX3 yX3_valueWith wsX3_valueWith) := goodIn_app (goodIn_of _ (by decide +kernel)) ggX0_gainTogether_X3_valueWith
set_option maxRecDepth 20000 in
theorem ggX1_ownersBehind_X3_nextOwners : GoodIn wsX1_ownersBehind wsX3_nextOwners := goodIn_r _ [8, 9, 10, 11, 12, 13, 7, 14, 15, 16, 17, 18, 19, 20, 21, 22, 23, 24, 25, 26, 27, 28, 29, 30, 31, 32, 33, 34, 35, 36, 37, 38, 39, 40, 41, 42, 43, 44, 45, 46, 49, 50, 51, 52, 53, 54] (by decide +kernel) (by decide +kernel)
set_option maxRecDepth 20000 in
theorem gX1_ownersBehind_X3_nextOwners : GoodIn wsX1_ownersBehind (wsV RX1 31 RX3 yX3_nextOwners wsX3_nextOwners) := goodIn_app (goodIn_of _ (by decide +kernel)) ggX1_ownersBehind_X3_nextOwners
set_option maxRecDepth 20000 in
theorem ggX1_roundsToRest_X3_nextOwners : GoodIn wsX1_roundsToRest wsX3_nextOwners := goodIn_r _ [8, 9, 10, 11, 12, 13, 7, 14, 15, 16, 17, 18, 19, 20, 21, 22, 23, 24, 25, 26, 27, 28, 29, 30, 31, 32, 33, 34, 35, 36, 37, 38, 39, 40, 41, 42, 43, 44, 45, 46, 49, 50, 51, 52, 53, 54] (by decide +kernel) (by decide +kernel)
set_option maxRecDepth 20000 in
theorem gX1_roundsToRest_X3_nextOwners : GoodIn wsX1_roundsToRest (wsV RX1 31 RX3 yX3_nextOwners wsX3_nextOwners) := goodIn_app (goodIn_of _ (by decide +kernel)) ggX1_roundsToRest_X3_nextOwners
set_option maxRecDepth 20000 in
theorem ggX1_roundsOfSwing_X1_ownersBehind : GoodIn wsX1_roundsOfSwing wsX1_ownersBehind := goodIn_r _ [8, 1, 2, 3, 9, 10, 11, 12, 13, 14, 15, 16, 17, 18, 19, 20, 21, 22, 23, 24, 25, 26, 27, 28, 29, 30, 31, 32, 33, 34, 35, 36, 37, 38, 39, 40, 41, 42, 43, 44, 45, 46, 47, 48, 49, 50, 51, 52, 53, 54, 55, 56, 57, 58, 59] (by decide +kernel) (by decide +kernel)
set_option maxRecDepth 20000 in
theorem gX1_roundsOfSwing_X1_ownersBehind : GoodIn wsX1_roundsOfSwing (wsV RX1 35 RX1 yX1_ownersBehind wsX1_ownersBehind) := goodIn_app (goodIn_of _ (by decide +kernel)) ggX1_roundsOfSwing_X1_ownersBehind
set_option maxRecDepth 20000 in
theorem ggX1_roundsOfSwing_X3_nextOwners : GoodIn wsX1_roundsOfSwing wsX3_nextOwners := goodIn_r _ [13, 14, 15, 16, 17, 18, 12, 19, 20, 21, 22, 23, 24, 25, 26, 27, 28, 29, 30, 31, 32, 33, 34, 35, 36, 37, 38, 39, 40, 41, 42, 43, 44, 45, 46, 47, 48, 49, 50, 51, 54, 55, 56, 57, 58, 59] (by decide +kernel) (by decide +kernel)
set_option maxRecDepth 20000 in
theorem gX1_roundsOfSwing_X3_nextOwners : GoodIn wsX1_roundsOfSwing (wsV RX1 31 RX3 yX3_nextOwners wsX3_nextOwners) := goodIn_app (goodIn_of _ (by decide +kernel)) ggX1_roundsOfSwing_X3_nextOwners
set_option maxRecDepth 20000 in
theorem ggX1_restsWith_X3_changersBy : GoodIn wsX1_restsWith wsX3_changersBy := goodIn_r _ [8, 9, 10, 11, 12, 13, 7, 14, 15, 16, 17, 18, 19, 20, 21, 22, 23, 24, 25, 26, 27, 28, 29, 30, 31, 32, 33, 34, 35, 36, 37, 38, 39, 40, 41, 42, 43, 44, 45, 46, 49, 50, 51, 52, 53, 54] (by decide +kernel) (by decide +kernel)
set_option maxRecDepth 20000 in
theorem gX1_restsWith_X3_changersBy : GoodIn wsX1_restsWith (wsV RX1 39 RX3 yX3_changersBy wsX3_changersBy) := goodIn_app (goodIn_of _ (by decide +kernel)) ggX1_restsWith_X3_changersBy
set_option maxRecDepth 20000 in
theorem ggX1_countRests_X4_sets : GoodIn wsX1_countRests wsX4_sets := goodIn_r _ [7, 8, 61, 62, 63, 64] (by decide +kernel) (by decide +kernel)
set_option maxRecDepth 20000 in
theorem gX1_countRests_X4_sets : GoodIn wsX1_countRests (wsV RX1 43 RX4 yX4_sets wsX4_sets) := goodIn_app (goodIn_of _ (by decide +kernel)) ggX1_countRests_X4_sets
set_option maxRecDepth 20000 in
theorem ggX1_countRests_X1_restsWith : GoodIn wsX1_countRests wsX1_restsWith := goodIn_r _ [13, 1, 2, 14, 15, 16, 17, 18, 19, 20, 21, 22, 23, 24, 25, 26, 27, 28, 29, 30, 31, 32, 33, 34, 35, 36, 6, 37, 38, 39, 40, 41, 42, 43, 44, 45, 46, 47, 48, 49, 50, 51, 52, 53, 54, 55, 56, 57, 58, 59, 60, 61, 62, 63, 64] (by decide +kernel) (by decide +kernel)
set_option maxRecDepth 20000 in
theorem gX1_countRests_X1_restsWith : GoodIn wsX1_countRests (wsV RX1 47 RX1 yX1_restsWith wsX1_restsWith) := goodIn_app (goodIn_of _ (by decide +kernel)) ggX1_countRests_X1_restsWith
set_option maxRecDepth 20000 in
theorem ggX1_restAt_X4_sets : GoodIn wsX1_restAt wsX4_sets := goodIn_r _ [7, 8, 61, 62, 63, 64] (by decide +kernel) (by decide +kernel)
set_option maxRecDepth 20000 in
theorem gX1_restAt_X4_sets : GoodIn wsX1_restAt (wsV RX1 43 RX4 yX4_sets wsX4_sets) := goodIn_app (goodIn_of _ (by decide +kernel)) ggX1_restAt_X4_sets
set_option maxRecDepth 20000 in
theorem ggX1_restAt_X1_restsWith : GoodIn wsX1_restAt wsX1_restsWith := goodIn_r _ [13, 1, 2, 14, 15, 16, 17, 18, 19, 20, 21, 22, 23, 24, 25, 26, 27, 28, 29, 30, 31, 32, 33, 34, 35, 36, 6, 37, 38, 39, 40, 41, 42, 43, 44, 45, 46, 47, 48, 49, 50, 51, 52, 53, 54, 55, 56, 57, 58, 59, 60, 61, 62, 63, 64] (by decide +kernel) (by decide +kernel)
set_option maxRecDepth 20000 in
theorem gX1_restAt_X1_restsWith : GoodIn wsX1_restAt (wsV RX1 47 RX1 yX1_restsWith wsX1_restsWith) := goodIn_app (goodIn_of _ (by decide +kernel)) ggX1_restAt_X1_restsWith
set_option maxRecDepth 20000 in
theorem ggX1_leastPush_X1_restsWith : GoodIn wsX1_leastPush wsX1_restsWith := goodIn_r _ [8, 1, 2, 9, 10, 11, 12, 13, 14, 15, 16, 17, 18, 19, 20, 21, 22, 23, 24, 25, 26, 27, 28, 29, 30, 31, 32, 33, 34, 35, 36, 37, 38, 39, 40, 41, 42, 43, 44, 45, 46, 47, 48, 49, 50, 51, 52, 69, 70, 71, 72, 73, 74, 75, 76] (by decide +kernel) (by decide +kernel)
set_option maxRecDepth 20000 in
theorem gX1_leastPush_X1_restsWith : GoodIn wsX1_leastPush (wsV RX1 47 RX1 yX1_restsWith wsX1_restsWith) := goodIn_app (goodIn_of _ (by decide +kernel)) ggX1_leastPush_X1_restsWith
set_option maxRecDepth 20000 in
theorem ggX1_leastPush_X1_lookFarAhead : GoodIn wsX1_leastPush wsX1_lookFarAhead := goodIn_r _ [56, 1, 2, 9, 3, 57, 58, 59, 32, 60, 61, 62, 63, 64, 13, 65, 15, 16, 17, 18, 19, 20, 21, 22, 23, 24, 25, 26, 27, 28, 29, 30, 31, 33, 34, 35, 36, 37, 38, 39, 40, 41, 42, 43, 44, 45, 46, 47, 48, 49, 50, 51, 52, 66, 67, 69, 70, 71, 72, 73, 74, 75, 76] (by decide +kernel) (by decide +kernel)
set_option maxRecDepth 20000 in
theorem gX1_leastPush_X1_lookFarAhead : GoodIn wsX1_leastPush (wsV RX1 51 RX1 yX1_lookFarAhead wsX1_lookFarAhead) := goodIn_app (goodIn_of _ (by decide +kernel)) ggX1_leastPush_X1_lookFarAhead
set_option maxRecDepth 20000 in
theorem ggX1_leastPush_X4_sets : GoodIn wsX1_leastPush wsX4_sets := goodIn_r _ [60, 61, 73, 74, 75, 76] (by decide +kernel) (by decide +kernel)
set_option maxRecDepth 20000 in
theorem gX1_leastPush_X4_sets : GoodIn wsX1_leastPush (wsV RX1 43 RX4 yX4_sets wsX4_sets) := goodIn_app (goodIn_of _ (by decide +kernel)) ggX1_leastPush_X4_sets
set_option maxRecDepth 20000 in
theorem ggX1_leastPush_J6_bitCount_0f7a4 : GoodIn wsX1_leastPush wsJ6_bitCount_0f7a4 := goodIn_r _ [40, 41, 42, 43] (by decide +kernel) (by decide +kernel)
set_option maxRecDepth 20000 in
theorem gX1_leastPush_J6_bitCount_0f7a4 : GoodIn wsX1_leastPush (va_wsS RX1 55 yJ6_bitCount_0f7a4 wsJ6_bitCount_0f7a4) := goodIn_app (goodIn_of _ (by decide +kernel)) ggX1_leastPush_J6_bitCount_0f7a4
set_option maxRecDepth 20000 in
theorem ggX1_leastPush_X9_at : GoodIn wsX1_leastPush wsX9_at := goodIn_r _ [28] (by decide +kernel) (by decide +kernel)
set_option maxRecDepth 20000 in
theorem gX1_leastPush_X9_at_n61 : GoodIn wsX1_leastPush (wsX9_at) := ggX1_leastPush_X9_at
set_option maxRecDepth 20000 in
theorem ggX1_lookFarAhead_X4_sets : GoodIn wsX1_lookFarAhead wsX4_sets := goodIn_r _ [9, 10, 59, 60, 61, 62] (by decide +kernel) (by decide +kernel)
set_option maxRecDepth 20000 in
theorem gX1_lookFarAhead_X4_sets : GoodIn wsX1_lookFarAhead (wsV RX1 43 RX4 yX4_sets wsX4_sets) := goodIn_app (goodIn_of _ (by decide +kernel)) ggX1_lookFarAhead_X4_sets
set_option maxRecDepth 20000 in
theorem ggX1_lookFarAhead_X3_nextOwners : GoodIn wsX1_lookFarAhead wsX3_nextOwners := goodIn_r _ [15, 16, 17, 18, 19, 20, 14, 21, 22, 23, 24, 25, 26, 27, 28, 29, 30, 31, 32, 8, 33, 34, 35, 36, 37, 38, 39, 40, 41, 42, 43, 44, 45, 46, 47, 48, 49, 50, 51, 52, 57, 58, 59, 60, 61, 62] (by decide +kernel) (by decide +kernel)
set_option maxRecDepth 20000 in
theorem gX1_lookFarAhead_X3_nextOwners : GoodIn wsX1_lookFarAhead (wsV RX1 31 RX3 yX3_nextOwners wsX3_nextOwners) := goodIn_app (goodIn_of _ (by decide +kernel)) ggX1_lookFarAhead_X3_nextOwners
set_option maxRecDepth 20000 in
theorem ggX1_lookFarAhead_X9_put : GoodIn wsX1_lookFarAhead wsX9_put := goodIn_r _ [54] (by decide +kernel) (by decide +kernel)
set_option maxRecDepth 20000 in
theorem gX1_lookFarAhead_X9_put_n65 : GoodIn wsX1_lookFarAhead (wsX9_put) := ggX1_lookFarAhead_X9_put
set_option maxRecDepth 20000 in
theorem ggX1_lookFarAhead_X9_at : GoodIn wsX1_lookFarAhead wsX9_at := goodIn_r _ [29] (by decide +kernel) (by decide +kernel)
set_option maxRecDepth 20000 in
theorem gX1_lookFarAhead_X9_at_n61 : GoodIn wsX1_lookFarAhead (wsX9_at) := ggX1_lookFarAhead_X9_at
set_option maxRecDepth 20000 in
theorem ggX1_ownersBehindYear_X1_seasonOn : GoodIn wsX1_ownersBehindYear wsX1_seasonOn := goodIn_r _ [5, 6, 7, 8, 9] (by decide +kernel) (by decide +kernel)
set_option maxRecDepth 20000 in
theorem gX1_ownersBehindYear_X1_seasonOn : GoodIn wsX1_ownersBehindYear (va_wsS RX1 69 yX1_seasonOn wsX1_seasonOn) := goodIn_app (goodIn_of _ (by decide +kernel)) ggX1_ownersBehindYear_X1_seasonOn
set_option maxRecDepth 20000 in
theorem ggX1_ownersBehindYear_X3_nextOwners : GoodIn wsX1_ownersBehindYear wsX3_nextOwners := goodIn_r _ [14, 15, 16, 17, 18, 19, 13, 20, 21, 22, 23, 24, 25, 26, 27, 28, 29, 30, 31, 32, 33, 34, 35, 36, 37, 38, 39, 40, 41, 42, 43, 44, 45, 46, 47, 48, 49, 50, 51, 52, 56, 57, 58, 59, 60, 61] (by decide +kernel) (by decide +kernel)
set_option maxRecDepth 20000 in
theorem gX1_ownersBehindYear_X3_nextOwners : GoodIn wsX1_ownersBehindYear (wsV RX1 31 RX3 yX3_nextOwners wsX3_nextOwners) := goodIn_app (goodIn_of _ (by decide +kernel)) ggX1_ownersBehindYear_X3_nextOwners
set_option maxRecDepth 20000 in
theorem ggX1_ownersBehindYear_J6_bitCount_0f7a4 : GoodIn wsX1_ownersBehindYear wsJ6_bitCount_0f7a4 := goodIn_r _ [40, 41, 42, 43] (by decide +kernel) (by decide +kernel)
set_option maxRecDepth 20000 in
theorem gX1_ownersBehindYear_J6_bitCount_0f7a4 : GoodIn wsX1_ownersBehindYear (va_wsS RX1 55 yJ6_bitCount_0f7a4 wsJ6_bitCount_0f7a4) := goodIn_app (goodIn_of _ (by decide +kernel)) ggX1_ownersBehindYear_J6_bitCount_0f7a4
set_option maxRecDepth 20000 in
theorem ggX1_bestDay_X1_seasonOn : GoodIn wsX1_bestDay wsX1_seasonOn := goodIn_r _ [5, 6, 7, 8, 9] (by decide +kernel) (by decide +kernel)
set_option maxRecDepth 20000 in
theorem gX1_bestDay_X1_seasonOn : GoodIn wsX1_bestDay (va_wsS RX1 69 yX1_seasonOn wsX1_seasonOn) := goodIn_app (goodIn_of _ (by decide +kernel)) ggX1_bestDay_X1_seasonOn
set_option maxRecDepth 20000 in
theorem ggX1_bestDay_X3_nextOwners : GoodIn wsX1_bestDay wsX3_nextOwners := goodIn_r _ [14, 15, 16, 17, 18, 19, 13, 20, 21, 22, 23, 24, 25, 26, 27, 28, 29, 30, 31, 32, 33, 34, 35, 36, 37, 38, 39, 40, 41, 42, 43, 44, 45, 46, 47, 48, 49, 50, 51, 52, 56, 57, 58, 59, 60, 61] (by decide +kernel) (by decide +kernel)
set_option maxRecDepth 20000 in
theorem gX1_bestDay_X3_nextOwners : GoodIn wsX1_bestDay (wsV RX1 31 RX3 yX3_nextOwners wsX3_nextOwners) := goodIn_app (goodIn_of _ (by decide +kernel)) ggX1_bestDay_X3_nextOwners
set_option maxRecDepth 20000 in
theorem ggX1_bestDay_J6_bitCount_0f7a4 : GoodIn wsX1_bestDay wsJ6_bitCount_0f7a4 := goodIn_r _ [40, 41, 42, 43] (by decide +kernel) (by decide +kernel)
set_option maxRecDepth 20000 in
theorem gX1_bestDay_J6_bitCount_0f7a4 : GoodIn wsX1_bestDay (va_wsS RX1 55 yJ6_bitCount_0f7a4 wsJ6_bitCount_0f7a4) := goodIn_app (goodIn_of _ (by decide +kernel)) ggX1_bestDay_J6_bitCount_0f7a4
set_option maxRecDepth 20000 in
theorem ggX2_begin_X4_trait : GoodIn wsX2_begin wsX4_trait := goodIn_r _ [8, 9, 13, 14, 15, 16] (by decide +kernel) (by decide +kernel)
set_option maxRecDepth 20000 in
theorem gX2_begin_X4_trait : GoodIn wsX2_begin (wsV RX2 24 RX4 yX4_trait wsX4_trait) := goodIn_app (goodIn_of _ (by decide +kernel)) ggX2_begin_X4_trait
set_option maxRecDepth 20000 in
theorem ggX2_begin_X9_put : GoodIn wsX2_begin wsX9_put := goodIn_r _ [12] (by decide +kernel) (by decide +kernel)
set_option maxRecDepth 20000 in
theorem gX2_begin_X9_put_n28 : GoodIn wsX2_begin (wsX9_put) := ggX2_begin_X9_put
set_option maxRecDepth 20000 in
theorem ggX2_owns_X9_has : GoodIn wsX2_owns wsX9_has := goodIn_r _ [4, 5, 6, 3, 7] (by decide +kernel) (by decide +kernel)
set_option maxRecDepth 20000 in
theorem gX2_owns_X9_has_n32 : GoodIn wsX2_owns (wsX9_has) := ggX2_owns_X9_has
set_option maxRecDepth 20000 in
theorem ggX2_penniesOf_X9_at : GoodIn wsX2_penniesOf wsX9_at := goodIn_r _ [4] (by decide +kernel) (by decide +kernel)
set_option maxRecDepth 20000 in
theorem gX2_penniesOf_X9_at_n36 : GoodIn wsX2_penniesOf (wsX9_at) := ggX2_penniesOf_X9_at
set_option maxRecDepth 20000 in
theorem ggX2_earn_X9_at : GoodIn wsX2_earn wsX9_at := goodIn_r _ [4] (by decide +kernel) (by decide +kernel)
set_option maxRecDepth 20000 in
theorem gX2_earn_X9_at_n36 : GoodIn wsX2_earn (wsX9_at) := ggX2_earn_X9_at
set_option maxRecDepth 20000 in
theorem ggX2_earn_X9_put : GoodIn wsX2_earn wsX9_put := goodIn_r _ [6] (by decide +kernel) (by decide +kernel)
set_option maxRecDepth 20000 in
theorem gX2_earn_X9_put_n28 : GoodIn wsX2_earn (wsX9_put) := ggX2_earn_X9_put
set_option maxRecDepth 20000 in
theorem ggX3_init_X4_init : GoodIn wsX3_init wsX4_init := goodIn_r _ [11, 12, 2, 3, 8, 13, 14, 15, 16, 17, 18, 19, 20] (by decide +kernel) (by decide +kernel)
set_option maxRecDepth 20000 in
theorem gX3_init_X4_init_n11 : GoodIn wsX3_init (wsX4_init) := ggX3_init_X4_init
set_option maxRecDepth 20000 in
theorem ggX3_open_X4_copy : GoodIn wsX3_open wsX4_copy := goodIn_r _ [8, 9, 10, 11, 12, 13, 14, 15, 16, 17, 26, 27, 28, 29] (by decide +kernel) (by decide +kernel)
set_option maxRecDepth 20000 in
theorem gX3_open_X4_copy : GoodIn wsX3_open (wsV RX3 22 RX4 yX4_copy wsX4_copy) := goodIn_app (goodIn_of _ (by decide +kernel)) ggX3_open_X4_copy
set_option maxRecDepth 20000 in
theorem ggX3_open_X4_trait : GoodIn wsX3_open wsX4_trait := goodIn_r _ [21, 9, 26, 27, 28, 29] (by decide +kernel) (by decide +kernel)
set_option maxRecDepth 20000 in
theorem gX3_open_X4_trait : GoodIn wsX3_open (wsV RX3 30 RX4 yX4_trait wsX4_trait) := goodIn_app (goodIn_of _ (by decide +kernel)) ggX3_open_X4_trait
set_option maxRecDepth 20000 in
theorem ggX3_open_X9_bit : GoodIn wsX3_open wsX9_bit := goodIn_r _ [23] (by decide +kernel) (by decide +kernel)
set_option maxRecDepth 20000 in
theorem gX3_open_X9_bit_n34 : GoodIn wsX3_open (wsX9_bit) := ggX3_open_X9_bit
set_option maxRecDepth 20000 in
theorem ggX3_open_X9_at : GoodIn wsX3_open wsX9_at := goodIn_r _ [15] (by decide +kernel) (by decide +kernel)
set_option maxRecDepth 20000 in
theorem gX3_open_X9_at_n38 : GoodIn wsX3_open (wsX9_at) := ggX3_open_X9_at
set_option maxRecDepth 20000 in
theorem ggX3_open_X9_put : GoodIn wsX3_open wsX9_put := goodIn_r _ [17] (by decide +kernel) (by decide +kernel)
set_option maxRecDepth 20000 in
theorem gX3_open_X9_put_n42 : GoodIn wsX3_open (wsX9_put) := ggX3_open_X9_put
set_option maxRecDepth 20000 in
theorem ggX3_othersOf_X9_at : GoodIn wsX3_othersOf wsX9_at := goodIn_r _ [5] (by decide +kernel) (by decide +kernel)
set_option maxRecDepth 20000 in
theorem gX3_othersOf_X9_at_n38 : GoodIn wsX3_othersOf (wsX9_at) := ggX3_othersOf_X9_at
set_option maxRecDepth 20000 in
theorem ggX3_othersOf_X4_trait : GoodIn wsX3_othersOf wsX4_trait := goodIn_r _ [10, 11, 23, 24, 25, 26] (by decide +kernel) (by decide +kernel)
set_option maxRecDepth 20000 in
theorem gX3_othersOf_X4_trait : GoodIn wsX3_othersOf (wsV RX3 30 RX4 yX4_trait wsX4_trait) := goodIn_app (goodIn_of _ (by decide +kernel)) ggX3_othersOf_X4_trait
set_option maxRecDepth 20000 in
theorem ggX3_othersOf_X9_bit : GoodIn wsX3_othersOf wsX9_bit := goodIn_r _ [13] (by decide +kernel) (by decide +kernel)
set_option maxRecDepth 20000 in
theorem gX3_othersOf_X9_bit_n34 : GoodIn wsX3_othersOf (wsX9_bit) := ggX3_othersOf_X9_bit
set_option maxRecDepth 20000 in
theorem ggX3_othersOf_J6_bitCount_0f7a4 : GoodIn wsX3_othersOf wsJ6_bitCount_0f7a4 := goodIn_r _ [17, 18, 19, 20] (by decide +kernel) (by decide +kernel)
set_option maxRecDepth 20000 in
theorem gX3_othersOf_J6_bitCount_0f7a4 : GoodIn wsX3_othersOf (va_wsS RX3 46 yJ6_bitCount_0f7a4 wsJ6_bitCount_0f7a4) := goodIn_app (goodIn_of _ (by decide +kernel)) ggX3_othersOf_J6_bitCount_0f7a4
set_option maxRecDepth 20000 in
theorem ggX3_valueTo_X3_othersOf : GoodIn wsX3_valueTo wsX3_othersOf := goodIn_r _ [5, 6, 7, 8, 9, 10, 11, 12, 13, 14, 15, 16, 17, 18, 19, 20, 21, 22, 23, 24, 25, 32, 33, 34, 35, 36, 37] (by decide +kernel) (by decide +kernel)
set_option maxRecDepth 20000 in
theorem gX3_valueTo_X3_othersOf : GoodIn wsX3_valueTo (wsV RX3 51 RX3 yX3_othersOf wsX3_othersOf) := goodIn_app (goodIn_of _ (by decide +kernel)) ggX3_valueTo_X3_othersOf
set_option maxRecDepth 20000 in
theorem ggX3_valueTo_X3_valueWith : GoodIn wsX3_valueTo wsX3_valueWith := goodIn_r _ [29, 7, 11, 12, 13, 14, 15, 16, 30, 9, 31, 32, 33, 34, 35, 36, 37] (by decide +kernel) (by decide +kernel)
set_option maxRecDepth 20000 in
theorem gX3_valueTo_X3_valueWith : GoodIn wsX3_valueTo (wsV RX3 54 RX3 yX3_valueWith wsX3_valueWith) := goodIn_app (goodIn_of _ (by decide +kernel)) ggX3_valueTo_X3_valueWith
set_option maxRecDepth 20000 in
theorem ggX3_valueWith_X4_trait : GoodIn wsX3_valueWith wsX4_trait := goodIn_r _ [6, 7, 13, 14, 15, 16] (by decide +kernel) (by decide +kernel)
set_option maxRecDepth 20000 in
theorem gX3_valueWith_X4_trait : GoodIn wsX3_valueWith (wsV RX3 30 RX4 yX4_trait wsX4_trait) := goodIn_app (goodIn_of _ (by decide +kernel)) ggX3_valueWith_X4_trait
set_option maxRecDepth 20000 in
theorem ggX3_valueWith_X9_valueOf : GoodIn wsX3_valueWith wsX9_valueOf := goodIn_r _ [10] (by decide +kernel) (by decide +kernel)
set_option maxRecDepth 20000 in
theorem gX3_valueWith_X9_valueOf_n58 : GoodIn wsX3_valueWith (wsX9_valueOf) := ggX3_valueWith_X9_valueOf
set_option maxRecDepth 20000 in
theorem ggX3_wants_X3_othersOf : GoodIn wsX3_wants wsX3_othersOf := goodIn_r _ [5, 6, 7, 8, 9, 10, 11, 12, 13, 14, 15, 16, 17, 18, 19, 20, 21, 22, 23, 24, 25, 32, 33, 34, 35, 36, 37] (by decide +kernel) (by decide +kernel)
set_option maxRecDepth 20000 in
theorem gX3_wants_X3_othersOf : GoodIn wsX3_wants (wsV RX3 51 RX3 yX3_othersOf wsX3_othersOf) := goodIn_app (goodIn_of _ (by decide +kernel)) ggX3_wants_X3_othersOf
set_option maxRecDepth 20000 in
theorem ggX3_wants_X3_valueWith : GoodIn wsX3_wants wsX3_valueWith := goodIn_r _ [29, 7, 11, 12, 13, 14, 15, 16, 30, 9, 31, 32, 33, 34, 35, 36, 37] (by decide +kernel) (by decide +kernel)
set_option maxRecDepth 20000 in
theorem gX3_wants_X3_valueWith : GoodIn wsX3_wants (wsV RX3 54 RX3 yX3_valueWith wsX3_valueWith) := goodIn_app (goodIn_of _ (by decide +kernel)) ggX3_wants_X3_valueWith
set_option maxRecDepth 20000 in
theorem ggX3_changes_X3_othersOf : GoodIn wsX3_changes wsX3_othersOf := goodIn_r _ [5, 6, 7, 8, 9, 10, 11, 12, 13, 14, 15, 16, 17, 18, 19, 20, 21, 22, 23, 24, 25, 35, 36, 37, 38, 39, 40] (by decide +kernel) (by decide +kernel)
set_option maxRecDepth 20000 in
theorem gX3_changes_X3_othersOf : GoodIn wsX3_changes (wsV RX3 51 RX3 yX3_othersOf wsX3_othersOf) := goodIn_app (goodIn_of _ (by decide +kernel)) ggX3_changes_X3_othersOf
set_option maxRecDepth 20000 in
theorem ggX3_changes_X3_valueWith : GoodIn wsX3_changes wsX3_valueWith := goodIn_r _ [29, 7, 11, 12, 13, 14, 15, 16, 30, 9, 31, 35, 36, 37, 38, 39, 40] (by decide +kernel) (by decide +kernel)
set_option maxRecDepth 20000 in
theorem gX3_changes_X3_valueWith : GoodIn wsX3_changes (wsV RX3 54 RX3 yX3_valueWith wsX3_valueWith) := goodIn_app (goodIn_of _ (by decide +kernel)) ggX3_changes_X3_valueWith
set_option maxRecDepth 20000 in
theorem ggX3_changes_X9_has : GoodIn wsX3_changes wsX9_has := goodIn_r _ [33, 34, 17, 9, 18] (by decide +kernel) (by decide +kernel)
set_option maxRecDepth 20000 in
theorem gX3_changes_X9_has_n62 : GoodIn wsX3_changes (wsX9_has) := ggX3_changes_X9_has
set_option maxRecDepth 20000 in
theorem ggX3_changersBy_X3_changes : GoodIn wsX3_changersBy wsX3_changes := goodIn_r _ [7, 8, 9, 10, 6, 11, 12, 1, 13, 14, 15, 16, 17, 18, 19, 20, 21, 22, 23, 24, 25, 26, 27, 28, 29, 30, 31, 32, 33, 34, 35, 36, 37, 38, 39, 40, 41, 42, 43, 44, 45] (by decide +kernel) (by decide +kernel)
set_option maxRecDepth 20000 in
theorem gX3_changersBy_X3_changes : GoodIn wsX3_changersBy (wsV RX3 66 RX3 yX3_changes wsX3_changes) := goodIn_app (goodIn_of _ (by decide +kernel)) ggX3_changersBy_X3_changes
set_option maxRecDepth 20000 in
theorem ggX3_changersBy_X9_bit : GoodIn wsX3_changersBy wsX9_bit := goodIn_r _ [23] (by decide +kernel) (by decide +kernel)
set_option maxRecDepth 20000 in
theorem gX3_changersBy_X9_bit_n34 : GoodIn wsX3_changersBy (wsX9_bit) := ggX3_changersBy_X9_bit
set_option maxRecDepth 20000 in
theorem ggX3_nextOwners_X3_changes : GoodIn wsX3_nextOwners wsX3_changes := goodIn_r _ [7, 8, 9, 10, 6, 11, 12, 1, 13, 14, 15, 16, 17, 18, 19, 20, 21, 22, 23, 24, 25, 26, 27, 28, 29, 30, 31, 32, 33, 34, 35, 36, 37, 38, 39, 40, 41, 42, 43, 44, 45] (by decide +kernel) (by decide +kernel)
set_option maxRecDepth 20000 in
theorem gX3_nextOwners_X3_changes : GoodIn wsX3_nextOwners (wsV RX3 66 RX3 yX3_changes wsX3_changes) := goodIn_app (goodIn_of _ (by decide +kernel)) ggX3_nextOwners_X3_changes
set_option maxRecDepth 20000 in
theorem ggX3_nextOwners_X9_bit : GoodIn wsX3_nextOwners wsX9_bit := goodIn_r _ [23] (by decide +kernel) (by decide +kernel)
set_option maxRecDepth 20000 in
theorem gX3_nextOwners_X9_bit_n34 : GoodIn wsX3_nextOwners (wsX9_bit) := ggX3_nextOwners_X9_bit
set_option maxRecDepth 20000 in
theorem ggX4_add_X9_put : GoodIn wsX4_add wsX9_put := goodIn_r _ [5] (by decide +kernel) (by decide +kernel)
set_option maxRecDepth 20000 in
theorem gX4_add_X9_put_n25 : GoodIn wsX4_add (wsX9_put) := ggX4_add_X9_put
set_option maxRecDepth 20000 in
theorem ggX4_giveOne_X9_bit : GoodIn wsX4_giveOne wsX9_bit := goodIn_r _ [5] (by decide +kernel) (by decide +kernel)
set_option maxRecDepth 20000 in
theorem gX4_giveOne_X9_bit_n29 : GoodIn wsX4_giveOne (wsX9_bit) := ggX4_giveOne_X9_bit
set_option maxRecDepth 20000 in
theorem ggX4_copy_X9_at : GoodIn wsX4_copy wsX9_at := goodIn_r _ [7] (by decide +kernel) (by decide +kernel)
set_option maxRecDepth 20000 in
theorem gX4_copy_X9_at_n33 : GoodIn wsX4_copy (wsX9_at) := ggX4_copy_X9_at
set_option maxRecDepth 20000 in
theorem ggX4_copy_X9_put : GoodIn wsX4_copy wsX9_put := goodIn_r _ [9] (by decide +kernel) (by decide +kernel)
set_option maxRecDepth 20000 in
theorem gX4_copy_X9_put_n25 : GoodIn wsX4_copy (wsX9_put) := ggX4_copy_X9_put
set_option maxRecDepth 20000 in
theorem ggX5_push_X2_penniesOf : GoodIn wsX5_push wsX2_penniesOf := goodIn_r _ [9, 10, 11, 12, 13, 19, 20] (by decide +kernel) (by decide +kernel)
set_option maxRecDepth 20000 in
theorem gX5_push_X2_penniesOf : GoodIn wsX5_push (wsV RX5 22 RX2 yX2_penniesOf wsX2_penniesOf) := goodIn_app (goodIn_of _ (by decide +kernel)) ggX5_push_X2_penniesOf
set_option maxRecDepth 20000 in
theorem ggX5_push_X9_put : GoodIn wsX5_push wsX9_put := goodIn_r _ [15] (by decide +kernel) (by decide +kernel)
set_option maxRecDepth 20000 in
theorem gX5_push_X9_put_n28 : GoodIn wsX5_push (wsX9_put) := ggX5_push_X9_put
set_option maxRecDepth 20000 in
theorem ggX5_pushOverOldest_X9_at : GoodIn wsX5_pushOverOldest wsX9_at := goodIn_r _ [6] (by decide +kernel) (by decide +kernel)
set_option maxRecDepth 20000 in
theorem gX5_pushOverOldest_X9_at_n35 : GoodIn wsX5_pushOverOldest (wsX9_at) := ggX5_pushOverOldest_X9_at
set_option maxRecDepth 20000 in
theorem ggX5_pushOverOldest_X9_put : GoodIn wsX5_pushOverOldest wsX9_put := goodIn_r _ [8] (by decide +kernel) (by decide +kernel)
set_option maxRecDepth 20000 in
theorem gX5_pushOverOldest_X9_put_n28 : GoodIn wsX5_pushOverOldest (wsX9_put) := ggX5_pushOverOldest_X9_put
set_option maxRecDepth 20000 in
theorem ggX5_pushOverOldest_X5_push : GoodIn wsX5_pushOverOldest wsX5_push := goodIn_r _ [13, 1, 2, 3, 14, 15, 16, 17, 18, 19, 20, 4, 5, 6, 7, 8, 21, 22, 23, 24, 25] (by decide +kernel) (by decide +kernel)
set_option maxRecDepth 20000 in
theorem gX5_pushOverOldest_X5_push : GoodIn wsX5_pushOverOldest (wsV RX5 39 RX5 yX5_push wsX5_push) := goodIn_app (goodIn_of _ (by decide +kernel)) ggX5_pushOverOldest_X5_push
set_option maxRecDepth 20000 in
theorem ggX5_popInto_X9_at : GoodIn wsX5_popInto wsX9_at := goodIn_r _ [7] (by decide +kernel) (by decide +kernel)
set_option maxRecDepth 20000 in
theorem gX5_popInto_X9_at_n35 : GoodIn wsX5_popInto (wsX9_at) := ggX5_popInto_X9_at
set_option maxRecDepth 20000 in
theorem ggX5_popInto_X9_put : GoodIn wsX5_popInto wsX9_put := goodIn_r _ [9] (by decide +kernel) (by decide +kernel)
set_option maxRecDepth 20000 in
theorem gX5_popInto_X9_put_n28 : GoodIn wsX5_popInto (wsX9_put) := ggX5_popInto_X9_put
set_option maxRecDepth 20000 in
theorem ggX6_readAll_X4_clear : GoodIn wsX6_readAll wsX4_clear := goodIn_r _ [7, 8, 9, 10, 59, 60, 61, 62] (by decide +kernel) (by decide +kernel)
set_option maxRecDepth 20000 in
theorem gX6_readAll_X4_clear : GoodIn wsX6_readAll (wsV RX6 19 RX4 yX4_clear wsX4_clear) := goodIn_app (goodIn_of _ (by decide +kernel)) ggX6_readAll_X4_clear
set_option maxRecDepth 20000 in
theorem ggX6_readAll_X6_readItem : GoodIn wsX6_readAll wsX6_readItem := goodIn_r _ [15, 1, 16, 17, 18, 19, 20, 21, 22, 23, 24, 25, 26, 14, 27, 28, 29, 30, 31, 32, 33, 34, 35, 36, 37, 38, 39, 40, 41, 42, 6, 43, 8, 44, 45, 46, 47, 48, 9, 49, 50, 51, 52, 53, 54, 10, 55, 56, 57, 58, 59, 60, 61, 62] (by decide +kernel) (by decide +kernel)
set_option maxRecDepth 20000 in
theorem gX6_readAll_X6_readItem : GoodIn wsX6_readAll (wsV RX6 29 RX6 yX6_readItem wsX6_readItem) := goodIn_app (goodIn_of _ (by decide +kernel)) ggX6_readAll_X6_readItem
set_option maxRecDepth 20000 in
theorem ggX6_readItem_X8_byteAt : GoodIn wsX6_readItem wsX8_byteAt := goodIn_r _ [7, 8, 9, 48, 49] (by decide +kernel) (by decide +kernel)
set_option maxRecDepth 20000 in
theorem gX6_readItem_X8_byteAt : GoodIn wsX6_readItem (wsV RX6 33 RX8 yX8_byteAt wsX8_byteAt) := goodIn_app (goodIn_of _ (by decide +kernel)) ggX6_readItem_X8_byteAt
set_option maxRecDepth 20000 in
theorem ggX6_readItem_X6_readNumbers : GoodIn wsX6_readItem wsX6_readNumbers := goodIn_r _ [14, 1, 2, 15, 16, 17, 13, 18, 3, 4, 5, 6, 7, 8, 9, 19, 20, 21, 22, 23, 24, 46, 47, 48, 49] (by decide +kernel) (by decide +kernel)
set_option maxRecDepth 20000 in
theorem gX6_readItem_X6_readNumbers : GoodIn wsX6_readItem (wsV RX6 37 RX6 yX6_readNumbers wsX6_readNumbers) := goodIn_app (goodIn_of _ (by decide +kernel)) ggX6_readItem_X6_readNumbers
set_option maxRecDepth 20000 in
theorem ggX6_readItem_X9_at : GoodIn wsX6_readItem wsX9_at := goodIn_r _ [26] (by decide +kernel) (by decide +kernel)
set_option maxRecDepth 20000 in
theorem gX6_readItem_X9_at_n41 : GoodIn wsX6_readItem (wsX9_at) := ggX6_readItem_X9_at
set_option maxRecDepth 20000 in
theorem ggX6_readItem_X4_add : GoodIn wsX6_readItem wsX4_add := goodIn_r _ [31, 32, 33, 22, 23, 24, 50, 51, 52, 53] (by decide +kernel) (by decide +kernel)
set_option maxRecDepth 20000 in
theorem gX6_readItem_X4_add : GoodIn wsX6_readItem (wsV RX6 45 RX4 yX4_add wsX4_add) := goodIn_app (goodIn_of _ (by decide +kernel)) ggX6_readItem_X4_add
set_option maxRecDepth 20000 in
theorem ggX6_readItem_X4_giveOne : GoodIn wsX6_readItem wsX4_giveOne := goodIn_r _ [37, 32, 38, 39, 23, 40, 50, 51, 52, 53] (by decide +kernel) (by decide +kernel)
set_option maxRecDepth 20000 in
theorem gX6_readItem_X4_giveOne : GoodIn wsX6_readItem (wsV RX6 49 RX4 yX4_giveOne wsX4_giveOne) := goodIn_app (goodIn_of _ (by decide +kernel)) ggX6_readItem_X4_giveOne
set_option maxRecDepth 20000 in
theorem ggX6_readItem_X4_setSeason : GoodIn wsX6_readItem wsX4_setSeason := goodIn_r _ [44, 45, 50, 51, 52, 53] (by decide +kernel) (by decide +kernel)
set_option maxRecDepth 20000 in
theorem gX6_readItem_X4_setSeason : GoodIn wsX6_readItem (wsV RX6 53 RX4 yX4_setSeason wsX4_setSeason) := goodIn_app (goodIn_of _ (by decide +kernel)) ggX6_readItem_X4_setSeason
set_option maxRecDepth 20000 in
theorem ggX6_readNumbers_X6_readNumber : GoodIn wsX6_readNumbers wsX6_readNumber := goodIn_r _ [7, 1, 8, 9, 10, 11, 12, 13, 14, 15, 16, 6, 17, 21, 22, 23, 24] (by decide +kernel) (by decide +kernel)
set_option maxRecDepth 20000 in
theorem gX6_readNumbers_X6_readNumber : GoodIn wsX6_readNumbers (wsV RX6 56 RX6 yX6_readNumber wsX6_readNumber) := goodIn_app (goodIn_of _ (by decide +kernel)) ggX6_readNumbers_X6_readNumber
set_option maxRecDepth 20000 in
theorem ggX6_readNumbers_X8_byteAt : GoodIn wsX6_readNumbers wsX8_byteAt := goodIn_r _ [12, 13, 14, 23, 24] (by decide +kernel) (by decide +kernel)
set_option maxRecDepth 20000 in
theorem gX6_readNumbers_X8_byteAt : GoodIn wsX6_readNumbers (wsV RX6 33 RX8 yX8_byteAt wsX8_byteAt) := goodIn_app (goodIn_of _ (by decide +kernel)) ggX6_readNumbers_X8_byteAt
set_option maxRecDepth 20000 in
theorem ggX6_readNumbers_X9_put : GoodIn wsX6_readNumbers wsX9_put := goodIn_r _ [20] (by decide +kernel) (by decide +kernel)
set_option maxRecDepth 20000 in
theorem gX6_readNumbers_X9_put_n60 : GoodIn wsX6_readNumbers (wsX9_put) := ggX6_readNumbers_X9_put
set_option maxRecDepth 20000 in
theorem ggX6_readNumber_X8_byteAt : GoodIn wsX6_readNumber wsX8_byteAt := goodIn_r _ [6, 7, 8, 15, 16] (by decide +kernel) (by decide +kernel)
set_option maxRecDepth 20000 in
theorem gX6_readNumber_X8_byteAt : GoodIn wsX6_readNumber (wsV RX6 33 RX8 yX8_byteAt wsX8_byteAt) := goodIn_app (goodIn_of _ (by decide +kernel)) ggX6_readNumber_X8_byteAt
set_option maxRecDepth 20000 in
theorem ggX6_readNumber_X6_figure : GoodIn wsX6_readNumber wsX6_figure := goodIn_r _ [12] (by decide +kernel) (by decide +kernel)
set_option maxRecDepth 20000 in
theorem gX6_readNumber_X6_figure : GoodIn wsX6_readNumber (va_wsS RX6 64 yX6_figure wsX6_figure) := goodIn_app (goodIn_of _ (by decide +kernel)) ggX6_readNumber_X6_figure
set_option maxRecDepth 20000 in
theorem ggX7_add_X9_put : GoodIn wsX7_add wsX9_put := goodIn_r _ [7] (by decide +kernel) (by decide +kernel)
set_option maxRecDepth 20000 in
theorem gX7_add_X9_put_n26 : GoodIn wsX7_add (wsX9_put) := ggX7_add_X9_put
set_option maxRecDepth 20000 in
theorem ggX7_fit_X9_at : GoodIn wsX7_fit wsX9_at := goodIn_r _ [7] (by decide +kernel) (by decide +kernel)
set_option maxRecDepth 20000 in
theorem gX7_fit_X9_at_n30 : GoodIn wsX7_fit (wsX9_at) := ggX7_fit_X9_at
set_option maxRecDepth 20000 in
theorem ggX7_fit_X4_trait : GoodIn wsX7_fit wsX4_trait := goodIn_r _ [12, 13, 20, 21, 22, 23] (by decide +kernel) (by decide +kernel)
set_option maxRecDepth 20000 in
theorem gX7_fit_X4_trait : GoodIn wsX7_fit (wsV RX7 34 RX4 yX4_trait wsX4_trait) := goodIn_app (goodIn_of _ (by decide +kernel)) ggX7_fit_X4_trait
set_option maxRecDepth 20000 in
theorem ggX7_fit_X9_valueOf : GoodIn wsX7_fit wsX9_valueOf := goodIn_r _ [15] (by decide +kernel) (by decide +kernel)
set_option maxRecDepth 20000 in
theorem gX7_fit_X9_valueOf_n40 : GoodIn wsX7_fit (wsX9_valueOf) := ggX7_fit_X9_valueOf
set_option maxRecDepth 20000 in
theorem ggX9_init_X8_init : GoodIn wsX9_init wsX8_init := goodIn_r _ [42, 43, 2, 3, 44, 45, 46, 134, 135] (by decide +kernel) (by decide +kernel)
set_option maxRecDepth 20000 in
theorem gX9_init_X8_init_n9 : GoodIn wsX9_init (wsX8_init) := ggX9_init_X8_init
set_option maxRecDepth 20000 in
theorem ggX9_init_X6_init : GoodIn wsX9_init wsX6_init := goodIn_r _ [48, 49, 2, 3, 50, 51, 52, 146, 147] (by decide +kernel) (by decide +kernel)
set_option maxRecDepth 20000 in
theorem gX9_init_X6_init_n18 : GoodIn wsX9_init (wsX6_init) := ggX9_init_X6_init
set_option maxRecDepth 20000 in
theorem ggX9_init_X4_init : GoodIn wsX9_init wsX4_init := goodIn_r _ [54, 55, 2, 3, 50, 56, 57, 58, 59, 148, 149, 150, 151] (by decide +kernel) (by decide +kernel)
set_option maxRecDepth 20000 in
theorem gX9_init_X4_init_n25 : GoodIn wsX9_init (wsX4_init) := ggX9_init_X4_init
set_option maxRecDepth 20000 in
theorem ggX9_init_X3_init : GoodIn wsX9_init wsX3_init := goodIn_r _ [61, 62, 2, 3, 63, 13, 14, 64, 50, 65, 53, 54, 55, 56, 57, 58, 59, 148, 149, 150, 151, 152, 153] (by decide +kernel) (by decide +kernel)
set_option maxRecDepth 20000 in
theorem gX9_init_X3_init_n32 : GoodIn wsX9_init (wsX3_init) := ggX9_init_X3_init
set_option maxRecDepth 20000 in
theorem ggX9_init_X1_init : GoodIn wsX9_init wsX1_init := goodIn_r _ [68, 69, 2, 3, 50, 70, 71, 154, 155] (by decide +kernel) (by decide +kernel)
set_option maxRecDepth 20000 in
theorem gX9_init_X1_init : GoodIn wsX9_init (wsX1_init) := ggX9_init_X1_init
set_option maxRecDepth 20000 in
theorem ggX9_init_X0_init : GoodIn wsX9_init wsX0_init := goodIn_r _ [74, 75, 2, 3, 76, 156] (by decide +kernel) (by decide +kernel)
set_option maxRecDepth 20000 in
theorem gX9_init_X0_init : GoodIn wsX9_init (wsX0_init) := ggX9_init_X0_init
set_option maxRecDepth 20000 in
theorem ggX9_init_X2_init : GoodIn wsX9_init wsX2_init := goodIn_r _ [78, 79, 2, 3, 50, 80, 81, 157, 158] (by decide +kernel) (by decide +kernel)
set_option maxRecDepth 20000 in
theorem gX9_init_X2_init_n55 : GoodIn wsX9_init (wsX2_init) := ggX9_init_X2_init
set_option maxRecDepth 20000 in
theorem ggX9_init_X5_init : GoodIn wsX9_init wsX5_init := goodIn_r _ [84, 85, 2, 3, 86, 87, 50, 88, 159, 160, 161] (by decide +kernel) (by decide +kernel)
set_option maxRecDepth 20000 in
theorem gX9_init_X5_init : GoodIn wsX9_init (wsX5_init) := ggX9_init_X5_init
set_option maxRecDepth 20000 in
theorem ggX9_init_X7_init : GoodIn wsX9_init wsX7_init := goodIn_r _ [90, 91, 2, 3, 50, 92, 93, 94, 95, 96, 162, 163, 164, 165] (by decide +kernel) (by decide +kernel)
set_option maxRecDepth 20000 in
theorem gX9_init_X7_init_n74 : GoodIn wsX9_init (wsX7_init) := ggX9_init_X7_init
set_option maxRecDepth 20000 in
theorem ggX9_init_X4_add : GoodIn wsX9_init wsX4_add := goodIn_r _ [100, 57, 56, 101, 102, 103, 148, 149, 150, 151] (by decide +kernel) (by decide +kernel)
set_option maxRecDepth 20000 in
theorem gX9_init_X4_add : GoodIn wsX9_init (wsV RX9 79 RX4 yX4_add wsX4_add) := goodIn_app (goodIn_of _ (by decide +kernel)) ggX9_init_X4_add
set_option maxRecDepth 20000 in
theorem ggX9_init_X9_settle : GoodIn wsX9_init wsX9_settle := goodIn_r _ [107, 19, 15, 31, 108, 35, 109, 36, 40, 110, 111, 112, 113, 18, 114, 64, 115, 65, 116, 117, 118, 14, 119, 56, 57, 58, 59, 120, 102, 121, 101, 103, 122, 123, 124, 125, 126, 127, 128, 129, 130, 30, 131, 132, 81, 80, 133, 136, 137, 138, 139, 140, 141, 142, 143, 144, 145, 152, 153, 159, 160, 161, 162, 163, 164, 165, 148, 149, 150, 151, 157, 158] (by decide +kernel) (by decide +kernel)
set_option maxRecDepth 20000 in
theorem gX9_init_X9_settle : GoodIn wsX9_init (wsV RX9 83 RX9 yX9_settle wsX9_settle) := goodIn_app (goodIn_of _ (by decide +kernel)) ggX9_init_X9_settle
set_option maxRecDepth 20000 in
theorem ggX9_write_X8_hasRoomFor : GoodIn wsX9_write wsX8_hasRoomFor := goodIn_r _ [7, 8, 24, 25] (by decide +kernel) (by decide +kernel)
set_option maxRecDepth 20000 in
theorem gX9_write_X8_hasRoomFor : GoodIn wsX9_write (wsV RX9 86 RX8 yX8_hasRoomFor wsX8_hasRoomFor) := goodIn_app (goodIn_of _ (by decide +kernel)) ggX9_write_X8_hasRoomFor
set_option maxRecDepth 20000 in
theorem ggX9_write_X8_append : GoodIn wsX9_write wsX8_append := goodIn_r _ [12, 8, 13, 24, 25] (by decide +kernel) (by decide +kernel)
set_option maxRecDepth 20000 in
theorem gX9_write_X8_append : GoodIn wsX9_write (wsV RX9 90 RX8 yX8_append wsX8_append) := goodIn_app (goodIn_of _ (by decide +kernel)) ggX9_write_X8_append
set_option maxRecDepth 20000 in
theorem ggX9_wipe_X8_empty : GoodIn wsX9_wipe wsX8_empty := goodIn_r _ [6, 7, 18, 19] (by decide +kernel) (by decide +kernel)
set_option maxRecDepth 20000 in
theorem gX9_wipe_X8_empty : GoodIn wsX9_wipe (wsV RX9 97 RX8 yX8_empty wsX8_empty) := goodIn_app (goodIn_of _ (by decide +kernel)) ggX9_wipe_X8_empty
set_option maxRecDepth 20000 in
theorem ggX9_fault_X6_readAll : GoodIn wsX9_fault wsX6_readAll := goodIn_r _ [8, 9, 10, 11, 12, 13, 14, 15, 16, 17, 18, 19, 20, 21, 7, 22, 23, 24, 25, 26, 27, 28, 29, 30, 31, 32, 33, 34, 35, 36, 37, 38, 39, 40, 41, 42, 43, 44, 45, 46, 47, 48, 49, 50, 51, 52, 53, 54, 55, 56, 57, 58, 59, 60, 61, 72, 73, 74, 75, 76, 77, 78, 79] (by decide +kernel) (by decide +kernel)
set_option maxRecDepth 20000 in
theorem gX9_fault_X6_readAll : GoodIn wsX9_fault (wsV RX9 101 RX6 yX6_readAll wsX6_readAll) := goodIn_app (goodIn_of _ (by decide +kernel)) ggX9_fault_X6_readAll
set_option maxRecDepth 20000 in
theorem ggX9_lay_X6_readAll : GoodIn wsX9_lay wsX6_readAll := goodIn_r _ [11, 12, 13, 14, 15, 16, 17, 18, 19, 20, 21, 22, 23, 24, 10, 25, 26, 27, 28, 29, 30, 31, 32, 33, 34, 35, 36, 37, 38, 39, 40, 41, 42, 43, 44, 45, 46, 47, 48, 49, 50, 51, 52, 53, 54, 55, 56, 57, 58, 59, 60, 61, 62, 63, 64, 116, 117, 118, 119, 110, 111, 112, 113] (by decide +kernel) (by decide +kernel)
set_option maxRecDepth 20000 in
theorem gX9_lay_X6_readAll : GoodIn wsX9_lay (wsV RX9 101 RX6 yX6_readAll wsX6_readAll) := goodIn_app (goodIn_of _ (by decide +kernel)) ggX9_lay_X6_readAll
set_option maxRecDepth 20000 in
theorem ggX9_lay_X9_settle : GoodIn wsX9_lay wsX9_settle := goodIn_r _ [68, 5, 3, 69, 6, 70, 71, 72, 73, 74, 75, 76, 77, 78, 79, 80, 81, 82, 83, 84, 85, 17, 86, 54, 19, 20, 21, 48, 46, 49, 45, 47, 87, 88, 89, 90, 59, 60, 91, 92, 93, 94, 95, 96, 97, 98, 99, 100, 101, 102, 103, 104, 105, 106, 107, 108, 109, 114, 115, 120, 121, 122, 123, 124, 125, 126, 110, 111, 112, 113, 127, 128] (by decide +kernel) (by decide +kernel)
set_option maxRecDepth 20000 in
theorem gX9_lay_X9_settle : GoodIn wsX9_lay (wsV RX9 83 RX9 yX9_settle wsX9_settle) := goodIn_app (goodIn_of _ (by decide +kernel)) ggX9_lay_X9_settle
set_option maxRecDepth 20000 in
theorem ggX9_person_X9_isPerson : GoodIn wsX9_person wsX9_isPerson := goodIn_r _ [8, 2, 3, 9, 34, 35, 36, 37, 38, 39, 40, 41, 42, 43, 44, 45, 46, 47, 48, 49] (by decide +kernel) (by decide +kernel)
set_option maxRecDepth 20000 in
theorem gX9_person_X9_isPerson : GoodIn wsX9_person (wsV RX9 111 RX9 yX9_isPerson wsX9_isPerson) := goodIn_app (goodIn_of _ (by decide +kernel)) ggX9_person_X9_isPerson
set_option maxRecDepth 20000 in
theorem ggX9_person_X2_penniesOf : GoodIn wsX9_person wsX2_penniesOf := goodIn_r _ [14, 15, 16, 7, 17, 50, 51] (by decide +kernel) (by decide +kernel)
set_option maxRecDepth 20000 in
theorem gX9_person_X2_penniesOf : GoodIn wsX9_person (wsV RX9 114 RX2 yX2_penniesOf wsX2_penniesOf) := goodIn_app (goodIn_of _ (by decide +kernel)) ggX9_person_X2_penniesOf
set_option maxRecDepth 20000 in
theorem ggX9_person_X2_owns : GoodIn wsX9_person wsX2_owns := goodIn_r _ [21, 22, 23, 7, 24, 25, 26, 27, 50, 51] (by decide +kernel) (by decide +kernel)
set_option maxRecDepth 20000 in
theorem gX9_person_X2_owns : GoodIn wsX9_person (wsV RX9 118 RX2 yX2_owns wsX2_owns) := goodIn_app (goodIn_of _ (by decide +kernel)) ggX9_person_X2_owns
set_option maxRecDepth 20000 in
theorem ggX9_person_X4_trait : GoodIn wsX9_person wsX4_trait := goodIn_r _ [32, 33, 46, 47, 48, 49] (by decide +kernel) (by decide +kernel)
set_option maxRecDepth 20000 in
theorem gX9_person_X4_trait : GoodIn wsX9_person (wsV RX9 121 RX4 yX4_trait wsX4_trait) := goodIn_app (goodIn_of _ (by decide +kernel)) ggX9_person_X4_trait
set_option maxRecDepth 20000 in
theorem ggX9_worth_X9_isPerson : GoodIn wsX9_worth wsX9_isPerson := goodIn_r _ [6, 1, 7, 8, 57, 58, 59, 60, 61, 62, 63, 64, 65, 66, 67, 68, 69, 70, 71, 72] (by decide +kernel) (by decide +kernel)
set_option maxRecDepth 20000 in
theorem gX9_worth_X9_isPerson : GoodIn wsX9_worth (wsV RX9 111 RX9 yX9_isPerson wsX9_isPerson) := goodIn_app (goodIn_of _ (by decide +kernel)) ggX9_worth_X9_isPerson
set_option maxRecDepth 20000 in
theorem ggX9_worth_X9_isSet : GoodIn wsX9_worth wsX9_isSet := goodIn_r _ [12, 1, 7, 13, 14, 15, 16, 17, 18, 57, 58, 59, 60, 61, 62, 63, 64, 65, 66, 67, 68, 69, 70, 71, 72] (by decide +kernel) (by decide +kernel)
set_option maxRecDepth 20000 in
theorem gX9_worth_X9_isSet : GoodIn wsX9_worth (wsV RX9 125 RX9 yX9_isSet wsX9_isSet) := goodIn_app (goodIn_of _ (by decide +kernel)) ggX9_worth_X9_isSet
set_option maxRecDepth 20000 in
theorem ggX9_worth_X9_season : GoodIn wsX9_worth wsX9_season := goodIn_r _ [22, 1, 7, 23, 57, 58, 59, 60, 61, 62, 63, 64, 65, 66, 67, 68, 69, 70, 71, 72] (by decide +kernel) (by decide +kernel)
set_option maxRecDepth 20000 in
theorem gX9_worth_X9_season : GoodIn wsX9_worth (wsV RX9 128 RX9 yX9_season wsX9_season) := goodIn_app (goodIn_of _ (by decide +kernel)) ggX9_worth_X9_season
set_option maxRecDepth 20000 in
theorem ggX9_worth_X3_valueTo : GoodIn wsX9_worth wsX3_valueTo := goodIn_r _ [28, 29, 30, 31, 27, 32, 33, 34, 35, 5, 36, 37, 38, 39, 16, 40, 41, 42, 43, 44, 45, 46, 47, 48, 49, 50, 51, 52, 53, 54, 55, 56, 67, 68, 69, 70, 71, 72] (by decide +kernel) (by decide +kernel)
set_option maxRecDepth 20000 in
theorem gX9_worth_X3_valueTo : GoodIn wsX9_worth (wsV RX9 131 RX3 yX3_valueTo wsX3_valueTo) := goodIn_app (goodIn_of _ (by decide +kernel)) ggX9_worth_X3_valueTo
set_option maxRecDepth 20000 in
theorem ggX9_buy_X9_isSet : GoodIn wsX9_buy wsX9_isSet := goodIn_r _ [11, 4, 5, 12, 13, 14, 15, 16, 17, 75, 76, 77, 78, 79, 80, 81, 82, 83, 84, 87, 88, 89, 90, 91, 92] (by decide +kernel) (by decide +kernel)
set_option maxRecDepth 20000 in
theorem gX9_buy_X9_isSet : GoodIn wsX9_buy (wsV RX9 125 RX9 yX9_isSet wsX9_isSet) := goodIn_app (goodIn_of _ (by decide +kernel)) ggX9_buy_X9_isSet
set_option maxRecDepth 20000 in
theorem ggX9_buy_X9_canPay : GoodIn wsX9_buy wsX9_canPay := goodIn_r _ [21, 4, 5, 6, 1, 2, 22, 23, 10, 24, 25, 26, 27, 28, 29, 30, 31, 32, 33, 34, 35, 36, 37, 38, 39, 40, 41, 42, 43, 44, 45, 15, 46, 47, 48, 49, 50, 51, 52, 53, 54, 75, 76, 77, 78, 79, 80, 81, 82, 83, 84, 87, 88, 89, 90, 91, 92, 85, 86] (by decide +kernel) (by decide +kernel)
set_option maxRecDepth 20000 in
theorem gX9_buy_X9_canPay : GoodIn wsX9_buy (wsV RX9 138 RX9 yX9_canPay wsX9_canPay) := goodIn_app (goodIn_of _ (by decide +kernel)) ggX9_buy_X9_canPay
set_option maxRecDepth 20000 in
theorem ggX9_buy_X5_pushOverOldest : GoodIn wsX9_buy wsX5_pushOverOldest := goodIn_r _ [59, 60, 61, 62, 34, 10, 35, 63, 64, 65, 66, 67, 58, 68, 69, 70, 29, 30, 31, 32, 33, 93, 94, 95, 85, 86] (by decide +kernel) (by decide +kernel)
set_option maxRecDepth 20000 in
theorem gX9_buy_X5_pushOverOldest : GoodIn wsX9_buy (wsV RX9 141 RX5 yX5_pushOverOldest wsX5_pushOverOldest) := goodIn_app (goodIn_of _ (by decide +kernel)) ggX9_buy_X5_pushOverOldest
set_option maxRecDepth 20000 in
theorem ggX9_buy_X9_has : GoodIn wsX9_buy wsX9_has := goodIn_r _ [24, 25, 26, 10, 27] (by decide +kernel) (by decide +kernel)
set_option maxRecDepth 20000 in
theorem gX9_buy_X9_has : GoodIn wsX9_buy (va_wsS RX9 145 yX9_has wsX9_has) := goodIn_app (goodIn_of _ (by decide +kernel)) ggX9_buy_X9_has
set_option maxRecDepth 20000 in
theorem ggX9_buy_X3_othersOf : GoodIn wsX9_buy wsX3_othersOf := goodIn_r _ [40, 41, 42, 34, 10, 35, 43, 44, 45, 15, 46, 47, 26, 27, 48, 49, 50, 51, 52, 53, 54, 87, 88, 89, 90, 91, 92] (by decide +kernel) (by decide +kernel)
set_option maxRecDepth 20000 in
theorem gX9_buy_X3_othersOf : GoodIn wsX9_buy (wsV RX9 149 RX3 yX3_othersOf wsX3_othersOf) := goodIn_app (goodIn_of _ (by decide +kernel)) ggX9_buy_X3_othersOf
set_option maxRecDepth 20000 in
theorem ggX9_buy_X2_earn : GoodIn wsX9_buy wsX2_earn := goodIn_r _ [74, 33, 34, 10, 35, 63, 64, 85, 86] (by decide +kernel) (by decide +kernel)
set_option maxRecDepth 20000 in
theorem gX9_buy_X2_earn : GoodIn wsX9_buy (wsV RX9 152 RX2 yX2_earn wsX2_earn) := goodIn_app (goodIn_of _ (by decide +kernel)) ggX9_buy_X2_earn
set_option maxRecDepth 20000 in
theorem ggX9_toss_X9_isPerson : GoodIn wsX9_toss wsX9_isPerson := goodIn_r _ [8, 9, 10, 11, 52, 53, 54, 55, 56, 57, 58, 59, 60, 61, 64, 65, 66, 67, 68, 69] (by decide +kernel) (by decide +kernel)
set_option maxRecDepth 20000 in
theorem gX9_toss_X9_isPerson : GoodIn wsX9_toss (wsV RX9 111 RX9 yX9_isPerson wsX9_isPerson) := goodIn_app (goodIn_of _ (by decide +kernel)) ggX9_toss_X9_isPerson
set_option maxRecDepth 20000 in
theorem ggX9_toss_X2_owns : GoodIn wsX9_toss wsX2_owns := goodIn_r _ [16, 17, 18, 7, 19, 20, 21, 22, 62, 63] (by decide +kernel) (by decide +kernel)
set_option maxRecDepth 20000 in
theorem gX9_toss_X2_owns : GoodIn wsX9_toss (wsV RX9 118 RX2 yX2_owns wsX2_owns) := goodIn_app (goodIn_of _ (by decide +kernel)) ggX9_toss_X2_owns
set_option maxRecDepth 20000 in
theorem ggX9_toss_X5_pushOverOldest : GoodIn wsX9_toss wsX5_pushOverOldest := goodIn_r _ [27, 28, 29, 30, 31, 7, 32, 33, 34, 35, 36, 37, 26, 38, 39, 40, 41, 42, 15, 43, 44, 70, 71, 72, 62, 63] (by decide +kernel) (by decide +kernel)
set_option maxRecDepth 20000 in
theorem gX9_toss_X5_pushOverOldest : GoodIn wsX9_toss (wsV RX9 141 RX5 yX5_pushOverOldest wsX5_pushOverOldest) := goodIn_app (goodIn_of _ (by decide +kernel)) ggX9_toss_X5_pushOverOldest
set_option maxRecDepth 20000 in
theorem ggX9_toss_X9_bit : GoodIn wsX9_toss wsX9_bit := goodIn_r _ [22] (by decide +kernel) (by decide +kernel)
set_option maxRecDepth 20000 in
theorem gX9_toss_X9_bit : GoodIn wsX9_toss (va_wsS RX9 156 yX9_bit wsX9_bit) := goodIn_app (goodIn_of _ (by decide +kernel)) ggX9_toss_X9_bit
set_option maxRecDepth 20000 in
theorem ggX9_toss_J6_bitCount_0f7a4 : GoodIn wsX9_toss wsJ6_bitCount_0f7a4 := goodIn_r _ [48, 49, 50, 51] (by decide +kernel) (by decide +kernel)
set_option maxRecDepth 20000 in
theorem gX9_toss_J6_bitCount_0f7a4 : GoodIn wsX9_toss (va_wsS RX9 159 yJ6_bitCount_0f7a4 wsJ6_bitCount_0f7a4) := goodIn_app (goodIn_of _ (by decide +kernel)) ggX9_toss_J6_bitCount_0f7a4
set_option maxRecDepth 20000 in
theorem ggX9_sell_X9_isPerson : GoodIn wsX9_sell wsX9_isPerson := goodIn_r _ [9, 3, 10, 11, 70, 71, 72, 73, 74, 75, 76, 77, 78, 79, 82, 83, 84, 85, 86, 87] (by decide +kernel) (by decide +kernel)
set_option maxRecDepth 20000 in
theorem gX9_sell_X9_isPerson : GoodIn wsX9_sell (wsV RX9 111 RX9 yX9_isPerson wsX9_isPerson) := goodIn_app (goodIn_of _ (by decide +kernel)) ggX9_sell_X9_isPerson
set_option maxRecDepth 20000 in
theorem ggX9_sell_X2_owns : GoodIn wsX9_sell wsX2_owns := goodIn_r _ [16, 17, 18, 8, 19, 20, 21, 22, 80, 81] (by decide +kernel) (by decide +kernel)
set_option maxRecDepth 20000 in
theorem gX9_sell_X2_owns : GoodIn wsX9_sell (wsV RX9 118 RX2 yX2_owns wsX2_owns) := goodIn_app (goodIn_of _ (by decide +kernel)) ggX9_sell_X2_owns
set_option maxRecDepth 20000 in
theorem ggX9_sell_X9_bit : GoodIn wsX9_sell wsX9_bit := goodIn_r _ [22] (by decide +kernel) (by decide +kernel)
set_option maxRecDepth 20000 in
theorem gX9_sell_X9_bit : GoodIn wsX9_sell (va_wsS RX9 156 yX9_bit wsX9_bit) := goodIn_app (goodIn_of _ (by decide +kernel)) ggX9_sell_X9_bit
set_option maxRecDepth 20000 in
theorem ggX9_sell_X3_othersOf : GoodIn wsX9_sell wsX3_othersOf := goodIn_r _ [27, 28, 29, 30, 8, 31, 32, 33, 34, 35, 36, 37, 21, 22, 38, 39, 40, 41, 42, 43, 44, 82, 83, 84, 85, 86, 87] (by decide +kernel) (by decide +kernel)
set_option maxRecDepth 20000 in
theorem gX9_sell_X3_othersOf : GoodIn wsX9_sell (wsV RX9 149 RX3 yX3_othersOf wsX3_othersOf) := goodIn_app (goodIn_of _ (by decide +kernel)) ggX9_sell_X3_othersOf
set_option maxRecDepth 20000 in
theorem ggX9_sell_X2_penniesOf : GoodIn wsX9_sell wsX2_penniesOf := goodIn_r _ [48, 49, 30, 8, 31, 80, 81] (by decide +kernel) (by decide +kernel)
set_option maxRecDepth 20000 in
theorem gX9_sell_X2_penniesOf : GoodIn wsX9_sell (wsV RX9 114 RX2 yX2_penniesOf wsX2_penniesOf) := goodIn_app (goodIn_of _ (by decide +kernel)) ggX9_sell_X2_penniesOf
set_option maxRecDepth 20000 in
theorem ggX9_sell_X5_pushOverOldest : GoodIn wsX9_sell wsX5_pushOverOldest := goodIn_r _ [54, 55, 56, 57, 30, 8, 31, 58, 59, 60, 61, 62, 53, 63, 64, 65, 46, 47, 15, 48, 49, 88, 89, 90, 80, 81] (by decide +kernel) (by decide +kernel)
set_option maxRecDepth 20000 in
theorem gX9_sell_X5_pushOverOldest : GoodIn wsX9_sell (wsV RX9 141 RX5 yX5_pushOverOldest wsX5_pushOverOldest) := goodIn_app (goodIn_of _ (by decide +kernel)) ggX9_sell_X5_pushOverOldest
set_option maxRecDepth 20000 in
theorem ggX9_sell_X2_earn : GoodIn wsX9_sell wsX2_earn := goodIn_r _ [69, 49, 30, 8, 31, 58, 59, 80, 81] (by decide +kernel) (by decide +kernel)
set_option maxRecDepth 20000 in
theorem gX9_sell_X2_earn : GoodIn wsX9_sell (wsV RX9 152 RX2 yX2_earn wsX2_earn) := goodIn_app (goodIn_of _ (by decide +kernel)) ggX9_sell_X2_earn
set_option maxRecDepth 20000 in
theorem ggX9_undo_X5_popInto : GoodIn wsX9_undo wsX5_popInto := goodIn_r _ [8, 9, 10, 11, 12, 13, 14, 15, 16, 17, 28, 29, 30, 31, 32] (by decide +kernel) (by decide +kernel)
set_option maxRecDepth 20000 in
theorem gX9_undo_X5_popInto : GoodIn wsX9_undo (wsV RX9 165 RX5 yX5_popInto wsX5_popInto) := goodIn_app (goodIn_of _ (by decide +kernel)) ggX9_undo_X5_popInto
set_option maxRecDepth 20000 in
theorem ggX9_price_X9_isPerson : GoodIn wsX9_price wsX9_isPerson := goodIn_r _ [8, 2, 9, 10, 44, 45, 46, 47, 48, 49, 50, 51, 52, 53, 56, 57, 58, 59, 60, 61] (by decide +kernel) (by decide +kernel)
set_option maxRecDepth 20000 in
theorem gX9_price_X9_isPerson : GoodIn wsX9_price (wsV RX9 111 RX9 yX9_isPerson wsX9_isPerson) := goodIn_app (goodIn_of _ (by decide +kernel)) ggX9_price_X9_isPerson
set_option maxRecDepth 20000 in
theorem ggX9_price_X2_owns : GoodIn wsX9_price wsX2_owns := goodIn_r _ [15, 16, 17, 7, 18, 19, 20, 21, 54, 55] (by decide +kernel) (by decide +kernel)
set_option maxRecDepth 20000 in
theorem gX9_price_X2_owns : GoodIn wsX9_price (wsV RX9 118 RX2 yX2_owns wsX2_owns) := goodIn_app (goodIn_of _ (by decide +kernel)) ggX9_price_X2_owns
set_option maxRecDepth 20000 in
theorem ggX9_price_X3_othersOf : GoodIn wsX9_price wsX3_othersOf := goodIn_r _ [26, 27, 28, 29, 7, 30, 31, 32, 33, 34, 35, 36, 20, 21, 37, 38, 39, 40, 41, 42, 43, 56, 57, 58, 59, 60, 61] (by decide +kernel) (by decide +kernel)
set_option maxRecDepth 20000 in
theorem gX9_price_X3_othersOf : GoodIn wsX9_price (wsV RX9 149 RX3 yX3_othersOf wsX3_othersOf) := goodIn_app (goodIn_of _ (by decide +kernel)) ggX9_price_X3_othersOf
set_option maxRecDepth 20000 in
theorem ggX9_would_X9_isEither : GoodIn wsX9_would wsX9_isEither := goodIn_r _ [7] (by decide +kernel) (by decide +kernel)
set_option maxRecDepth 20000 in
theorem gX9_would_X9_isEither : GoodIn wsX9_would (va_wsS RX9 168 yX9_isEither wsX9_isEither) := goodIn_app (goodIn_of _ (by decide +kernel)) ggX9_would_X9_isEither
set_option maxRecDepth 20000 in
theorem ggX9_would_X9_season : GoodIn wsX9_would wsX9_season := goodIn_r _ [11, 1, 12, 13, 56, 57, 58, 59, 60, 61, 62, 63, 64, 65, 68, 69, 70, 71, 72, 73] (by decide +kernel) (by decide +kernel)
set_option maxRecDepth 20000 in
theorem gX9_would_X9_season : GoodIn wsX9_would (wsV RX9 128 RX9 yX9_season wsX9_season) := goodIn_app (goodIn_of _ (by decide +kernel)) ggX9_would_X9_season
set_option maxRecDepth 20000 in
theorem ggX9_would_X3_changersBy : GoodIn wsX9_would wsX3_changersBy := goodIn_r _ [18, 19, 20, 21, 22, 23, 17, 24, 25, 26, 27, 28, 29, 30, 6, 31, 32, 33, 34, 35, 36, 37, 38, 39, 40, 41, 42, 43, 44, 45, 46, 47, 48, 49, 50, 51, 52, 53, 54, 55, 68, 69, 70, 71, 72, 73] (by decide +kernel) (by decide +kernel)
set_option maxRecDepth 20000 in
theorem gX9_would_X3_changersBy : GoodIn wsX9_would (wsV RX9 171 RX3 yX3_changersBy wsX3_changersBy) := goodIn_app (goodIn_of _ (by decide +kernel)) ggX9_would_X3_changersBy
set_option maxRecDepth 20000 in
theorem ggX9_behind_X1_ownersBehind : GoodIn wsX9_behind wsX1_ownersBehind := goodIn_r _ [8, 9, 10, 11, 12, 13, 14, 15, 16, 17, 18, 19, 20, 21, 22, 23, 24, 25, 26, 27, 28, 29, 30, 31, 32, 33, 34, 35, 36, 37, 38, 39, 40, 41, 42, 43, 44, 45, 46, 47, 48, 49, 50, 51, 52, 53, 54, 67, 68, 69, 70, 71, 72, 73, 74] (by decide +kernel) (by decide +kernel)
set_option maxRecDepth 20000 in
theorem gX9_behind_X1_ownersBehind : GoodIn wsX9_behind (wsV RX9 174 RX1 yX1_ownersBehind wsX1_ownersBehind) := goodIn_app (goodIn_of _ (by decide +kernel)) ggX9_behind_X1_ownersBehind
set_option maxRecDepth 20000 in
theorem ggX9_rest_X9_isEither : GoodIn wsX9_rest wsX9_isEither := goodIn_r _ [7] (by decide +kernel) (by decide +kernel)
set_option maxRecDepth 20000 in
theorem gX9_rest_X9_isEither : GoodIn wsX9_rest (va_wsS RX9 168 yX9_isEither wsX9_isEither) := goodIn_app (goodIn_of _ (by decide +kernel)) ggX9_rest_X9_isEither
set_option maxRecDepth 20000 in
theorem ggX9_rest_X1_roundsToRest : GoodIn wsX9_rest wsX1_roundsToRest := goodIn_r _ [12, 13, 14, 15, 16, 17, 18, 19, 20, 21, 22, 23, 24, 25, 26, 27, 28, 29, 30, 31, 32, 6, 33, 34, 35, 36, 37, 38, 39, 40, 41, 42, 43, 44, 45, 46, 47, 48, 49, 50, 51, 52, 53, 54, 55, 56, 57, 78, 79, 80, 81, 82, 83, 84, 85] (by decide +kernel) (by decide +kernel)
set_option maxRecDepth 20000 in
theorem gX9_rest_X1_roundsToRest : GoodIn wsX9_rest (wsV RX9 178 RX1 yX1_roundsToRest wsX1_roundsToRest) := goodIn_app (goodIn_of _ (by decide +kernel)) ggX9_rest_X1_roundsToRest
set_option maxRecDepth 20000 in
theorem ggX9_rest_X1_roundsOfSwing : GoodIn wsX9_rest wsX1_roundsOfSwing := goodIn_r _ [61, 13, 14, 15, 62, 63, 64, 11, 65, 16, 17, 18, 19, 20, 21, 22, 23, 24, 25, 26, 27, 28, 29, 30, 31, 32, 6, 33, 34, 35, 36, 37, 38, 39, 40, 41, 42, 43, 44, 45, 46, 47, 48, 49, 50, 51, 52, 53, 54, 55, 56, 57, 78, 79, 80, 81, 82, 83, 84, 85] (by decide +kernel) (by decide +kernel)
set_option maxRecDepth 20000 in
theorem gX9_rest_X1_roundsOfSwing : GoodIn wsX9_rest (wsV RX9 182 RX1 yX1_roundsOfSwing wsX1_roundsOfSwing) := goodIn_app (goodIn_of _ (by decide +kernel)) ggX9_rest_X1_roundsOfSwing
set_option maxRecDepth 20000 in
theorem ggX9_rests_X1_countRests : GoodIn wsX9_rests wsX1_countRests := goodIn_r _ [6, 7, 8, 9, 10, 11, 12, 13, 14, 15, 16, 17, 5, 18, 19, 20, 21, 22, 23, 24, 25, 26, 27, 28, 29, 30, 31, 32, 33, 34, 35, 36, 37, 38, 39, 40, 41, 42, 43, 44, 45, 46, 47, 48, 49, 50, 51, 52, 53, 54, 55, 56, 57, 58, 59, 60, 61, 76, 77, 78, 79, 80, 81, 82, 83] (by decide +kernel) (by decide +kernel)
set_option maxRecDepth 20000 in
theorem gX9_rests_X1_countRests : GoodIn wsX9_rests (wsV RX9 185 RX1 yX1_countRests wsX1_countRests) := goodIn_app (goodIn_of _ (by decide +kernel)) ggX9_rests_X1_countRests
set_option maxRecDepth 20000 in
theorem ggX9_rests_X1_restAt : GoodIn wsX9_rests wsX1_restAt := goodIn_r _ [65, 7, 8, 9, 10, 11, 12, 13, 14, 15, 16, 17, 5, 18, 19, 20, 21, 22, 23, 24, 25, 26, 27, 28, 29, 30, 31, 32, 33, 34, 35, 36, 37, 38, 39, 40, 41, 42, 43, 44, 45, 46, 47, 48, 49, 50, 51, 52, 53, 54, 55, 56, 57, 58, 59, 60, 61, 76, 77, 78, 79, 80, 81, 82, 83] (by decide +kernel) (by decide +kernel)
set_option maxRecDepth 20000 in
theorem gX9_rests_X1_restAt : GoodIn wsX9_rests (wsV RX9 188 RX1 yX1_restAt wsX1_restAt) := goodIn_app (goodIn_of _ (by decide +kernel)) ggX9_rests_X1_restAt
set_option maxRecDepth 20000 in
theorem ggX9_tip_X9_isSet : GoodIn wsX9_tip wsX9_isSet := goodIn_r _ [8, 9, 10, 11, 12, 13, 14, 15, 16, 87, 88, 89, 90, 91, 92, 93, 94, 95, 96, 99, 100, 101, 102, 103, 104] (by decide +kernel) (by decide +kernel)
set_option maxRecDepth 20000 in
theorem gX9_tip_X9_isSet : GoodIn wsX9_tip (wsV RX9 125 RX9 yX9_isSet wsX9_isSet) := goodIn_app (goodIn_of _ (by decide +kernel)) ggX9_tip_X9_isSet
set_option maxRecDepth 20000 in
theorem ggX9_tip_X9_isEither : GoodIn wsX9_tip wsX9_isEither := goodIn_r _ [19] (by decide +kernel) (by decide +kernel)
set_option maxRecDepth 20000 in
theorem gX9_tip_X9_isEither : GoodIn wsX9_tip (va_wsS RX9 168 yX9_isEither wsX9_isEither) := goodIn_app (goodIn_of _ (by decide +kernel)) ggX9_tip_X9_isEither
set_option maxRecDepth 20000 in
theorem ggX9_tip_X1_leastPush : GoodIn wsX9_tip wsX1_leastPush := goodIn_r _ [24, 25, 26, 27, 28, 29, 30, 23, 31, 32, 33, 34, 35, 36, 37, 38, 39, 40, 41, 42, 43, 44, 45, 46, 47, 48, 49, 7, 50, 51, 52, 53, 14, 54, 55, 56, 57, 58, 59, 60, 61, 62, 63, 64, 65, 66, 67, 68, 69, 70, 71, 72, 73, 74, 75, 76, 77, 78, 12, 13, 15, 16, 79, 80, 81, 82, 83, 84, 85, 105, 106, 99, 100, 101, 102, 103, 104] (by decide +kernel) (by decide +kernel)
set_option maxRecDepth 20000 in
theorem gX9_tip_X1_leastPush : GoodIn wsX9_tip (wsV RX9 191 RX1 yX1_leastPush wsX1_leastPush) := goodIn_app (goodIn_of _ (by decide +kernel)) ggX9_tip_X1_leastPush
set_option maxRecDepth 20000 in
theorem ggX9_tip_J6_bitCount_0f7a4 : GoodIn wsX9_tip wsJ6_bitCount_0f7a4 := goodIn_r _ [61, 62, 63, 64] (by decide +kernel) (by decide +kernel)
set_option maxRecDepth 20000 in
theorem gX9_tip_J6_bitCount_0f7a4 : GoodIn wsX9_tip (va_wsS RX9 159 yJ6_bitCount_0f7a4 wsJ6_bitCount_0f7a4) := goodIn_app (goodIn_of _ (by decide +kernel)) ggX9_tip_J6_bitCount_0f7a4
set_option maxRecDepth 20000 in
theorem ggX9_place_X9_isPerson : GoodIn wsX9_place wsX9_isPerson := goodIn_r _ [8, 9, 10, 11, 78, 79, 80, 81, 82, 83, 84, 85, 86, 87, 90, 91, 92, 93, 94, 95] (by decide +kernel) (by decide +kernel)
set_option maxRecDepth 20000 in
theorem gX9_place_X9_isPerson : GoodIn wsX9_place (wsV RX9 111 RX9 yX9_isPerson wsX9_isPerson) := goodIn_app (goodIn_of _ (by decide +kernel)) ggX9_place_X9_isPerson
set_option maxRecDepth 20000 in
theorem ggX9_place_X9_isEither : GoodIn wsX9_place wsX9_isEither := goodIn_r _ [14] (by decide +kernel) (by decide +kernel)
set_option maxRecDepth 20000 in
theorem gX9_place_X9_isEither : GoodIn wsX9_place (va_wsS RX9 168 yX9_isEither wsX9_isEither) := goodIn_app (goodIn_of _ (by decide +kernel)) ggX9_place_X9_isEither
set_option maxRecDepth 20000 in
theorem ggX9_place_X2_owns : GoodIn wsX9_place wsX2_owns := goodIn_r _ [19, 20, 21, 7, 22, 23, 24, 25, 88, 89] (by decide +kernel) (by decide +kernel)
set_option maxRecDepth 20000 in
theorem gX9_place_X2_owns : GoodIn wsX9_place (wsV RX9 118 RX2 yX2_owns wsX2_owns) := goodIn_app (goodIn_of _ (by decide +kernel)) ggX9_place_X2_owns
set_option maxRecDepth 20000 in
theorem ggX9_place_X0_bestAhead : GoodIn wsX9_place wsX0_bestAhead := goodIn_r _ [30, 31, 32, 33, 34, 35, 36, 37, 38, 39, 40, 41, 42, 43, 29, 44, 45, 21, 7, 22, 23, 24, 25, 46, 47, 48, 49, 50, 51, 52, 53, 54, 55, 56, 57, 58, 59, 60, 61, 62, 63, 64, 65, 66, 67, 68, 69, 70, 71, 72, 73, 74, 75, 76, 96, 90, 91, 92, 93, 94, 95] (by decide +kernel) (by decide +kernel)
set_option maxRecDepth 20000 in
theorem gX9_place_X0_bestAhead : GoodIn wsX9_place (wsV RX9 194 RX0 yX0_bestAhead wsX0_bestAhead) := goodIn_app (goodIn_of _ (by decide +kernel)) ggX9_place_X0_bestAhead
set_option maxRecDepth 20000 in
theorem ggX9_place_X0_gainBehind : GoodIn wsX9_place wsX0_gainBehind := goodIn_r _ [44, 31, 32, 33, 45, 21, 7, 22, 23, 24, 25, 46, 47, 48, 49, 50, 51, 52, 53, 54, 55, 56, 57, 58, 59, 60, 61, 35, 36, 37, 38, 39, 40, 62, 63, 64, 65, 66, 67, 68, 69, 70, 71, 72, 73, 74, 75, 76, 96, 90, 91, 92, 93, 94, 95] (by decide +kernel) (by decide +kernel)
set_option maxRecDepth 20000 in
theorem gX9_place_X0_gainBehind : GoodIn wsX9_place (wsV RX9 197 RX0 yX0_gainBehind wsX0_gainBehind) := goodIn_app (goodIn_of _ (by decide +kernel)) ggX9_place_X0_gainBehind
set_option maxRecDepth 20000 in
theorem ggX9_burn_X9_isPerson : GoodIn wsX9_burn wsX9_isPerson := goodIn_r _ [8, 9, 10, 11, 64, 65, 66, 67, 68, 69, 70, 71, 72, 73, 76, 77, 78, 79, 80, 81] (by decide +kernel) (by decide +kernel)
set_option maxRecDepth 20000 in
theorem gX9_burn_X9_isPerson : GoodIn wsX9_burn (wsV RX9 111 RX9 yX9_isPerson wsX9_isPerson) := goodIn_app (goodIn_of _ (by decide +kernel)) ggX9_burn_X9_isPerson
set_option maxRecDepth 20000 in
theorem ggX9_burn_X2_owns : GoodIn wsX9_burn wsX2_owns := goodIn_r _ [16, 17, 18, 7, 19, 20, 21, 22, 74, 75] (by decide +kernel) (by decide +kernel)
set_option maxRecDepth 20000 in
theorem gX9_burn_X2_owns : GoodIn wsX9_burn (wsV RX9 118 RX2 yX2_owns wsX2_owns) := goodIn_app (goodIn_of _ (by decide +kernel)) ggX9_burn_X2_owns
set_option maxRecDepth 20000 in
theorem ggX9_burn_X0_leastBurnt : GoodIn wsX9_burn wsX0_leastBurnt := goodIn_r _ [27, 28, 29, 30, 31, 32, 33, 34, 35, 36, 37, 38, 39, 40, 41, 42, 43, 44, 45, 46, 47, 48, 49, 7, 50, 51, 52, 53, 54, 55, 56, 21, 22, 57, 58, 59, 60, 61, 62, 63, 82, 76, 77, 78, 79, 80, 81] (by decide +kernel) (by decide +kernel)
set_option maxRecDepth 20000 in
theorem gX9_burn_X0_leastBurnt : GoodIn wsX9_burn (wsV RX9 200 RX0 yX0_leastBurnt wsX0_leastBurnt) := goodIn_app (goodIn_of _ (by decide +kernel)) ggX9_burn_X0_leastBurnt
set_option maxRecDepth 20000 in
theorem ggX9_share_X0_bestPair : GoodIn wsX9_share wsX0_bestPair := goodIn_r _ [8, 9, 10, 11, 12, 13, 14, 15, 16, 17, 18, 19, 20, 7, 21, 22, 23, 24, 25, 26, 27, 28, 29, 30, 31, 32, 33, 34, 35, 36, 37, 38, 39, 40, 41, 42, 43, 44, 45, 46, 47, 48, 49, 50, 63, 64, 65, 66, 67, 68, 69] (by decide +kernel) (by decide +kernel)
set_option maxRecDepth 20000 in
theorem gX9_share_X0_bestPair : GoodIn wsX9_share (wsV RX9 203 RX0 yX0_bestPair wsX0_bestPair) := goodIn_app (goodIn_of _ (by decide +kernel)) ggX9_share_X0_bestPair
set_option maxRecDepth 20000 in
theorem ggX9_seen_X9_isPerson : GoodIn wsX9_seen wsX9_isPerson := goodIn_r _ [7, 8, 9, 10, 22, 23, 24, 25, 26, 27, 28, 29, 30, 31, 36, 37, 38, 39, 40, 41] (by decide +kernel) (by decide +kernel)
set_option maxRecDepth 20000 in
theorem gX9_seen_X9_isPerson : GoodIn wsX9_seen (wsV RX9 111 RX9 yX9_isPerson wsX9_isPerson) := goodIn_app (goodIn_of _ (by decide +kernel)) ggX9_seen_X9_isPerson
set_option maxRecDepth 20000 in
theorem ggX9_seen_X7_add : GoodIn wsX9_seen wsX7_add := goodIn_r _ [15, 16, 17, 18, 19, 20, 6, 21, 32, 33, 34, 35] (by decide +kernel) (by decide +kernel)
set_option maxRecDepth 20000 in
theorem gX9_seen_X7_add : GoodIn wsX9_seen (wsV RX9 207 RX7 yX7_add wsX7_add) := goodIn_app (goodIn_of _ (by decide +kernel)) ggX9_seen_X7_add
set_option maxRecDepth 20000 in
theorem ggX9_likes_X9_isPerson : GoodIn wsX9_likes wsX9_isPerson := goodIn_r _ [8, 2, 3, 9, 32, 33, 34, 35, 36, 37, 38, 39, 40, 41, 42, 43, 44, 45, 46, 47] (by decide +kernel) (by decide +kernel)
set_option maxRecDepth 20000 in
theorem gX9_likes_X9_isPerson : GoodIn wsX9_likes (wsV RX9 111 RX9 yX9_isPerson wsX9_isPerson) := goodIn_app (goodIn_of _ (by decide +kernel)) ggX9_likes_X9_isPerson
set_option maxRecDepth 20000 in
theorem ggX9_likes_X9_isEither : GoodIn wsX9_likes wsX9_isEither := goodIn_r _ [12] (by decide +kernel) (by decide +kernel)
set_option maxRecDepth 20000 in
theorem gX9_likes_X9_isEither : GoodIn wsX9_likes (va_wsS RX9 168 yX9_isEither wsX9_isEither) := goodIn_app (goodIn_of _ (by decide +kernel)) ggX9_likes_X9_isEither
set_option maxRecDepth 20000 in
theorem ggX9_likes_X7_fit : GoodIn wsX9_likes wsX7_fit := goodIn_r _ [17, 18, 19, 20, 21, 22, 7, 23, 24, 25, 26, 27, 28, 29, 30, 31, 48, 49, 50, 51, 44, 45, 46, 47] (by decide +kernel) (by decide +kernel)
set_option maxRecDepth 20000 in
theorem gX9_likes_X7_fit : GoodIn wsX9_likes (wsV RX9 210 RX7 yX7_fit wsX7_fit) := goodIn_app (goodIn_of _ (by decide +kernel)) ggX9_likes_X7_fit
set_option maxRecDepth 20000 in
theorem ggX9_year_X9_isEither : GoodIn wsX9_year wsX9_isEither := goodIn_r _ [7] (by decide +kernel) (by decide +kernel)
set_option maxRecDepth 20000 in
theorem gX9_year_X9_isEither : GoodIn wsX9_year (va_wsS RX9 168 yX9_isEither wsX9_isEither) := goodIn_app (goodIn_of _ (by decide +kernel)) ggX9_year_X9_isEither
set_option maxRecDepth 20000 in
theorem ggX9_year_X1_ownersBehindYear : GoodIn wsX9_year wsX1_ownersBehindYear := goodIn_r _ [12, 13, 14, 15, 11, 16, 17, 18, 19, 20, 21, 22, 23, 24, 25, 26, 27, 28, 29, 30, 31, 32, 33, 34, 35, 36, 37, 6, 38, 39, 40, 41, 42, 43, 44, 45, 46, 47, 48, 49, 50, 51, 52, 53, 54, 55, 56, 57, 58, 59, 60, 61, 62, 63, 80, 81, 82, 83, 84, 85, 86, 87] (by decide +kernel) (by decide +kernel)
set_option maxRecDepth 20000 in
theorem gX9_year_X1_ownersBehindYear : GoodIn wsX9_year (wsV RX9 214 RX1 yX1_ownersBehindYear wsX1_ownersBehindYear) := goodIn_app (goodIn_of _ (by decide +kernel)) ggX9_year_X1_ownersBehindYear
set_option maxRecDepth 20000 in
theorem ggX9_year_X1_bestDay : GoodIn wsX9_year wsX1_bestDay := goodIn_r _ [67, 13, 14, 15, 11, 16, 17, 18, 19, 20, 21, 22, 23, 24, 25, 26, 27, 28, 29, 30, 31, 32, 33, 34, 35, 36, 37, 6, 38, 39, 40, 41, 42, 43, 44, 45, 46, 47, 48, 49, 50, 51, 52, 53, 54, 55, 56, 57, 58, 59, 60, 61, 62, 63, 80, 81, 82, 83, 84, 85, 86, 87] (by decide +kernel) (by decide +kernel)
set_option maxRecDepth 20000 in
theorem gX9_year_X1_bestDay : GoodIn wsX9_year (wsV RX9 217 RX1 yX1_bestDay wsX1_bestDay) := goodIn_app (goodIn_of _ (by decide +kernel)) ggX9_year_X1_bestDay
set_option maxRecDepth 20000 in
theorem ggX9_keep_X5_push : GoodIn wsX9_keep wsX5_push := goodIn_r _ [8, 9, 10, 11, 12, 13, 14, 15, 16, 17, 18, 19, 20, 21, 22, 23, 34, 35, 36, 37, 38] (by decide +kernel) (by decide +kernel)
set_option maxRecDepth 20000 in
theorem gX9_keep_X5_push : GoodIn wsX9_keep (wsV RX9 220 RX5 yX5_push wsX5_push) := goodIn_app (goodIn_of _ (by decide +kernel)) ggX9_keep_X5_push
set_option maxRecDepth 20000 in
theorem ggX9_back_X5_popInto : GoodIn wsX9_back wsX5_popInto := goodIn_r _ [9, 10, 11, 12, 13, 14, 15, 16, 17, 18, 29, 30, 31, 32, 33] (by decide +kernel) (by decide +kernel)
set_option maxRecDepth 20000 in
theorem gX9_back_X5_popInto : GoodIn wsX9_back (wsV RX9 165 RX5 yX5_popInto wsX5_popInto) := goodIn_app (goodIn_of _ (by decide +kernel)) ggX9_back_X5_popInto
set_option maxRecDepth 20000 in
theorem ggX9_count_X9_season : GoodIn wsX9_count wsX9_season := goodIn_r _ [17, 1, 2, 18, 19, 20, 21, 22, 23, 24, 25, 26, 27, 28, 29, 30, 31, 32, 33, 34] (by decide +kernel) (by decide +kernel)
set_option maxRecDepth 20000 in
theorem gX9_count_X9_season : GoodIn wsX9_count (wsV RX9 128 RX9 yX9_season wsX9_season) := goodIn_app (goodIn_of _ (by decide +kernel)) ggX9_count_X9_season
set_option maxRecDepth 20000 in
theorem ggX9_settle_X3_open : GoodIn wsX9_settle wsX3_open := goodIn_r _ [14, 15, 16, 17, 18, 19, 20, 21, 22, 23, 24, 25, 26, 27, 28, 29, 30, 31, 32, 33, 34, 35, 36, 37, 57, 58, 66, 67, 68, 69] (by decide +kernel) (by decide +kernel)
set_option maxRecDepth 20000 in
theorem gX9_settle_X3_open : GoodIn wsX9_settle (wsV RX9 223 RX3 yX3_open wsX3_open) := goodIn_app (goodIn_of _ (by decide +kernel)) ggX9_settle_X3_open
set_option maxRecDepth 20000 in
theorem ggX9_settle_X2_begin : GoodIn wsX9_settle wsX2_begin := goodIn_r _ [42, 43, 44, 45, 46, 33, 34, 21, 35, 23, 30, 28, 31, 66, 67, 68, 69, 70, 71] (by decide +kernel) (by decide +kernel)
set_option maxRecDepth 20000 in
theorem gX9_settle_X2_begin : GoodIn wsX9_settle (wsV RX9 227 RX2 yX2_begin wsX2_begin) := goodIn_app (goodIn_of _ (by decide +kernel)) ggX9_settle_X2_begin
set_option maxRecDepth 20000 in
theorem ggX9_isSet_X4_sets : GoodIn wsX9_isSet wsX4_sets := goodIn_r _ [7, 8, 21, 22, 23, 24] (by decide +kernel) (by decide +kernel)
set_option maxRecDepth 20000 in
theorem gX9_isSet_X4_sets : GoodIn wsX9_isSet (wsV RX9 230 RX4 yX4_sets wsX4_sets) := goodIn_app (goodIn_of _ (by decide +kernel)) ggX9_isSet_X4_sets
set_option maxRecDepth 20000 in
theorem ggX9_canPay_X9_has : GoodIn wsX9_canPay wsX9_has := goodIn_r _ [9, 10, 11, 8, 12] (by decide +kernel) (by decide +kernel)
set_option maxRecDepth 20000 in
theorem gX9_canPay_X9_has : GoodIn wsX9_canPay (va_wsS RX9 145 yX9_has wsX9_has) := goodIn_app (goodIn_of _ (by decide +kernel)) ggX9_canPay_X9_has
set_option maxRecDepth 20000 in
theorem ggX9_canPay_X2_penniesOf : GoodIn wsX9_canPay wsX2_penniesOf := goodIn_r _ [17, 18, 19, 8, 20, 57, 58] (by decide +kernel) (by decide +kernel)
set_option maxRecDepth 20000 in
theorem gX9_canPay_X2_penniesOf : GoodIn wsX9_canPay (wsV RX9 114 RX2 yX2_penniesOf wsX2_penniesOf) := goodIn_app (goodIn_of _ (by decide +kernel)) ggX9_canPay_X2_penniesOf
set_option maxRecDepth 20000 in
theorem ggX9_canPay_X3_othersOf : GoodIn wsX9_canPay wsX3_othersOf := goodIn_r _ [25, 26, 27, 19, 8, 20, 28, 29, 30, 31, 32, 33, 11, 12, 34, 35, 36, 37, 38, 39, 40, 51, 52, 53, 54, 55, 56] (by decide +kernel) (by decide +kernel)
set_option maxRecDepth 20000 in
theorem gX9_canPay_X3_othersOf : GoodIn wsX9_canPay (wsV RX9 149 RX3 yX3_othersOf wsX3_othersOf) := goodIn_app (goodIn_of _ (by decide +kernel)) ggX9_canPay_X3_othersOf
set_option maxRecDepth 20000 in
theorem ggX9_has_X9_bit : GoodIn wsX9_has wsX9_bit := goodIn_r _ [4] (by decide +kernel) (by decide +kernel)
set_option maxRecDepth 20000 in
theorem gX9_has_X9_bit : GoodIn wsX9_has (va_wsS RX9 156 yX9_bit wsX9_bit) := goodIn_app (goodIn_of _ (by decide +kernel)) ggX9_has_X9_bit
set_option maxRecDepth 20000 in
theorem ggX10_isPerson_X10_in : GoodIn wsX10_isPerson wsX10_in := goodIn_r _ [5] (by decide +kernel) (by decide +kernel)
set_option maxRecDepth 20000 in
theorem gX10_isPerson_X10_in : GoodIn wsX10_isPerson (va_wsS RX10 57 yX10_in wsX10_in) := goodIn_app (goodIn_of _ (by decide +kernel)) ggX10_isPerson_X10_in
set_option maxRecDepth 20000 in
theorem ggX10_write_X10_in : GoodIn wsX10_write wsX10_in := goodIn_r _ [8] (by decide +kernel) (by decide +kernel)
set_option maxRecDepth 20000 in
theorem gX10_write_X10_in : GoodIn wsX10_write (va_wsS RX10 57 yX10_in wsX10_in) := goodIn_app (goodIn_of _ (by decide +kernel)) ggX10_write_X10_in
set_option maxRecDepth 20000 in
theorem ggX10_isFigure_X10_in : GoodIn wsX10_isFigure wsX10_in := goodIn_r _ [8] (by decide +kernel) (by decide +kernel)
set_option maxRecDepth 20000 in
theorem gX10_isFigure_X10_in : GoodIn wsX10_isFigure (va_wsS RX10 57 yX10_in wsX10_in) := goodIn_app (goodIn_of _ (by decide +kernel)) ggX10_isFigure_X10_in
set_option maxRecDepth 20000 in
theorem ggX10_number_X10_isFigure : GoodIn wsX10_number wsX10_isFigure := goodIn_r _ [8, 3, 2, 9, 10, 11, 12, 7, 13, 14, 15, 16, 17, 18, 19, 20, 21, 22, 23, 24, 25, 26, 27, 28, 29, 30, 31, 32, 33, 34, 35, 36, 37] (by decide +kernel) (by decide +kernel)
set_option maxRecDepth 20000 in
theorem gX10_number_X10_isFigure : GoodIn wsX10_number (wsV RX10 75 RX10 yX10_isFigure wsX10_isFigure) := goodIn_app (goodIn_of _ (by decide +kernel)) ggX10_number_X10_isFigure
set_option maxRecDepth 20000 in
theorem ggX10_takesPerson_X10_mostOf : GoodIn wsX10_takesPerson wsX10_mostOf := goodIn_r _ [6] (by decide +kernel) (by decide +kernel)
set_option maxRecDepth 20000 in
theorem gX10_takesPerson_X10_mostOf : GoodIn wsX10_takesPerson (va_wsS RX10 82 yX10_mostOf wsX10_mostOf) := goodIn_app (goodIn_of _ (by decide +kernel)) ggX10_takesPerson_X10_mostOf
set_option maxRecDepth 20000 in
theorem ggX10_takesPerson_X10_number : GoodIn wsX10_takesPerson wsX10_number := goodIn_r _ [10, 11, 12, 13, 14, 15, 16, 5, 17, 18, 19, 20, 21, 22, 23, 24, 25, 26, 27, 28, 29, 30, 31, 32, 33, 34, 35, 36, 37, 38, 39, 40, 41, 42, 43, 44, 45, 46] (by decide +kernel) (by decide +kernel)
set_option maxRecDepth 20000 in
theorem gX10_takesPerson_X10_number : GoodIn wsX10_takesPerson (wsV RX10 86 RX10 yX10_number wsX10_number) := goodIn_app (goodIn_of _ (by decide +kernel)) ggX10_takesPerson_X10_number
set_option maxRecDepth 20000 in
theorem ggX10_takesItem_X10_takesPerson : GoodIn wsX10_takesItem wsX10_takesPerson := goodIn_r _ [10, 3, 11, 12, 13, 9, 14, 15, 16, 17, 18, 2, 1, 19, 20, 21, 22, 23, 24, 25, 26, 27, 28, 29, 30, 31, 32, 33, 34, 35, 36, 37, 38, 39, 40, 41, 42, 43, 44, 45, 46, 47, 48, 49, 50, 51, 52] (by decide +kernel) (by decide +kernel)
set_option maxRecDepth 20000 in
theorem gX10_takesItem_X10_takesPerson : GoodIn wsX10_takesItem (wsV RX10 90 RX10 yX10_takesPerson wsX10_takesPerson) := goodIn_app (goodIn_of _ (by decide +kernel)) ggX10_takesItem_X10_takesPerson
set_option maxRecDepth 20000 in
theorem ggX10_takesItem_X10_number : GoodIn wsX10_takesItem wsX10_number := goodIn_r _ [18, 2, 1, 19, 20, 21, 22, 9, 23, 24, 25, 26, 27, 28, 29, 30, 31, 32, 33, 34, 35, 36, 37, 38, 39, 40, 41, 42, 43, 44, 45, 46, 47, 48, 49, 50, 51, 52] (by decide +kernel) (by decide +kernel)
set_option maxRecDepth 20000 in
theorem gX10_takesItem_X10_number : GoodIn wsX10_takesItem (wsV RX10 86 RX10 yX10_number wsX10_number) := goodIn_app (goodIn_of _ (by decide +kernel)) ggX10_takesItem_X10_number
set_option maxRecDepth 20000 in
theorem ggX10_fault_X10_takesItem : GoodIn wsX10_fault wsX10_takesItem := goodIn_r _ [10, 11, 1, 2, 3, 4, 12, 13, 14, 9, 15, 16, 17, 18, 19, 20, 21, 22, 23, 5, 24, 25, 26, 27, 28, 29, 30, 31, 32, 33, 34, 35, 36, 37, 38, 39, 40, 41, 42, 43, 44, 45, 46, 47, 48, 49, 50, 51, 52, 53, 54, 55, 56] (by decide +kernel) (by decide +kernel)
set_option maxRecDepth 20000 in
theorem gX10_fault_X10_takesItem : GoodIn wsX10_fault (wsV RX10 100 RX10 yX10_takesItem wsX10_takesItem) := goodIn_app (goodIn_of _ (by decide +kernel)) ggX10_fault_X10_takesItem
set_option maxRecDepth 20000 in
theorem ggX10_lay_X10_fault : GoodIn wsX10_lay wsX10_fault := goodIn_r _ [20, 21, 1, 9, 11, 22, 23, 24, 25, 19, 26, 27, 28, 29, 30, 31, 4, 32, 33, 34, 35, 36, 37, 38, 39, 40, 41, 42, 43, 44, 45, 46, 47, 48, 49, 50, 51, 52, 53, 54, 55, 56, 57, 58, 59, 60, 61, 62, 63, 64, 65, 66, 67, 68, 69, 70, 71] (by decide +kernel) (by decide +kernel)
set_option maxRecDepth 20000 in
theorem gX10_lay_X10_fault : GoodIn wsX10_lay (wsV RX10 103 RX10 yX10_fault wsX10_fault) := goodIn_app (goodIn_of _ (by decide +kernel)) ggX10_lay_X10_fault
set_option maxRecDepth 20000 in
theorem ggX10_person_X10_isPerson : GoodIn wsX10_person wsX10_isPerson := goodIn_r _ [12, 13, 14, 15, 11, 16, 20, 21, 22, 23, 24, 25, 26, 27, 28, 29, 30, 31, 32, 33, 34, 35, 36, 37, 38, 39, 40, 41, 42, 43] (by decide +kernel) (by decide +kernel)
set_option maxRecDepth 20000 in
theorem gX10_person_X10_isPerson : GoodIn wsX10_person (wsV RX10 119 RX10 yX10_isPerson wsX10_isPerson) := goodIn_app (goodIn_of _ (by decide +kernel)) ggX10_person_X10_isPerson
set_option maxRecDepth 20000 in
theorem ggX10_person_X10_in : GoodIn wsX10_person wsX10_in := goodIn_r _ [16] (by decide +kernel) (by decide +kernel)
set_option maxRecDepth 20000 in
theorem gX10_person_X10_in : GoodIn wsX10_person (va_wsS RX10 57 yX10_in wsX10_in) := goodIn_app (goodIn_of _ (by decide +kernel)) ggX10_person_X10_in
set_option maxRecDepth 20000 in
theorem ggX10_person_X10_has : GoodIn wsX10_person wsX10_has := goodIn_r _ [19] (by decide +kernel) (by decide +kernel)
set_option maxRecDepth 20000 in
theorem gX10_person_X10_has : GoodIn wsX10_person (va_wsS RX10 124 yX10_has wsX10_has) := goodIn_app (goodIn_of _ (by decide +kernel)) ggX10_person_X10_has
set_option maxRecDepth 20000 in
theorem ggX10_othersThan_X10_has : GoodIn wsX10_othersThan wsX10_has := goodIn_r _ [6] (by decide +kernel) (by decide +kernel)
set_option maxRecDepth 20000 in
theorem gX10_othersThan_X10_has : GoodIn wsX10_othersThan (va_wsS RX10 124 yX10_has wsX10_has) := goodIn_app (goodIn_of _ (by decide +kernel)) ggX10_othersThan_X10_has
set_option maxRecDepth 20000 in
theorem ggX10_othersThan_X10_bits : GoodIn wsX10_othersThan wsX10_bits := goodIn_r _ [9] (by decide +kernel) (by decide +kernel)
set_option maxRecDepth 20000 in
theorem gX10_othersThan_X10_bits : GoodIn wsX10_othersThan (va_wsS RX10 128 yX10_bits wsX10_bits) := goodIn_app (goodIn_of _ (by decide +kernel)) ggX10_othersThan_X10_bits
set_option maxRecDepth 20000 in
theorem ggX10_others_X10_othersThan : GoodIn wsX10_others wsX10_othersThan := goodIn_r _ [6, 7, 1, 8, 9, 5, 10, 11, 12, 13, 14, 15, 16, 17, 18, 19, 20, 21, 22, 23, 24, 25, 26, 27, 28, 29, 30, 31, 32, 33, 34, 35, 36, 37] (by decide +kernel) (by decide +kernel)
set_option maxRecDepth 20000 in
theorem gX10_others_X10_othersThan : GoodIn wsX10_others (wsV RX10 131 RX10 yX10_othersThan wsX10_othersThan) := goodIn_app (goodIn_of _ (by decide +kernel)) ggX10_others_X10_othersThan
set_option maxRecDepth 20000 in
theorem ggX10_worthOf_X10_others : GoodIn wsX10_worthOf wsX10_others := goodIn_r _ [9, 10, 11, 12, 13, 8, 14, 15, 16, 17, 18, 19, 20, 21, 25, 26, 27, 28, 29, 30, 31, 32, 33, 34, 35, 36, 37, 38, 39, 40, 41, 42, 43, 44, 45, 46, 47, 48] (by decide +kernel) (by decide +kernel)
set_option maxRecDepth 20000 in
theorem gX10_worthOf_X10_others : GoodIn wsX10_worthOf (wsV RX10 134 RX10 yX10_others wsX10_others) := goodIn_app (goodIn_of _ (by decide +kernel)) ggX10_worthOf_X10_others
set_option maxRecDepth 20000 in
theorem ggX10_worthOf_X10_worthBy : GoodIn wsX10_worthOf wsX10_worthBy := goodIn_r _ [24] (by decide +kernel) (by decide +kernel)
set_option maxRecDepth 20000 in
theorem gX10_worthOf_X10_worthBy : GoodIn wsX10_worthOf (va_wsS RX10 137 yX10_worthBy wsX10_worthBy) := goodIn_app (goodIn_of _ (by decide +kernel)) ggX10_worthOf_X10_worthBy
set_option maxRecDepth 20000 in
theorem ggX10_worth_X10_isPerson : GoodIn wsX10_worth wsX10_isPerson := goodIn_r _ [5, 6, 7, 8, 4, 9, 40, 41, 42, 43, 44, 45, 46, 47, 48, 49, 50, 51, 52, 53, 54, 55, 56, 57, 58, 59, 60, 61, 62, 63] (by decide +kernel) (by decide +kernel)
set_option maxRecDepth 20000 in
theorem gX10_worth_X10_isPerson : GoodIn wsX10_worth (wsV RX10 119 RX10 yX10_isPerson wsX10_isPerson) := goodIn_app (goodIn_of _ (by decide +kernel)) ggX10_worth_X10_isPerson
set_option maxRecDepth 20000 in
theorem ggX10_worth_X10_all : GoodIn wsX10_worth wsX10_all := goodIn_r _ [13, 6, 40, 41, 42, 43, 44, 45, 46, 47, 48, 49, 50, 51, 52, 53, 54, 55, 56, 57, 58, 59, 60, 61, 62, 63] (by decide +kernel) (by decide +kernel)
set_option maxRecDepth 20000 in
theorem gX10_worth_X10_all : GoodIn wsX10_worth (wsV RX10 141 RX10 yX10_all wsX10_all) := goodIn_app (goodIn_of _ (by decide +kernel)) ggX10_worth_X10_all
set_option maxRecDepth 20000 in
theorem ggX10_worth_X10_in : GoodIn wsX10_worth wsX10_in := goodIn_r _ [9] (by decide +kernel) (by decide +kernel)
set_option maxRecDepth 20000 in
theorem gX10_worth_X10_in : GoodIn wsX10_worth (va_wsS RX10 57 yX10_in wsX10_in) := goodIn_app (goodIn_of _ (by decide +kernel)) ggX10_worth_X10_in
set_option maxRecDepth 20000 in
theorem ggX10_worth_X10_worthOf : GoodIn wsX10_worth wsX10_worthOf := goodIn_r _ [17, 18, 19, 20, 21, 22, 23, 24, 4, 25, 26, 27, 28, 29, 30, 6, 31, 32, 33, 34, 35, 36, 37, 38, 39, 40, 41, 42, 43, 44, 45, 46, 47, 48, 49, 50, 51, 52, 53, 54, 55, 56, 57, 58, 59, 60, 61, 62, 63] (by decide +kernel) (by decide +kernel)
set_option maxRecDepth 20000 in
theorem gX10_worth_X10_worthOf : GoodIn wsX10_worth (wsV RX10 144 RX10 yX10_worthOf wsX10_worthOf) := goodIn_app (goodIn_of _ (by decide +kernel)) ggX10_worth_X10_worthOf
set_option maxRecDepth 20000 in
theorem ggX10_buy_X10_all : GoodIn wsX10_buy wsX10_all := goodIn_r _ [8, 2, 33, 34, 35, 36, 37, 38, 39, 40, 41, 42, 43, 44, 45, 46, 47, 48, 49, 50, 51, 52, 53, 54, 55, 56] (by decide +kernel) (by decide +kernel)
set_option maxRecDepth 20000 in
theorem gX10_buy_X10_all : GoodIn wsX10_buy (wsV RX10 141 RX10 yX10_all wsX10_all) := goodIn_app (goodIn_of _ (by decide +kernel)) ggX10_buy_X10_all
set_option maxRecDepth 20000 in
theorem ggX10_buy_X10_in : GoodIn wsX10_buy wsX10_in := goodIn_r _ [11] (by decide +kernel) (by decide +kernel)
set_option maxRecDepth 20000 in
theorem gX10_buy_X10_in : GoodIn wsX10_buy (va_wsS RX10 57 yX10_in wsX10_in) := goodIn_app (goodIn_of _ (by decide +kernel)) ggX10_buy_X10_in
set_option maxRecDepth 20000 in
theorem ggX10_buy_X10_has : GoodIn wsX10_buy wsX10_has := goodIn_r _ [14] (by decide +kernel) (by decide +kernel)
set_option maxRecDepth 20000 in
theorem gX10_buy_X10_has : GoodIn wsX10_buy (va_wsS RX10 124 yX10_has wsX10_has) := goodIn_app (goodIn_of _ (by decide +kernel)) ggX10_buy_X10_has
set_option maxRecDepth 20000 in
theorem ggX10_buy_X10_others : GoodIn wsX10_buy wsX10_others := goodIn_r _ [18, 19, 20, 21, 22, 7, 23, 2, 12, 13, 14, 24, 25, 26, 33, 34, 35, 36, 37, 38, 39, 40, 41, 42, 43, 44, 45, 46, 47, 48, 49, 50, 51, 52, 53, 54, 55, 56] (by decide +kernel) (by decide +kernel)
set_option maxRecDepth 20000 in
theorem gX10_buy_X10_others : GoodIn wsX10_buy (wsV RX10 134 RX10 yX10_others wsX10_others) := goodIn_app (goodIn_of _ (by decide +kernel)) ggX10_buy_X10_others
set_option maxRecDepth 20000 in
theorem ggX10_buy_X10_remember : GoodIn wsX10_buy wsX10_remember := goodIn_r _ [30, 31, 32, 1, 3, 33, 34, 35, 36, 37, 38, 39, 40, 41, 42, 43, 44, 45, 46, 47, 48, 49, 50, 51, 52, 53, 54, 55, 56] (by decide +kernel) (by decide +kernel)
set_option maxRecDepth 20000 in
theorem gX10_buy_X10_remember : GoodIn wsX10_buy (wsV RX10 147 RX10 yX10_remember wsX10_remember) := goodIn_app (goodIn_of _ (by decide +kernel)) ggX10_buy_X10_remember
set_option maxRecDepth 20000 in
theorem ggX10_toss_X10_isPerson : GoodIn wsX10_toss wsX10_isPerson := goodIn_r _ [6, 7, 8, 9, 5, 10, 24, 25, 26, 27, 28, 29, 30, 31, 32, 33, 34, 35, 36, 37, 38, 39, 40, 41, 42, 43, 44, 45, 46, 47] (by decide +kernel) (by decide +kernel)
set_option maxRecDepth 20000 in
theorem gX10_toss_X10_isPerson : GoodIn wsX10_toss (wsV RX10 119 RX10 yX10_isPerson wsX10_isPerson) := goodIn_app (goodIn_of _ (by decide +kernel)) ggX10_toss_X10_isPerson
set_option maxRecDepth 20000 in
theorem ggX10_toss_X10_has : GoodIn wsX10_toss wsX10_has := goodIn_r _ [13] (by decide +kernel) (by decide +kernel)
set_option maxRecDepth 20000 in
theorem gX10_toss_X10_has : GoodIn wsX10_toss (va_wsS RX10 124 yX10_has wsX10_has) := goodIn_app (goodIn_of _ (by decide +kernel)) ggX10_toss_X10_has
set_option maxRecDepth 20000 in
theorem ggX10_toss_X10_remember : GoodIn wsX10_toss wsX10_remember := goodIn_r _ [17, 18, 19, 1, 20, 24, 25, 26, 27, 28, 29, 30, 31, 32, 33, 34, 35, 36, 37, 38, 39, 40, 41, 42, 43, 44, 45, 46, 47] (by decide +kernel) (by decide +kernel)
set_option maxRecDepth 20000 in
theorem gX10_toss_X10_remember : GoodIn wsX10_toss (wsV RX10 147 RX10 yX10_remember wsX10_remember) := goodIn_app (goodIn_of _ (by decide +kernel)) ggX10_toss_X10_remember
set_option maxRecDepth 20000 in
theorem ggX10_toss_X10_bits : GoodIn wsX10_toss wsX10_bits := goodIn_r _ [23] (by decide +kernel) (by decide +kernel)
set_option maxRecDepth 20000 in
theorem gX10_toss_X10_bits : GoodIn wsX10_toss (va_wsS RX10 128 yX10_bits wsX10_bits) := goodIn_app (goodIn_of _ (by decide +kernel)) ggX10_toss_X10_bits
set_option maxRecDepth 20000 in
theorem ggX10_sell_X10_isPerson : GoodIn wsX10_sell wsX10_isPerson := goodIn_r _ [7, 8, 9, 10, 6, 11, 33, 34, 35, 36, 37, 38, 39, 40, 41, 42, 43, 44, 45, 46, 47, 48, 49, 50, 51, 52, 53, 54, 55, 56] (by decide +kernel) (by decide +kernel)
set_option maxRecDepth 20000 in
theorem gX10_sell_X10_isPerson : GoodIn wsX10_sell (wsV RX10 119 RX10 yX10_isPerson wsX10_isPerson) := goodIn_app (goodIn_of _ (by decide +kernel)) ggX10_sell_X10_isPerson
set_option maxRecDepth 20000 in
theorem ggX10_sell_X10_others : GoodIn wsX10_sell wsX10_others := goodIn_r _ [15, 16, 17, 18, 19, 6, 20, 8, 21, 22, 23, 24, 25, 26, 33, 34, 35, 36, 37, 38, 39, 40, 41, 42, 43, 44, 45, 46, 47, 48, 49, 50, 51, 52, 53, 54, 55, 56] (by decide +kernel) (by decide +kernel)
set_option maxRecDepth 20000 in
theorem gX10_sell_X10_others : GoodIn wsX10_sell (wsV RX10 134 RX10 yX10_others wsX10_others) := goodIn_app (goodIn_of _ (by decide +kernel)) ggX10_sell_X10_others
set_option maxRecDepth 20000 in
theorem ggX10_sell_X10_has : GoodIn wsX10_sell wsX10_has := goodIn_r _ [23] (by decide +kernel) (by decide +kernel)
set_option maxRecDepth 20000 in
theorem gX10_sell_X10_has : GoodIn wsX10_sell (va_wsS RX10 124 yX10_has wsX10_has) := goodIn_app (goodIn_of _ (by decide +kernel)) ggX10_sell_X10_has
set_option maxRecDepth 20000 in
theorem ggX10_sell_X10_remember : GoodIn wsX10_sell wsX10_remember := goodIn_r _ [30, 31, 32, 1, 2, 33, 34, 35, 36, 37, 38, 39, 40, 41, 42, 43, 44, 45, 46, 47, 48, 49, 50, 51, 52, 53, 54, 55, 56] (by decide +kernel) (by decide +kernel)
set_option maxRecDepth 20000 in
theorem gX10_sell_X10_remember : GoodIn wsX10_sell (wsV RX10 147 RX10 yX10_remember wsX10_remember) := goodIn_app (goodIn_of _ (by decide +kernel)) ggX10_sell_X10_remember
set_option maxRecDepth 20000 in
theorem ggX10_price_X10_isPerson : GoodIn wsX10_price wsX10_isPerson := goodIn_r _ [6, 7, 8, 9, 5, 10, 26, 27, 28, 29, 30, 31, 32, 33, 34, 35, 36, 37, 38, 39, 40, 41, 42, 43, 44, 45, 46, 47, 48, 49] (by decide +kernel) (by decide +kernel)
set_option maxRecDepth 20000 in
theorem gX10_price_X10_isPerson : GoodIn wsX10_price (wsV RX10 119 RX10 yX10_isPerson wsX10_isPerson) := goodIn_app (goodIn_of _ (by decide +kernel)) ggX10_price_X10_isPerson
set_option maxRecDepth 20000 in
theorem ggX10_price_X10_has : GoodIn wsX10_price wsX10_has := goodIn_r _ [13] (by decide +kernel) (by decide +kernel)
set_option maxRecDepth 20000 in
theorem gX10_price_X10_has : GoodIn wsX10_price (va_wsS RX10 124 yX10_has wsX10_has) := goodIn_app (goodIn_of _ (by decide +kernel)) ggX10_price_X10_has
set_option maxRecDepth 20000 in
theorem ggX10_price_X10_others : GoodIn wsX10_price wsX10_others := goodIn_r _ [17, 18, 19, 20, 21, 5, 22, 7, 11, 12, 13, 23, 24, 25, 26, 27, 28, 29, 30, 31, 32, 33, 34, 35, 36, 37, 38, 39, 40, 41, 42, 43, 44, 45, 46, 47, 48, 49] (by decide +kernel) (by decide +kernel)
set_option maxRecDepth 20000 in
theorem gX10_price_X10_others : GoodIn wsX10_price (wsV RX10 134 RX10 yX10_others wsX10_others) := goodIn_app (goodIn_of _ (by decide +kernel)) ggX10_price_X10_others
set_option maxRecDepth 20000 in
theorem ggX10_wouldBuy_X10_has : GoodIn wsX10_wouldBuy wsX10_has := goodIn_r _ [4] (by decide +kernel) (by decide +kernel)
set_option maxRecDepth 20000 in
theorem gX10_wouldBuy_X10_has : GoodIn wsX10_wouldBuy (va_wsS RX10 124 yX10_has wsX10_has) := goodIn_app (goodIn_of _ (by decide +kernel)) ggX10_wouldBuy_X10_has
set_option maxRecDepth 20000 in
theorem ggX10_wouldBuy_X10_worthOf : GoodIn wsX10_wouldBuy wsX10_worthOf := goodIn_r _ [8, 9, 10, 11, 12, 13, 14, 15, 3, 16, 17, 18, 19, 20, 21, 22, 1, 2, 4, 23, 24, 25, 26, 27, 28, 29, 30, 31, 32, 33, 34, 35, 36, 37, 38, 39, 40, 41, 42, 43, 44, 45, 46, 47, 48, 49, 50, 51, 52] (by decide +kernel) (by decide +kernel)
set_option maxRecDepth 20000 in
theorem gX10_wouldBuy_X10_worthOf : GoodIn wsX10_wouldBuy (wsV RX10 144 RX10 yX10_worthOf wsX10_worthOf) := goodIn_app (goodIn_of _ (by decide +kernel)) ggX10_wouldBuy_X10_worthOf
set_option maxRecDepth 20000 in
theorem ggX10_wouldBuy_X10_others : GoodIn wsX10_wouldBuy wsX10_others := goodIn_r _ [16, 17, 18, 19, 20, 3, 21, 22, 1, 2, 4, 23, 24, 25, 29, 30, 31, 32, 33, 34, 35, 36, 37, 38, 39, 40, 41, 42, 43, 44, 45, 46, 47, 48, 49, 50, 51, 52] (by decide +kernel) (by decide +kernel)
set_option maxRecDepth 20000 in
theorem gX10_wouldBuy_X10_others : GoodIn wsX10_wouldBuy (wsV RX10 134 RX10 yX10_others wsX10_others) := goodIn_app (goodIn_of _ (by decide +kernel)) ggX10_wouldBuy_X10_others
set_option maxRecDepth 20000 in
theorem ggX10_wouldThrow_X10_has : GoodIn wsX10_wouldThrow wsX10_has := goodIn_r _ [4] (by decide +kernel) (by decide +kernel)
set_option maxRecDepth 20000 in
theorem gX10_wouldThrow_X10_has : GoodIn wsX10_wouldThrow (va_wsS RX10 124 yX10_has wsX10_has) := goodIn_app (goodIn_of _ (by decide +kernel)) ggX10_wouldThrow_X10_has
set_option maxRecDepth 20000 in
theorem ggX10_wouldThrow_X10_worthOf : GoodIn wsX10_wouldThrow wsX10_worthOf := goodIn_r _ [8, 9, 10, 11, 12, 13, 14, 15, 3, 16, 17, 18, 19, 20, 21, 22, 1, 2, 4, 23, 24, 25, 26, 27, 28, 29, 30, 31, 32, 33, 34, 35, 36, 37, 38, 39, 40, 41, 42, 43, 44, 45, 46, 47, 48, 49, 50, 51, 52] (by decide +kernel) (by decide +kernel)
set_option maxRecDepth 20000 in
theorem gX10_wouldThrow_X10_worthOf : GoodIn wsX10_wouldThrow (wsV RX10 144 RX10 yX10_worthOf wsX10_worthOf) := goodIn_app (goodIn_of _ (by decide +kernel)) ggX10_wouldThrow_X10_worthOf
set_option maxRecDepth 20000 in
theorem ggX10_would_X10_in : GoodIn wsX10_would wsX10_in := goodIn_r _ [6] (by decide +kernel) (by decide +kernel)
set_option maxRecDepth 20000 in
theorem gX10_would_X10_in : GoodIn wsX10_would (va_wsS RX10 57 yX10_in wsX10_in) := goodIn_app (goodIn_of _ (by decide +kernel)) ggX10_would_X10_in
set_option maxRecDepth 20000 in
theorem ggX10_would_X10_wouldBuy : GoodIn wsX10_would wsX10_wouldBuy := goodIn_r _ [10, 11, 12, 5, 13, 14, 15, 16, 17, 18, 19, 20, 21, 22, 23, 24, 25, 26, 27, 28, 29, 30, 1, 31, 32, 33, 34, 35, 36, 41, 42, 43, 44, 45, 46, 47, 48, 49, 50, 51, 52, 53, 54, 55, 56, 57, 58, 59, 60, 61, 62, 63, 64] (by decide +kernel) (by decide +kernel)
set_option maxRecDepth 20000 in
theorem gX10_would_X10_wouldBuy : GoodIn wsX10_would (wsV RX10 150 RX10 yX10_wouldBuy wsX10_wouldBuy) := goodIn_app (goodIn_of _ (by decide +kernel)) ggX10_would_X10_wouldBuy
set_option maxRecDepth 20000 in
theorem ggX10_would_X10_wouldThrow : GoodIn wsX10_would wsX10_wouldThrow := goodIn_r _ [40, 11, 12, 5, 13, 14, 15, 16, 17, 18, 19, 20, 21, 22, 23, 24, 25, 26, 27, 28, 29, 30, 1, 31, 32, 33, 34, 35, 36, 41, 42, 43, 44, 45, 46, 47, 48, 49, 50, 51, 52, 53, 54, 55, 56, 57, 58, 59, 60, 61, 62, 63, 64] (by decide +kernel) (by decide +kernel)
set_option maxRecDepth 20000 in
theorem gX10_would_X10_wouldThrow : GoodIn wsX10_would (wsV RX10 153 RX10 yX10_wouldThrow wsX10_wouldThrow) := goodIn_app (goodIn_of _ (by decide +kernel)) ggX10_would_X10_wouldThrow
set_option maxRecDepth 20000 in
theorem ggX10_round_X10_wouldBuy : GoodIn wsX10_round wsX10_wouldBuy := goodIn_r _ [6, 7, 8, 5, 9, 10, 11, 12, 13, 14, 15, 16, 17, 18, 19, 20, 21, 22, 23, 24, 25, 26, 1, 27, 28, 29, 30, 31, 32, 37, 38, 39, 40, 41, 42, 43, 44, 45, 46, 47, 48, 49, 50, 51, 52, 53, 54, 55, 56, 57, 58, 59, 60] (by decide +kernel) (by decide +kernel)
set_option maxRecDepth 20000 in
theorem gX10_round_X10_wouldBuy : GoodIn wsX10_round (wsV RX10 150 RX10 yX10_wouldBuy wsX10_wouldBuy) := goodIn_app (goodIn_of _ (by decide +kernel)) ggX10_round_X10_wouldBuy
set_option maxRecDepth 20000 in
theorem ggX10_round_X10_wouldThrow : GoodIn wsX10_round wsX10_wouldThrow := goodIn_r _ [36, 7, 8, 5, 9, 10, 11, 12, 13, 14, 15, 16, 17, 18, 19, 20, 21, 22, 23, 24, 25, 26, 1, 27, 28, 29, 30, 31, 32, 37, 38, 39, 40, 41, 42, 43, 44, 45, 46, 47, 48, 49, 50, 51, 52, 53, 54, 55, 56, 57, 58, 59, 60] (by decide +kernel) (by decide +kernel)
set_option maxRecDepth 20000 in
theorem gX10_round_X10_wouldThrow : GoodIn wsX10_round (wsV RX10 153 RX10 yX10_wouldThrow wsX10_wouldThrow) := goodIn_app (goodIn_of _ (by decide +kernel)) ggX10_round_X10_wouldThrow
set_option maxRecDepth 20000 in
theorem ggX10_tells_X10_all : GoodIn wsX10_tells wsX10_all := goodIn_r _ [6, 7, 46, 47, 48, 49, 50, 51, 52, 53, 54, 55, 56, 57, 58, 59, 60, 61, 62, 63, 64, 65, 66, 67, 68, 69] (by decide +kernel) (by decide +kernel)
set_option maxRecDepth 20000 in
theorem gX10_tells_X10_all : GoodIn wsX10_tells (wsV RX10 141 RX10 yX10_all wsX10_all) := goodIn_app (goodIn_of _ (by decide +kernel)) ggX10_tells_X10_all
set_option maxRecDepth 20000 in
theorem ggX10_tells_X10_round : GoodIn wsX10_tells wsX10_round := goodIn_r _ [11, 7, 12, 13, 14, 5, 15, 16, 17, 18, 19, 20, 21, 22, 23, 24, 25, 26, 27, 28, 29, 30, 31, 32, 33, 34, 35, 36, 37, 38, 39, 40, 41, 42, 43, 44, 45, 46, 47, 48, 49, 50, 51, 52, 53, 54, 55, 56, 57, 58, 59, 60, 61, 62, 63, 64, 65, 66, 67, 68, 69] (by decide +kernel) (by decide +kernel)
set_option maxRecDepth 20000 in
theorem gX10_tells_X10_round : GoodIn wsX10_tells (wsV RX10 156 RX10 yX10_round wsX10_round) := goodIn_app (goodIn_of _ (by decide +kernel)) ggX10_tells_X10_round
set_option maxRecDepth 20000 in
theorem ggX10_behind_X10_in : GoodIn wsX10_behind wsX10_in := goodIn_r _ [6] (by decide +kernel) (by decide +kernel)
set_option maxRecDepth 20000 in
theorem gX10_behind_X10_in : GoodIn wsX10_behind (va_wsS RX10 57 yX10_in wsX10_in) := goodIn_app (goodIn_of _ (by decide +kernel)) ggX10_behind_X10_in
set_option maxRecDepth 20000 in
theorem ggX10_behind_X10_round : GoodIn wsX10_behind wsX10_round := goodIn_r _ [10, 11, 12, 13, 14, 5, 15, 16, 17, 18, 19, 20, 21, 22, 23, 24, 25, 26, 27, 28, 29, 30, 31, 32, 33, 34, 35, 36, 37, 38, 39, 40, 41, 42, 43, 44, 45, 46, 47, 48, 49, 50, 51, 52, 53, 54, 55, 56, 57, 58, 59, 60, 61, 62, 63, 64, 65, 66, 67, 68, 69] (by decide +kernel) (by decide +kernel)
set_option maxRecDepth 20000 in
theorem gX10_behind_X10_round : GoodIn wsX10_behind (wsV RX10 156 RX10 yX10_round wsX10_round) := goodIn_app (goodIn_of _ (by decide +kernel)) ggX10_behind_X10_round
set_option maxRecDepth 20000 in
theorem ggX10_rest_X10_in : GoodIn wsX10_rest wsX10_in := goodIn_r _ [6] (by decide +kernel) (by decide +kernel)
set_option maxRecDepth 20000 in
theorem gX10_rest_X10_in : GoodIn wsX10_rest (va_wsS RX10 57 yX10_in wsX10_in) := goodIn_app (goodIn_of _ (by decide +kernel)) ggX10_rest_X10_in
set_option maxRecDepth 20000 in
theorem ggX10_rest_X10_tells : GoodIn wsX10_rest wsX10_tells := goodIn_r _ [10, 2, 11, 12, 13, 5, 14, 15, 16, 17, 18, 19, 20, 21, 22, 23, 24, 25, 26, 27, 28, 29, 30, 31, 32, 33, 34, 35, 36, 37, 38, 39, 40, 41, 42, 43, 44, 45, 46, 47, 48, 49, 50, 51, 52, 53, 54, 55, 56, 57, 58, 59, 60, 61, 62, 63, 64, 65, 66, 67, 68, 69, 70, 71, 72, 73, 74, 75, 76, 77] (by decide +kernel) (by decide +kernel)
set_option maxRecDepth 20000 in
theorem gX10_rest_X10_tells : GoodIn wsX10_rest (wsV RX10 162 RX10 yX10_tells wsX10_tells) := goodIn_app (goodIn_of _ (by decide +kernel)) ggX10_rest_X10_tells
set_option maxRecDepth 20000 in
theorem ggX10_rests_X10_tells : GoodIn wsX10_rests wsX10_tells := goodIn_r _ [6, 1, 7, 8, 9, 5, 10, 11, 12, 13, 14, 15, 16, 17, 18, 19, 20, 21, 22, 23, 24, 25, 26, 27, 28, 29, 30, 31, 32, 33, 34, 35, 36, 37, 38, 39, 40, 41, 42, 43, 44, 45, 46, 47, 48, 49, 50, 51, 52, 53, 54, 55, 56, 57, 58, 59, 60, 61, 62, 63, 64, 65, 66, 67, 68, 69, 70, 71, 72, 73] (by decide +kernel) (by decide +kernel)
set_option maxRecDepth 20000 in
theorem gX10_rests_X10_tells : GoodIn wsX10_rests (wsV RX10 162 RX10 yX10_tells wsX10_tells) := goodIn_app (goodIn_of _ (by decide +kernel)) ggX10_rests_X10_tells
set_option maxRecDepth 20000 in
theorem ggX10_rests_X10_all : GoodIn wsX10_rests wsX10_all := goodIn_r _ [10, 11, 50, 51, 52, 53, 54, 55, 56, 57, 58, 59, 60, 61, 62, 63, 64, 65, 66, 67, 68, 69, 70, 71, 72, 73] (by decide +kernel) (by decide +kernel)
set_option maxRecDepth 20000 in
theorem gX10_rests_X10_all : GoodIn wsX10_rests (wsV RX10 141 RX10 yX10_all wsX10_all) := goodIn_app (goodIn_of _ (by decide +kernel)) ggX10_rests_X10_all
set_option maxRecDepth 20000 in
theorem ggX10_tip_X10_all : GoodIn wsX10_tip wsX10_all := goodIn_r _ [7, 8, 54, 55, 56, 57, 58, 59, 60, 61, 62, 63, 64, 65, 66, 67, 68, 69, 70, 71, 72, 73, 74, 75, 76, 77] (by decide +kernel) (by decide +kernel)
set_option maxRecDepth 20000 in
theorem gX10_tip_X10_all : GoodIn wsX10_tip (wsV RX10 141 RX10 yX10_all wsX10_all) := goodIn_app (goodIn_of _ (by decide +kernel)) ggX10_tip_X10_all
set_option maxRecDepth 20000 in
theorem ggX10_tip_X10_in : GoodIn wsX10_tip wsX10_in := goodIn_r _ [11] (by decide +kernel) (by decide +kernel)
set_option maxRecDepth 20000 in
theorem gX10_tip_X10_in : GoodIn wsX10_tip (va_wsS RX10 57 yX10_in wsX10_in) := goodIn_app (goodIn_of _ (by decide +kernel)) ggX10_tip_X10_in
set_option maxRecDepth 20000 in
theorem ggX10_tip_X10_tells : GoodIn wsX10_tip wsX10_tells := goodIn_r _ [15, 2, 3, 4, 5, 6, 7, 8, 16, 17, 18, 19, 20, 21, 22, 23, 24, 25, 26, 27, 28, 29, 30, 31, 32, 33, 34, 35, 36, 37, 38, 39, 40, 41, 42, 43, 44, 45, 46, 47, 48, 49, 50, 51, 52, 53, 54, 55, 56, 57, 58, 59, 60, 61, 62, 63, 64, 65, 66, 67, 68, 69, 70, 71, 72, 73, 74, 75, 76, 77] (by decide +kernel) (by decide +kernel)
set_option maxRecDepth 20000 in
theorem gX10_tip_X10_tells : GoodIn wsX10_tip (wsV RX10 162 RX10 yX10_tells wsX10_tells) := goodIn_app (goodIn_of _ (by decide +kernel)) ggX10_tip_X10_tells
set_option maxRecDepth 20000 in
theorem ggX10_tip_X10_bits : GoodIn wsX10_tip wsX10_bits := goodIn_r _ [46] (by decide +kernel) (by decide +kernel)
set_option maxRecDepth 20000 in
theorem gX10_tip_X10_bits : GoodIn wsX10_tip (va_wsS RX10 128 yX10_bits wsX10_bits) := goodIn_app (goodIn_of _ (by decide +kernel)) ggX10_tip_X10_bits
set_option maxRecDepth 20000 in
theorem ggX10_place_X10_isPerson : GoodIn wsX10_place wsX10_isPerson := goodIn_r _ [7, 2, 8, 9, 6, 10, 41, 42, 43, 44, 45, 46, 47, 48, 49, 50, 51, 52, 53, 54, 55, 56, 57, 58, 59, 60, 61, 62, 63, 64] (by decide +kernel) (by decide +kernel)
set_option maxRecDepth 20000 in
theorem gX10_place_X10_isPerson : GoodIn wsX10_place (wsV RX10 119 RX10 yX10_isPerson wsX10_isPerson) := goodIn_app (goodIn_of _ (by decide +kernel)) ggX10_place_X10_isPerson
set_option maxRecDepth 20000 in
theorem ggX10_place_X10_in : GoodIn wsX10_place wsX10_in := goodIn_r _ [10] (by decide +kernel) (by decide +kernel)
set_option maxRecDepth 20000 in
theorem gX10_place_X10_in : GoodIn wsX10_place (va_wsS RX10 57 yX10_in wsX10_in) := goodIn_app (goodIn_of _ (by decide +kernel)) ggX10_place_X10_in
set_option maxRecDepth 20000 in
theorem ggX10_place_X10_has : GoodIn wsX10_place wsX10_has := goodIn_r _ [13] (by decide +kernel) (by decide +kernel)
set_option maxRecDepth 20000 in
theorem gX10_place_X10_has : GoodIn wsX10_place (va_wsS RX10 124 yX10_has wsX10_has) := goodIn_app (goodIn_of _ (by decide +kernel)) ggX10_place_X10_has
set_option maxRecDepth 20000 in
theorem ggX10_place_X10_bits : GoodIn wsX10_place wsX10_bits := goodIn_r _ [16] (by decide +kernel) (by decide +kernel)
set_option maxRecDepth 20000 in
theorem gX10_place_X10_bits : GoodIn wsX10_place (va_wsS RX10 128 yX10_bits wsX10_bits) := goodIn_app (goodIn_of _ (by decide +kernel)) ggX10_place_X10_bits
set_option maxRecDepth 20000 in
theorem ggX10_place_X10_others : GoodIn wsX10_place wsX10_others := goodIn_r _ [20, 21, 22, 23, 24, 6, 25, 2, 11, 12, 13, 14, 15, 16, 41, 42, 43, 44, 45, 46, 47, 48, 49, 50, 51, 52, 53, 54, 55, 56, 57, 58, 59, 60, 61, 62, 63, 64] (by decide +kernel) (by decide +kernel)
set_option maxRecDepth 20000 in
theorem gX10_place_X10_others : GoodIn wsX10_place (wsV RX10 134 RX10 yX10_others wsX10_others) := goodIn_app (goodIn_of _ (by decide +kernel)) ggX10_place_X10_others
set_option maxRecDepth 20000 in
theorem ggX10_place_X10_wouldBuy : GoodIn wsX10_place wsX10_wouldBuy := goodIn_r _ [29, 11, 12, 6, 13, 30, 31, 32, 33, 34, 35, 36, 37, 17, 18, 19, 20, 21, 22, 23, 24, 25, 2, 14, 15, 16, 38, 39, 40, 41, 42, 43, 44, 45, 46, 47, 48, 49, 50, 51, 52, 53, 54, 55, 56, 57, 58, 59, 60, 61, 62, 63, 64] (by decide +kernel) (by decide +kernel)
set_option maxRecDepth 20000 in
theorem gX10_place_X10_wouldBuy : GoodIn wsX10_place (wsV RX10 150 RX10 yX10_wouldBuy wsX10_wouldBuy) := goodIn_app (goodIn_of _ (by decide +kernel)) ggX10_place_X10_wouldBuy
set_option maxRecDepth 20000 in
theorem ggX10_place_X10_worthOf : GoodIn wsX10_place wsX10_worthOf := goodIn_r _ [33, 34, 35, 36, 37, 17, 18, 19, 6, 20, 21, 22, 23, 24, 25, 2, 11, 12, 13, 14, 15, 16, 38, 39, 40, 41, 42, 43, 44, 45, 46, 47, 48, 49, 50, 51, 52, 53, 54, 55, 56, 57, 58, 59, 60, 61, 62, 63, 64] (by decide +kernel) (by decide +kernel)
set_option maxRecDepth 20000 in
theorem gX10_place_X10_worthOf : GoodIn wsX10_place (wsV RX10 144 RX10 yX10_worthOf wsX10_worthOf) := goodIn_app (goodIn_of _ (by decide +kernel)) ggX10_place_X10_worthOf
set_option maxRecDepth 20000 in
theorem ggX10_burn_X10_isPerson : GoodIn wsX10_burn wsX10_isPerson := goodIn_r _ [6, 7, 8, 9, 5, 10, 45, 46, 47, 48, 49, 50, 51, 52, 53, 54, 55, 56, 57, 58, 59, 60, 61, 62, 63, 64, 65, 66, 67, 68] (by decide +kernel) (by decide +kernel)
set_option maxRecDepth 20000 in
theorem gX10_burn_X10_isPerson : GoodIn wsX10_burn (wsV RX10 119 RX10 yX10_isPerson wsX10_isPerson) := goodIn_app (goodIn_of _ (by decide +kernel)) ggX10_burn_X10_isPerson
set_option maxRecDepth 20000 in
theorem ggX10_burn_X10_has : GoodIn wsX10_burn wsX10_has := goodIn_r _ [13] (by decide +kernel) (by decide +kernel)
set_option maxRecDepth 20000 in
theorem gX10_burn_X10_has : GoodIn wsX10_burn (va_wsS RX10 124 yX10_has wsX10_has) := goodIn_app (goodIn_of _ (by decide +kernel)) ggX10_burn_X10_has
set_option maxRecDepth 20000 in
theorem ggX10_burn_X10_all : GoodIn wsX10_burn wsX10_all := goodIn_r _ [17, 7, 45, 46, 47, 48, 49, 50, 51, 52, 53, 54, 55, 56, 57, 58, 59, 60, 61, 62, 63, 64, 65, 66, 67, 68] (by decide +kernel) (by decide +kernel)
set_option maxRecDepth 20000 in
theorem gX10_burn_X10_all : GoodIn wsX10_burn (wsV RX10 141 RX10 yX10_all wsX10_all) := goodIn_app (goodIn_of _ (by decide +kernel)) ggX10_burn_X10_all
set_option maxRecDepth 20000 in
theorem ggX10_burn_X10_wouldBuy : GoodIn wsX10_burn wsX10_wouldBuy := goodIn_r _ [21, 11, 12, 5, 13, 22, 23, 24, 25, 26, 27, 28, 29, 30, 31, 32, 33, 34, 35, 36, 37, 38, 7, 39, 40, 41, 42, 43, 44, 45, 46, 47, 48, 49, 50, 51, 52, 53, 54, 55, 56, 57, 58, 59, 60, 61, 62, 63, 64, 65, 66, 67, 68] (by decide +kernel) (by decide +kernel)
set_option maxRecDepth 20000 in
theorem gX10_burn_X10_wouldBuy : GoodIn wsX10_burn (wsV RX10 150 RX10 yX10_wouldBuy wsX10_wouldBuy) := goodIn_app (goodIn_of _ (by decide +kernel)) ggX10_burn_X10_wouldBuy
set_option maxRecDepth 20000 in
theorem ggX10_burn_X10_bits : GoodIn wsX10_burn wsX10_bits := goodIn_r _ [41] (by decide +kernel) (by decide +kernel)
set_option maxRecDepth 20000 in
theorem gX10_burn_X10_bits : GoodIn wsX10_burn (va_wsS RX10 128 yX10_bits wsX10_bits) := goodIn_app (goodIn_of _ (by decide +kernel)) ggX10_burn_X10_bits
set_option maxRecDepth 20000 in
theorem ggX10_share_X10_has : GoodIn wsX10_share wsX10_has := goodIn_r _ [10] (by decide +kernel) (by decide +kernel)
set_option maxRecDepth 20000 in
theorem gX10_share_X10_has : GoodIn wsX10_share (va_wsS RX10 124 yX10_has wsX10_has) := goodIn_app (goodIn_of _ (by decide +kernel)) ggX10_share_X10_has
set_option maxRecDepth 20000 in
theorem ggX10_share_X10_others : GoodIn wsX10_share wsX10_others := goodIn_r _ [14, 15, 16, 17, 18, 9, 19, 1, 7, 8, 10, 20, 21, 22, 30, 31, 32, 33, 34, 35, 36, 37, 38, 39, 40, 41, 42, 43, 44, 45, 46, 47, 48, 49, 50, 51, 52, 53] (by decide +kernel) (by decide +kernel)
set_option maxRecDepth 20000 in
theorem gX10_share_X10_others : GoodIn wsX10_share (wsV RX10 134 RX10 yX10_others wsX10_others) := goodIn_app (goodIn_of _ (by decide +kernel)) ggX10_share_X10_others
set_option maxRecDepth 20000 in
theorem ggX10_share_X10_worthOf : GoodIn wsX10_share wsX10_worthOf := goodIn_r _ [26, 3, 4, 5, 6, 11, 12, 13, 9, 14, 15, 16, 17, 18, 19, 1, 7, 8, 10, 20, 21, 22, 27, 28, 29, 30, 31, 32, 33, 34, 35, 36, 37, 38, 39, 40, 41, 42, 43, 44, 45, 46, 47, 48, 49, 50, 51, 52, 53] (by decide +kernel) (by decide +kernel)
set_option maxRecDepth 20000 in
theorem gX10_share_X10_worthOf : GoodIn wsX10_share (wsV RX10 144 RX10 yX10_worthOf wsX10_worthOf) := goodIn_app (goodIn_of _ (by decide +kernel)) ggX10_share_X10_worthOf
set_option maxRecDepth 20000 in
theorem ggX10_share_X10_worthBy : GoodIn wsX10_share wsX10_worthBy := goodIn_r _ [29] (by decide +kernel) (by decide +kernel)
set_option maxRecDepth 20000 in
theorem gX10_share_X10_worthBy : GoodIn wsX10_share (va_wsS RX10 137 yX10_worthBy wsX10_worthBy) := goodIn_app (goodIn_of _ (by decide +kernel)) ggX10_share_X10_worthBy
set_option maxRecDepth 20000 in
theorem ggX10_seen_X10_isPerson : GoodIn wsX10_seen wsX10_isPerson := goodIn_r _ [10, 11, 12, 13, 9, 14, 15, 16, 17, 18, 19, 20, 21, 22, 23, 24, 25, 26, 27, 28, 29, 30, 31, 32, 33, 34, 35, 36, 37, 38] (by decide +kernel) (by decide +kernel)
set_option maxRecDepth 20000 in
theorem gX10_seen_X10_isPerson : GoodIn wsX10_seen (wsV RX10 119 RX10 yX10_isPerson wsX10_isPerson) := goodIn_app (goodIn_of _ (by decide +kernel)) ggX10_seen_X10_isPerson
set_option maxRecDepth 20000 in
theorem ggX10_seen_X10_in : GoodIn wsX10_seen wsX10_in := goodIn_r _ [14] (by decide +kernel) (by decide +kernel)
set_option maxRecDepth 20000 in
theorem gX10_seen_X10_in : GoodIn wsX10_seen (va_wsS RX10 57 yX10_in wsX10_in) := goodIn_app (goodIn_of _ (by decide +kernel)) ggX10_seen_X10_in
set_option maxRecDepth 20000 in
theorem ggX10_likes_X10_isPerson : GoodIn wsX10_likes wsX10_isPerson := goodIn_r _ [11, 12, 13, 14, 10, 15, 19, 20, 21, 22, 23, 24, 25, 26, 27, 28, 29, 30, 31, 32, 33, 34, 35, 36, 37, 38, 39, 40, 41, 42] (by decide +kernel) (by decide +kernel)
set_option maxRecDepth 20000 in
theorem gX10_likes_X10_isPerson : GoodIn wsX10_likes (wsV RX10 119 RX10 yX10_isPerson wsX10_isPerson) := goodIn_app (goodIn_of _ (by decide +kernel)) ggX10_likes_X10_isPerson
set_option maxRecDepth 20000 in
theorem ggX10_likes_X10_in : GoodIn wsX10_likes wsX10_in := goodIn_r _ [15] (by decide +kernel) (by decide +kernel)
set_option maxRecDepth 20000 in
theorem gX10_likes_X10_in : GoodIn wsX10_likes (va_wsS RX10 57 yX10_in wsX10_in) := goodIn_app (goodIn_of _ (by decide +kernel)) ggX10_likes_X10_in
set_option maxRecDepth 20000 in
theorem ggX10_likes_X10_worthBy : GoodIn wsX10_likes wsX10_worthBy := goodIn_r _ [18] (by decide +kernel) (by decide +kernel)
set_option maxRecDepth 20000 in
theorem gX10_likes_X10_worthBy : GoodIn wsX10_likes (va_wsS RX10 137 yX10_worthBy wsX10_worthBy) := goodIn_app (goodIn_of _ (by decide +kernel)) ggX10_likes_X10_worthBy
set_option maxRecDepth 20000 in
theorem ggX10_year_X10_in : GoodIn wsX10_year wsX10_in := goodIn_r _ [11] (by decide +kernel) (by decide +kernel)
set_option maxRecDepth 20000 in
theorem gX10_year_X10_in : GoodIn wsX10_year (va_wsS RX10 57 yX10_in wsX10_in) := goodIn_app (goodIn_of _ (by decide +kernel)) ggX10_year_X10_in
set_option maxRecDepth 20000 in
theorem ggX10_year_X10_round : GoodIn wsX10_year wsX10_round := goodIn_r _ [15, 16, 17, 18, 19, 10, 20, 21, 22, 23, 24, 25, 26, 27, 28, 29, 3, 30, 31, 32, 33, 34, 35, 36, 37, 38, 39, 40, 41, 42, 43, 44, 45, 46, 47, 48, 49, 50, 51, 52, 53, 54, 55, 56, 57, 58, 59, 60, 61, 62, 63, 64, 65, 66, 67, 68, 69, 70, 71, 72, 73] (by decide +kernel) (by decide +kernel)
set_option maxRecDepth 20000 in
theorem gX10_year_X10_round : GoodIn wsX10_year (wsV RX10 156 RX10 yX10_round wsX10_round) := goodIn_app (goodIn_of _ (by decide +kernel)) ggX10_year_X10_round
set_option maxRecDepth 20000 in
theorem ggX10_year_X10_bits : GoodIn wsX10_year wsX10_bits := goodIn_r _ [42] (by decide +kernel) (by decide +kernel)
set_option maxRecDepth 20000 in
theorem gX10_year_X10_bits : GoodIn wsX10_year (va_wsS RX10 128 yX10_bits wsX10_bits) := goodIn_app (goodIn_of _ (by decide +kernel)) ggX10_year_X10_bits
end
section
theorem dX0_init_0 : decode cX0_init 0 = .ok (.aload_n 0, 1) := by decide +kernel
theorem dX0_init_1 : decode cX0_init 1 = .ok (.invokespecial 3, 3) := by decide +kernel
theorem dX0_init_4 : decode cX0_init 4 = .ok (.aload_n 0, 1) := by decide +kernel
theorem dX0_init_5 : decode cX0_init 5 = .ok (.aload_n 1, 1) := by decide +kernel
theorem dX0_init_6 : decode cX0_init 6 = .ok (.putfield 9, 3) := by decide +kernel
theorem dX0_init_9 : decode cX0_init 9 = .ok (.return_, 1) := by decide +kernel
theorem dX0_bestAhead_0 : decode cX0_bestAhead 0 = .ok (.aload_n 0, 1) := by decide +kernel
theorem dX0_bestAhead_1 : decode cX0_bestAhead 1 = .ok (.getfield 9, 3) := by decide +kernel
theorem dX0_bestAhead_4 : decode cX0_bestAhead 4 = .ok (.getfield 15, 3) := by decide +kernel
theorem dX0_bestAhead_7 : decode cX0_bestAhead 7 = .ok (.getfield 21, 3) := by decide +kernel
theorem dX0_bestAhead_10 : decode cX0_bestAhead 10 = .ok (.iload_n 2, 1) := by decide +kernel
theorem dX0_bestAhead_11 : decode cX0_bestAhead 11 = .ok (.invokestatic 27, 3) := by decide +kernel
theorem dX0_bestAhead_14 : decode cX0_bestAhead 14 = .ok (.isub, 1) := by decide +kernel
theorem dX0_bestAhead_15 : decode cX0_bestAhead 15 = .ok (.iconst 1, 1) := by decide +kernel
theorem dX0_bestAhead_16 : decode cX0_bestAhead 16 = .ok (.isub, 1) := by decide +kernel
theorem dX0_bestAhead_17 : decode cX0_bestAhead 17 = .ok (.istore_n 3, 1) := by decide +kernel
theorem dX0_bestAhead_18 : decode cX0_bestAhead 18 = .ok (.iconst 0, 1) := by decide +kernel
theorem dX0_bestAhead_19 : decode cX0_bestAhead 19 = .ok (.istore 4, 2) := by decide +kernel
theorem dX0_bestAhead_21 : decode cX0_bestAhead 21 = .ok (.aload_n 0, 1) := by decide +kernel
theorem dX0_bestAhead_22 : decode cX0_bestAhead 22 = .ok (.iload_n 1, 1) := by decide +kernel
theorem dX0_bestAhead_23 : decode cX0_bestAhead 23 = .ok (.iconst 0, 1) := by decide +kernel
theorem dX0_bestAhead_24 : decode cX0_bestAhead 24 = .ok (.iload_n 2, 1) := by decide +kernel
theorem dX0_bestAhead_25 : decode cX0_bestAhead 25 = .ok (.invokevirtual 33, 3) := by decide +kernel
theorem dX0_bestAhead_28 : decode cX0_bestAhead 28 = .ok (.istore 5, 2) := by decide +kernel
theorem dX0_bestAhead_30 : decode cX0_bestAhead 30 = .ok (.iconst 1, 1) := by decide +kernel
theorem dX0_bestAhead_31 : decode cX0_bestAhead 31 = .ok (.istore 6, 2) := by decide +kernel
theorem dX0_bestAhead_33 : decode cX0_bestAhead 33 = .ok (.iload 6, 2) := by decide +kernel
theorem dX0_bestAhead_35 : decode cX0_bestAhead 35 = .ok (.iload_n 3, 1) := by decide +kernel
theorem dX0_bestAhead_36 : decode cX0_bestAhead 36 = .ok (.if_icmp .gt 34, 3) := by decide +kernel
theorem dX0_bestAhead_39 : decode cX0_bestAhead 39 = .ok (.aload_n 0, 1) := by decide +kernel
theorem dX0_bestAhead_40 : decode cX0_bestAhead 40 = .ok (.iload_n 1, 1) := by decide +kernel
theorem dX0_bestAhead_41 : decode cX0_bestAhead 41 = .ok (.iload 6, 2) := by decide +kernel
theorem dX0_bestAhead_43 : decode cX0_bestAhead 43 = .ok (.iload_n 2, 1) := by decide +kernel
theorem dX0_bestAhead_44 : decode cX0_bestAhead 44 = .ok (.invokevirtual 33, 3) := by decide +kernel
theorem dX0_bestAhead_47 : decode cX0_bestAhead 47 = .ok (.istore 7, 2) := by decide +kernel
theorem dX0_bestAhead_49 : decode cX0_bestAhead 49 = .ok (.iload 7, 2) := by decide +kernel
theorem dX0_bestAhead_51 : decode cX0_bestAhead 51 = .ok (.iload 5, 2) := by decide +kernel
theorem dX0_bestAhead_53 : decode cX0_bestAhead 53 = .ok (.if_icmp .le 11, 3) := by decide +kernel
theorem dX0_bestAhead_56 : decode cX0_bestAhead 56 = .ok (.iload 7, 2) := by decide +kernel
theorem dX0_bestAhead_58 : decode cX0_bestAhead 58 = .ok (.istore 5, 2) := by decide +kernel
theorem dX0_bestAhead_60 : decode cX0_bestAhead 60 = .ok (.iload 6, 2) := by decide +kernel
theorem dX0_bestAhead_62 : decode cX0_bestAhead 62 = .ok (.istore 4, 2) := by decide +kernel
theorem dX0_bestAhead_64 : decode cX0_bestAhead 64 = .ok (.iinc 6 1, 3) := by decide +kernel
theorem dX0_bestAhead_67 : decode cX0_bestAhead 67 = .ok (.goto (-34), 3) := by decide +kernel
theorem dX0_bestAhead_70 : decode cX0_bestAhead 70 = .ok (.iload 4, 2) := by decide +kernel
theorem dX0_bestAhead_72 : decode cX0_bestAhead 72 = .ok (.ireturn, 1) := by decide +kernel
theorem dX0_gainBehind_0 : decode cX0_gainBehind 0 = .ok (.iload_n 3, 1) := by decide +kernel
theorem dX0_gainBehind_1 : decode cX0_gainBehind 1 = .ok (.istore 4, 2) := by decide +kernel
theorem dX0_gainBehind_3 : decode cX0_gainBehind 3 = .ok (.iconst 0, 1) := by decide +kernel
theorem dX0_gainBehind_4 : decode cX0_gainBehind 4 = .ok (.istore 5, 2) := by decide +kernel
theorem dX0_gainBehind_6 : decode cX0_gainBehind 6 = .ok (.iconst 0, 1) := by decide +kernel
theorem dX0_gainBehind_7 : decode cX0_gainBehind 7 = .ok (.istore 6, 2) := by decide +kernel
theorem dX0_gainBehind_9 : decode cX0_gainBehind 9 = .ok (.iconst 0, 1) := by decide +kernel
theorem dX0_gainBehind_10 : decode cX0_gainBehind 10 = .ok (.istore 7, 2) := by decide +kernel
theorem dX0_gainBehind_12 : decode cX0_gainBehind 12 = .ok (.iload 7, 2) := by decide +kernel
theorem dX0_gainBehind_14 : decode cX0_gainBehind 14 = .ok (.aload_n 0, 1) := by decide +kernel
theorem dX0_gainBehind_15 : decode cX0_gainBehind 15 = .ok (.getfield 9, 3) := by decide +kernel
theorem dX0_gainBehind_18 : decode cX0_gainBehind 18 = .ok (.getfield 15, 3) := by decide +kernel
theorem dX0_gainBehind_21 : decode cX0_gainBehind 21 = .ok (.getfield 21, 3) := by decide +kernel
theorem dX0_gainBehind_24 : decode cX0_gainBehind 24 = .ok (.if_icmp .gt 112, 3) := by decide +kernel
theorem dX0_gainBehind_27 : decode cX0_gainBehind 27 = .ok (.iload 5, 2) := by decide +kernel
theorem dX0_gainBehind_29 : decode cX0_gainBehind 29 = .ok (.iload_n 2, 1) := by decide +kernel
theorem dX0_gainBehind_30 : decode cX0_gainBehind 30 = .ok (.if_icmp .ne 33, 3) := by decide +kernel
theorem dX0_gainBehind_33 : decode cX0_gainBehind 33 = .ok (.iload 4, 2) := by decide +kernel
theorem dX0_gainBehind_35 : decode cX0_gainBehind 35 = .ok (.iload_n 1, 1) := by decide +kernel
theorem dX0_gainBehind_36 : decode cX0_gainBehind 36 = .ok (.invokestatic 37, 3) := by decide +kernel
theorem dX0_gainBehind_39 : decode cX0_gainBehind 39 = .ok (.ifCond .ne 24, 3) := by decide +kernel
theorem dX0_gainBehind_42 : decode cX0_gainBehind 42 = .ok (.aload_n 0, 1) := by decide +kernel
theorem dX0_gainBehind_43 : decode cX0_gainBehind 43 = .ok (.getfield 9, 3) := by decide +kernel
theorem dX0_gainBehind_46 : decode cX0_gainBehind 46 = .ok (.iload_n 1, 1) := by decide +kernel
theorem dX0_gainBehind_47 : decode cX0_gainBehind 47 = .ok (.iload 4, 2) := by decide +kernel
theorem dX0_gainBehind_49 : decode cX0_gainBehind 49 = .ok (.invokevirtual 41, 3) := by decide +kernel
theorem dX0_gainBehind_52 : decode cX0_gainBehind 52 = .ok (.istore 6, 2) := by decide +kernel
theorem dX0_gainBehind_54 : decode cX0_gainBehind 54 = .ok (.iload 4, 2) := by decide +kernel
theorem dX0_gainBehind_56 : decode cX0_gainBehind 56 = .ok (.iload_n 1, 1) := by decide +kernel
theorem dX0_gainBehind_57 : decode cX0_gainBehind 57 = .ok (.invokestatic 45, 3) := by decide +kernel
theorem dX0_gainBehind_60 : decode cX0_gainBehind 60 = .ok (.ior, 1) := by decide +kernel
theorem dX0_gainBehind_61 : decode cX0_gainBehind 61 = .ok (.istore 4, 2) := by decide +kernel
theorem dX0_gainBehind_63 : decode cX0_gainBehind 63 = .ok (.iload 7, 2) := by decide +kernel
theorem dX0_gainBehind_65 : decode cX0_gainBehind 65 = .ok (.aload_n 0, 1) := by decide +kernel
theorem dX0_gainBehind_66 : decode cX0_gainBehind 66 = .ok (.getfield 9, 3) := by decide +kernel
theorem dX0_gainBehind_69 : decode cX0_gainBehind 69 = .ok (.getfield 15, 3) := by decide +kernel
theorem dX0_gainBehind_72 : decode cX0_gainBehind 72 = .ok (.getfield 21, 3) := by decide +kernel
theorem dX0_gainBehind_75 : decode cX0_gainBehind 75 = .ok (.if_icmp .ge 55, 3) := by decide +kernel
theorem dX0_gainBehind_78 : decode cX0_gainBehind 78 = .ok (.iload 7, 2) := by decide +kernel
theorem dX0_gainBehind_80 : decode cX0_gainBehind 80 = .ok (.iload_n 1, 1) := by decide +kernel
theorem dX0_gainBehind_81 : decode cX0_gainBehind 81 = .ok (.if_icmp .eq 49, 3) := by decide +kernel
theorem dX0_gainBehind_84 : decode cX0_gainBehind 84 = .ok (.iload_n 3, 1) := by decide +kernel
theorem dX0_gainBehind_85 : decode cX0_gainBehind 85 = .ok (.iload 7, 2) := by decide +kernel
theorem dX0_gainBehind_87 : decode cX0_gainBehind 87 = .ok (.invokestatic 37, 3) := by decide +kernel
theorem dX0_gainBehind_90 : decode cX0_gainBehind 90 = .ok (.ifCond .ne 40, 3) := by decide +kernel
theorem dX0_gainBehind_93 : decode cX0_gainBehind 93 = .ok (.aload_n 0, 1) := by decide +kernel
theorem dX0_gainBehind_94 : decode cX0_gainBehind 94 = .ok (.getfield 9, 3) := by decide +kernel
theorem dX0_gainBehind_97 : decode cX0_gainBehind 97 = .ok (.iload 7, 2) := by decide +kernel
theorem dX0_gainBehind_99 : decode cX0_gainBehind 99 = .ok (.iload 4, 2) := by decide +kernel
theorem dX0_gainBehind_101 : decode cX0_gainBehind 101 = .ok (.aload_n 0, 1) := by decide +kernel
theorem dX0_gainBehind_102 : decode cX0_gainBehind 102 = .ok (.getfield 9, 3) := by decide +kernel
theorem dX0_gainBehind_105 : decode cX0_gainBehind 105 = .ok (.getfield 15, 3) := by decide +kernel
theorem dX0_gainBehind_108 : decode cX0_gainBehind 108 = .ok (.getfield 48, 3) := by decide +kernel
theorem dX0_gainBehind_111 : decode cX0_gainBehind 111 = .ok (.invokevirtual 51, 3) := by decide +kernel
theorem dX0_gainBehind_114 : decode cX0_gainBehind 114 = .ok (.ifCond .eq 13, 3) := by decide +kernel
theorem dX0_gainBehind_117 : decode cX0_gainBehind 117 = .ok (.iload 4, 2) := by decide +kernel
theorem dX0_gainBehind_119 : decode cX0_gainBehind 119 = .ok (.iload 7, 2) := by decide +kernel
theorem dX0_gainBehind_121 : decode cX0_gainBehind 121 = .ok (.invokestatic 45, 3) := by decide +kernel
theorem dX0_gainBehind_124 : decode cX0_gainBehind 124 = .ok (.ior, 1) := by decide +kernel
theorem dX0_gainBehind_125 : decode cX0_gainBehind 125 = .ok (.istore 4, 2) := by decide +kernel
theorem dX0_gainBehind_127 : decode cX0_gainBehind 127 = .ok (.iinc 5 1, 3) := by decide +kernel
theorem dX0_gainBehind_130 : decode cX0_gainBehind 130 = .ok (.iinc 7 1, 3) := by decide +kernel
theorem dX0_gainBehind_133 : decode cX0_gainBehind 133 = .ok (.goto (-121), 3) := by decide +kernel
theorem dX0_gainBehind_136 : decode cX0_gainBehind 136 = .ok (.aload_n 0, 1) := by decide +kernel
theorem dX0_gainBehind_137 : decode cX0_gainBehind 137 = .ok (.getfield 9, 3) := by decide +kernel
theorem dX0_gainBehind_140 : decode cX0_gainBehind 140 = .ok (.iload_n 1, 1) := by decide +kernel
theorem dX0_gainBehind_141 : decode cX0_gainBehind 141 = .ok (.iload 4, 2) := by decide +kernel
theorem dX0_gainBehind_143 : decode cX0_gainBehind 143 = .ok (.aload_n 0, 1) := by decide +kernel
theorem dX0_gainBehind_144 : decode cX0_gainBehind 144 = .ok (.getfield 9, 3) := by decide +kernel
theorem dX0_gainBehind_147 : decode cX0_gainBehind 147 = .ok (.getfield 15, 3) := by decide +kernel
theorem dX0_gainBehind_150 : decode cX0_gainBehind 150 = .ok (.getfield 48, 3) := by decide +kernel
theorem dX0_gainBehind_153 : decode cX0_gainBehind 153 = .ok (.invokevirtual 55, 3) := by decide +kernel
theorem dX0_gainBehind_156 : decode cX0_gainBehind 156 = .ok (.iload 6, 2) := by decide +kernel
theorem dX0_gainBehind_158 : decode cX0_gainBehind 158 = .ok (.isub, 1) := by decide +kernel
theorem dX0_gainBehind_159 : decode cX0_gainBehind 159 = .ok (.ireturn, 1) := by decide +kernel
theorem dX0_leastBurnt_0 : decode cX0_leastBurnt 0 = .ok (.bipush (-4), 2) := by decide +kernel
theorem dX0_leastBurnt_2 : decode cX0_leastBurnt 2 = .ok (.istore_n 3, 1) := by decide +kernel
theorem dX0_leastBurnt_3 : decode cX0_leastBurnt 3 = .ok (.bipush 8, 2) := by decide +kernel
theorem dX0_leastBurnt_5 : decode cX0_leastBurnt 5 = .ok (.istore 4, 2) := by decide +kernel
theorem dX0_leastBurnt_7 : decode cX0_leastBurnt 7 = .ok (.iconst 0, 1) := by decide +kernel
theorem dX0_leastBurnt_8 : decode cX0_leastBurnt 8 = .ok (.istore 5, 2) := by decide +kernel
theorem dX0_leastBurnt_10 : decode cX0_leastBurnt 10 = .ok (.iload 5, 2) := by decide +kernel
theorem dX0_leastBurnt_12 : decode cX0_leastBurnt 12 = .ok (.iload_n 2, 1) := by decide +kernel
theorem dX0_leastBurnt_13 : decode cX0_leastBurnt 13 = .ok (.if_icmp .gt 78, 3) := by decide +kernel
theorem dX0_leastBurnt_16 : decode cX0_leastBurnt 16 = .ok (.iload 5, 2) := by decide +kernel
theorem dX0_leastBurnt_18 : decode cX0_leastBurnt 18 = .ok (.invokestatic 27, 3) := by decide +kernel
theorem dX0_leastBurnt_21 : decode cX0_leastBurnt 21 = .ok (.istore 6, 2) := by decide +kernel
theorem dX0_leastBurnt_23 : decode cX0_leastBurnt 23 = .ok (.iload 5, 2) := by decide +kernel
theorem dX0_leastBurnt_25 : decode cX0_leastBurnt 25 = .ok (.iload_n 2, 1) := by decide +kernel
theorem dX0_leastBurnt_26 : decode cX0_leastBurnt 26 = .ok (.iconst (-1), 1) := by decide +kernel
theorem dX0_leastBurnt_27 : decode cX0_leastBurnt 27 = .ok (.ixor, 1) := by decide +kernel
theorem dX0_leastBurnt_28 : decode cX0_leastBurnt 28 = .ok (.iand, 1) := by decide +kernel
theorem dX0_leastBurnt_29 : decode cX0_leastBurnt 29 = .ok (.ifCond .ne 7, 3) := by decide +kernel
theorem dX0_leastBurnt_32 : decode cX0_leastBurnt 32 = .ok (.iconst 1, 1) := by decide +kernel
theorem dX0_leastBurnt_33 : decode cX0_leastBurnt 33 = .ok (.goto 4, 3) := by decide +kernel
theorem dX0_leastBurnt_36 : decode cX0_leastBurnt 36 = .ok (.iconst 0, 1) := by decide +kernel
theorem dX0_leastBurnt_37 : decode cX0_leastBurnt 37 = .ok (.istore 7, 2) := by decide +kernel
theorem dX0_leastBurnt_39 : decode cX0_leastBurnt 39 = .ok (.iload 7, 2) := by decide +kernel
theorem dX0_leastBurnt_41 : decode cX0_leastBurnt 41 = .ok (.ifCond .eq 44, 3) := by decide +kernel
theorem dX0_leastBurnt_44 : decode cX0_leastBurnt 44 = .ok (.iload 6, 2) := by decide +kernel
theorem dX0_leastBurnt_46 : decode cX0_leastBurnt 46 = .ok (.iload 4, 2) := by decide +kernel
theorem dX0_leastBurnt_48 : decode cX0_leastBurnt 48 = .ok (.if_icmp .ge 37, 3) := by decide +kernel
theorem dX0_leastBurnt_51 : decode cX0_leastBurnt 51 = .ok (.aload_n 0, 1) := by decide +kernel
theorem dX0_leastBurnt_52 : decode cX0_leastBurnt 52 = .ok (.getfield 9, 3) := by decide +kernel
theorem dX0_leastBurnt_55 : decode cX0_leastBurnt 55 = .ok (.iload_n 1, 1) := by decide +kernel
theorem dX0_leastBurnt_56 : decode cX0_leastBurnt 56 = .ok (.iload_n 2, 1) := by decide +kernel
theorem dX0_leastBurnt_57 : decode cX0_leastBurnt 57 = .ok (.iload 5, 2) := by decide +kernel
theorem dX0_leastBurnt_59 : decode cX0_leastBurnt 59 = .ok (.iconst (-1), 1) := by decide +kernel
theorem dX0_leastBurnt_60 : decode cX0_leastBurnt 60 = .ok (.ixor, 1) := by decide +kernel
theorem dX0_leastBurnt_61 : decode cX0_leastBurnt 61 = .ok (.iand, 1) := by decide +kernel
theorem dX0_leastBurnt_62 : decode cX0_leastBurnt 62 = .ok (.aload_n 0, 1) := by decide +kernel
theorem dX0_leastBurnt_63 : decode cX0_leastBurnt 63 = .ok (.getfield 9, 3) := by decide +kernel
theorem dX0_leastBurnt_66 : decode cX0_leastBurnt 66 = .ok (.getfield 15, 3) := by decide +kernel
theorem dX0_leastBurnt_69 : decode cX0_leastBurnt 69 = .ok (.getfield 48, 3) := by decide +kernel
theorem dX0_leastBurnt_72 : decode cX0_leastBurnt 72 = .ok (.invokevirtual 51, 3) := by decide +kernel
theorem dX0_leastBurnt_75 : decode cX0_leastBurnt 75 = .ok (.ifCond .eq 10, 3) := by decide +kernel
theorem dX0_leastBurnt_78 : decode cX0_leastBurnt 78 = .ok (.iload 5, 2) := by decide +kernel
theorem dX0_leastBurnt_80 : decode cX0_leastBurnt 80 = .ok (.istore_n 3, 1) := by decide +kernel
theorem dX0_leastBurnt_81 : decode cX0_leastBurnt 81 = .ok (.iload 6, 2) := by decide +kernel
theorem dX0_leastBurnt_83 : decode cX0_leastBurnt 83 = .ok (.istore 4, 2) := by decide +kernel
theorem dX0_leastBurnt_85 : decode cX0_leastBurnt 85 = .ok (.iinc 5 1, 3) := by decide +kernel
theorem dX0_leastBurnt_88 : decode cX0_leastBurnt 88 = .ok (.goto (-78), 3) := by decide +kernel
theorem dX0_leastBurnt_91 : decode cX0_leastBurnt 91 = .ok (.iload_n 3, 1) := by decide +kernel
theorem dX0_leastBurnt_92 : decode cX0_leastBurnt 92 = .ok (.ireturn, 1) := by decide +kernel
theorem dX0_bestPair_0 : decode cX0_bestPair 0 = .ok (.bipush (-4), 2) := by decide +kernel
theorem dX0_bestPair_2 : decode cX0_bestPair 2 = .ok (.istore_n 2, 1) := by decide +kernel
theorem dX0_bestPair_3 : decode cX0_bestPair 3 = .ok (.iconst 0, 1) := by decide +kernel
theorem dX0_bestPair_4 : decode cX0_bestPair 4 = .ok (.istore_n 3, 1) := by decide +kernel
theorem dX0_bestPair_5 : decode cX0_bestPair 5 = .ok (.iconst 0, 1) := by decide +kernel
theorem dX0_bestPair_6 : decode cX0_bestPair 6 = .ok (.istore 4, 2) := by decide +kernel
theorem dX0_bestPair_8 : decode cX0_bestPair 8 = .ok (.iload 4, 2) := by decide +kernel
theorem dX0_bestPair_10 : decode cX0_bestPair 10 = .ok (.aload_n 0, 1) := by decide +kernel
theorem dX0_bestPair_11 : decode cX0_bestPair 11 = .ok (.getfield 9, 3) := by decide +kernel
theorem dX0_bestPair_14 : decode cX0_bestPair 14 = .ok (.getfield 15, 3) := by decide +kernel
theorem dX0_bestPair_17 : decode cX0_bestPair 17 = .ok (.getfield 21, 3) := by decide +kernel
theorem dX0_bestPair_20 : decode cX0_bestPair 20 = .ok (.if_icmp .ge 87, 3) := by decide +kernel
theorem dX0_bestPair_23 : decode cX0_bestPair 23 = .ok (.iload 4, 2) := by decide +kernel
theorem dX0_bestPair_25 : decode cX0_bestPair 25 = .ok (.iconst 1, 1) := by decide +kernel
theorem dX0_bestPair_26 : decode cX0_bestPair 26 = .ok (.iadd, 1) := by decide +kernel
theorem dX0_bestPair_27 : decode cX0_bestPair 27 = .ok (.istore 5, 2) := by decide +kernel
theorem dX0_bestPair_29 : decode cX0_bestPair 29 = .ok (.iload 5, 2) := by decide +kernel
theorem dX0_bestPair_31 : decode cX0_bestPair 31 = .ok (.aload_n 0, 1) := by decide +kernel
theorem dX0_bestPair_32 : decode cX0_bestPair 32 = .ok (.getfield 9, 3) := by decide +kernel
theorem dX0_bestPair_35 : decode cX0_bestPair 35 = .ok (.getfield 15, 3) := by decide +kernel
theorem dX0_bestPair_38 : decode cX0_bestPair 38 = .ok (.getfield 21, 3) := by decide +kernel
theorem dX0_bestPair_41 : decode cX0_bestPair 41 = .ok (.if_icmp .ge 60, 3) := by decide +kernel
theorem dX0_bestPair_44 : decode cX0_bestPair 44 = .ok (.iload_n 1, 1) := by decide +kernel
theorem dX0_bestPair_45 : decode cX0_bestPair 45 = .ok (.iload 4, 2) := by decide +kernel
theorem dX0_bestPair_47 : decode cX0_bestPair 47 = .ok (.invokestatic 37, 3) := by decide +kernel
theorem dX0_bestPair_50 : decode cX0_bestPair 50 = .ok (.ifCond .ne 12, 3) := by decide +kernel
theorem dX0_bestPair_53 : decode cX0_bestPair 53 = .ok (.iload_n 1, 1) := by decide +kernel
theorem dX0_bestPair_54 : decode cX0_bestPair 54 = .ok (.iload 5, 2) := by decide +kernel
theorem dX0_bestPair_56 : decode cX0_bestPair 56 = .ok (.invokestatic 37, 3) := by decide +kernel
theorem dX0_bestPair_59 : decode cX0_bestPair 59 = .ok (.ifCond .eq 7, 3) := by decide +kernel
theorem dX0_bestPair_62 : decode cX0_bestPair 62 = .ok (.iconst 0, 1) := by decide +kernel
theorem dX0_bestPair_63 : decode cX0_bestPair 63 = .ok (.goto 12, 3) := by decide +kernel
theorem dX0_bestPair_66 : decode cX0_bestPair 66 = .ok (.aload_n 0, 1) := by decide +kernel
theorem dX0_bestPair_67 : decode cX0_bestPair 67 = .ok (.iload 4, 2) := by decide +kernel
theorem dX0_bestPair_69 : decode cX0_bestPair 69 = .ok (.iload 5, 2) := by decide +kernel
theorem dX0_bestPair_71 : decode cX0_bestPair 71 = .ok (.iload_n 1, 1) := by decide +kernel
theorem dX0_bestPair_72 : decode cX0_bestPair 72 = .ok (.invokevirtual 58, 3) := by decide +kernel
theorem dX0_bestPair_75 : decode cX0_bestPair 75 = .ok (.istore 6, 2) := by decide +kernel
theorem dX0_bestPair_77 : decode cX0_bestPair 77 = .ok (.iload 6, 2) := by decide +kernel
theorem dX0_bestPair_79 : decode cX0_bestPair 79 = .ok (.iload_n 3, 1) := by decide +kernel
theorem dX0_bestPair_80 : decode cX0_bestPair 80 = .ok (.if_icmp .le 15, 3) := by decide +kernel
theorem dX0_bestPair_83 : decode cX0_bestPair 83 = .ok (.iload 6, 2) := by decide +kernel
theorem dX0_bestPair_85 : decode cX0_bestPair 85 = .ok (.istore_n 3, 1) := by decide +kernel
theorem dX0_bestPair_86 : decode cX0_bestPair 86 = .ok (.bipush 10, 2) := by decide +kernel
theorem dX0_bestPair_88 : decode cX0_bestPair 88 = .ok (.iload 4, 2) := by decide +kernel
theorem dX0_bestPair_90 : decode cX0_bestPair 90 = .ok (.imul, 1) := by decide +kernel
theorem dX0_bestPair_91 : decode cX0_bestPair 91 = .ok (.iload 5, 2) := by decide +kernel
theorem dX0_bestPair_93 : decode cX0_bestPair 93 = .ok (.iadd, 1) := by decide +kernel
theorem dX0_bestPair_94 : decode cX0_bestPair 94 = .ok (.istore_n 2, 1) := by decide +kernel
theorem dX0_bestPair_95 : decode cX0_bestPair 95 = .ok (.iinc 5 1, 3) := by decide +kernel
theorem dX0_bestPair_98 : decode cX0_bestPair 98 = .ok (.goto (-69), 3) := by decide +kernel
theorem dX0_bestPair_101 : decode cX0_bestPair 101 = .ok (.iinc 4 1, 3) := by decide +kernel
theorem dX0_bestPair_104 : decode cX0_bestPair 104 = .ok (.goto (-96), 3) := by decide +kernel
theorem dX0_bestPair_107 : decode cX0_bestPair 107 = .ok (.iload_n 2, 1) := by decide +kernel
theorem dX0_bestPair_108 : decode cX0_bestPair 108 = .ok (.ireturn, 1) := by decide +kernel
theorem dX0_gainTogether_0 : decode cX0_gainTogether 0 = .ok (.aload_n 0, 1) := by decide +kernel
theorem dX0_gainTogether_1 : decode cX0_gainTogether 1 = .ok (.getfield 9, 3) := by decide +kernel
theorem dX0_gainTogether_4 : decode cX0_gainTogether 4 = .ok (.getfield 15, 3) := by decide +kernel
theorem dX0_gainTogether_7 : decode cX0_gainTogether 7 = .ok (.getfield 48, 3) := by decide +kernel
theorem dX0_gainTogether_10 : decode cX0_gainTogether 10 = .ok (.istore 4, 2) := by decide +kernel
theorem dX0_gainTogether_12 : decode cX0_gainTogether 12 = .ok (.aload_n 0, 1) := by decide +kernel
theorem dX0_gainTogether_13 : decode cX0_gainTogether 13 = .ok (.getfield 9, 3) := by decide +kernel
theorem dX0_gainTogether_16 : decode cX0_gainTogether 16 = .ok (.iload_n 1, 1) := by decide +kernel
theorem dX0_gainTogether_17 : decode cX0_gainTogether 17 = .ok (.iload_n 3, 1) := by decide +kernel
theorem dX0_gainTogether_18 : decode cX0_gainTogether 18 = .ok (.invokevirtual 41, 3) := by decide +kernel
theorem dX0_gainTogether_21 : decode cX0_gainTogether 21 = .ok (.istore 5, 2) := by decide +kernel
theorem dX0_gainTogether_23 : decode cX0_gainTogether 23 = .ok (.aload_n 0, 1) := by decide +kernel
theorem dX0_gainTogether_24 : decode cX0_gainTogether 24 = .ok (.getfield 9, 3) := by decide +kernel
theorem dX0_gainTogether_27 : decode cX0_gainTogether 27 = .ok (.iload_n 1, 1) := by decide +kernel
theorem dX0_gainTogether_28 : decode cX0_gainTogether 28 = .ok (.iload 5, 2) := by decide +kernel
theorem dX0_gainTogether_30 : decode cX0_gainTogether 30 = .ok (.iload 4, 2) := by decide +kernel
theorem dX0_gainTogether_32 : decode cX0_gainTogether 32 = .ok (.invokevirtual 61, 3) := by decide +kernel
theorem dX0_gainTogether_35 : decode cX0_gainTogether 35 = .ok (.aload_n 0, 1) := by decide +kernel
theorem dX0_gainTogether_36 : decode cX0_gainTogether 36 = .ok (.getfield 9, 3) := by decide +kernel
theorem dX0_gainTogether_39 : decode cX0_gainTogether 39 = .ok (.iload_n 2, 1) := by decide +kernel
theorem dX0_gainTogether_40 : decode cX0_gainTogether 40 = .ok (.iload 5, 2) := by decide +kernel
theorem dX0_gainTogether_42 : decode cX0_gainTogether 42 = .ok (.iload 4, 2) := by decide +kernel
theorem dX0_gainTogether_44 : decode cX0_gainTogether 44 = .ok (.invokevirtual 61, 3) := by decide +kernel
theorem dX0_gainTogether_47 : decode cX0_gainTogether 47 = .ok (.iadd, 1) := by decide +kernel
theorem dX0_gainTogether_48 : decode cX0_gainTogether 48 = .ok (.iload 5, 2) := by decide +kernel
theorem dX0_gainTogether_50 : decode cX0_gainTogether 50 = .ok (.isub, 1) := by decide +kernel
theorem dX0_gainTogether_51 : decode cX0_gainTogether 51 = .ok (.ireturn, 1) := by decide +kernel
theorem dX1_init_0 : decode cX1_init 0 = .ok (.aload_n 0, 1) := by decide +kernel
theorem dX1_init_1 : decode cX1_init 1 = .ok (.invokespecial 3, 3) := by decide +kernel
theorem dX1_init_4 : decode cX1_init 4 = .ok (.aload_n 0, 1) := by decide +kernel
theorem dX1_init_5 : decode cX1_init 5 = .ok (.sipush 128, 3) := by decide +kernel
theorem dX1_init_8 : decode cX1_init 8 = .ok (.newarray .int, 2) := by decide +kernel
theorem dX1_init_10 : decode cX1_init 10 = .ok (.putfield 9, 3) := by decide +kernel
theorem dX1_init_13 : decode cX1_init 13 = .ok (.aload_n 0, 1) := by decide +kernel
theorem dX1_init_14 : decode cX1_init 14 = .ok (.aload_n 1, 1) := by decide +kernel
theorem dX1_init_15 : decode cX1_init 15 = .ok (.putfield 15, 3) := by decide +kernel
theorem dX1_init_18 : decode cX1_init 18 = .ok (.return_, 1) := by decide +kernel
theorem dX1_ownersBehind_0 : decode cX1_ownersBehind 0 = .ok (.aload_n 0, 1) := by decide +kernel
theorem dX1_ownersBehind_1 : decode cX1_ownersBehind 1 = .ok (.getfield 15, 3) := by decide +kernel
theorem dX1_ownersBehind_4 : decode cX1_ownersBehind 4 = .ok (.getfield 19, 3) := by decide +kernel
theorem dX1_ownersBehind_7 : decode cX1_ownersBehind 7 = .ok (.getfield 25, 3) := by decide +kernel
theorem dX1_ownersBehind_10 : decode cX1_ownersBehind 10 = .ok (.istore 4, 2) := by decide +kernel
theorem dX1_ownersBehind_12 : decode cX1_ownersBehind 12 = .ok (.iload_n 1, 1) := by decide +kernel
theorem dX1_ownersBehind_13 : decode cX1_ownersBehind 13 = .ok (.istore 5, 2) := by decide +kernel
theorem dX1_ownersBehind_15 : decode cX1_ownersBehind 15 = .ok (.iconst 0, 1) := by decide +kernel
theorem dX1_ownersBehind_16 : decode cX1_ownersBehind 16 = .ok (.istore 6, 2) := by decide +kernel
theorem dX1_ownersBehind_18 : decode cX1_ownersBehind 18 = .ok (.iload 6, 2) := by decide +kernel
theorem dX1_ownersBehind_20 : decode cX1_ownersBehind 20 = .ok (.iload_n 2, 1) := by decide +kernel
theorem dX1_ownersBehind_21 : decode cX1_ownersBehind 21 = .ok (.if_icmp .ge 23, 3) := by decide +kernel
theorem dX1_ownersBehind_24 : decode cX1_ownersBehind 24 = .ok (.aload_n 0, 1) := by decide +kernel
theorem dX1_ownersBehind_25 : decode cX1_ownersBehind 25 = .ok (.getfield 15, 3) := by decide +kernel
theorem dX1_ownersBehind_28 : decode cX1_ownersBehind 28 = .ok (.iload 5, 2) := by decide +kernel
theorem dX1_ownersBehind_30 : decode cX1_ownersBehind 30 = .ok (.iload_n 3, 1) := by decide +kernel
theorem dX1_ownersBehind_31 : decode cX1_ownersBehind 31 = .ok (.iload 4, 2) := by decide +kernel
theorem dX1_ownersBehind_33 : decode cX1_ownersBehind 33 = .ok (.invokevirtual 31, 3) := by decide +kernel
theorem dX1_ownersBehind_36 : decode cX1_ownersBehind 36 = .ok (.istore 5, 2) := by decide +kernel
theorem dX1_ownersBehind_38 : decode cX1_ownersBehind 38 = .ok (.iinc 6 1, 3) := by decide +kernel
theorem dX1_ownersBehind_41 : decode cX1_ownersBehind 41 = .ok (.goto (-23), 3) := by decide +kernel
theorem dX1_ownersBehind_44 : decode cX1_ownersBehind 44 = .ok (.iload 5, 2) := by decide +kernel
theorem dX1_ownersBehind_46 : decode cX1_ownersBehind 46 = .ok (.ireturn, 1) := by decide +kernel
theorem dX1_roundsToRest_0 : decode cX1_roundsToRest 0 = .ok (.aload_n 0, 1) := by decide +kernel
theorem dX1_roundsToRest_1 : decode cX1_roundsToRest 1 = .ok (.getfield 15, 3) := by decide +kernel
theorem dX1_roundsToRest_4 : decode cX1_roundsToRest 4 = .ok (.getfield 19, 3) := by decide +kernel
theorem dX1_roundsToRest_7 : decode cX1_roundsToRest 7 = .ok (.getfield 25, 3) := by decide +kernel
theorem dX1_roundsToRest_10 : decode cX1_roundsToRest 10 = .ok (.istore_n 3, 1) := by decide +kernel
theorem dX1_roundsToRest_11 : decode cX1_roundsToRest 11 = .ok (.iload_n 1, 1) := by decide +kernel
theorem dX1_roundsToRest_12 : decode cX1_roundsToRest 12 = .ok (.istore 4, 2) := by decide +kernel
theorem dX1_roundsToRest_14 : decode cX1_roundsToRest 14 = .ok (.iconst 0, 1) := by decide +kernel
theorem dX1_roundsToRest_15 : decode cX1_roundsToRest 15 = .ok (.istore 5, 2) := by decide +kernel
theorem dX1_roundsToRest_17 : decode cX1_roundsToRest 17 = .ok (.iload 5, 2) := by decide +kernel
theorem dX1_roundsToRest_19 : decode cX1_roundsToRest 19 = .ok (.sipush 128, 3) := by decide +kernel
theorem dX1_roundsToRest_22 : decode cX1_roundsToRest 22 = .ok (.if_icmp .ge 36, 3) := by decide +kernel
theorem dX1_roundsToRest_25 : decode cX1_roundsToRest 25 = .ok (.aload_n 0, 1) := by decide +kernel
theorem dX1_roundsToRest_26 : decode cX1_roundsToRest 26 = .ok (.getfield 15, 3) := by decide +kernel
theorem dX1_roundsToRest_29 : decode cX1_roundsToRest 29 = .ok (.iload 4, 2) := by decide +kernel
theorem dX1_roundsToRest_31 : decode cX1_roundsToRest 31 = .ok (.iload_n 2, 1) := by decide +kernel
theorem dX1_roundsToRest_32 : decode cX1_roundsToRest 32 = .ok (.iload_n 3, 1) := by decide +kernel
theorem dX1_roundsToRest_33 : decode cX1_roundsToRest 33 = .ok (.invokevirtual 31, 3) := by decide +kernel
theorem dX1_roundsToRest_36 : decode cX1_roundsToRest 36 = .ok (.istore 6, 2) := by decide +kernel
theorem dX1_roundsToRest_38 : decode cX1_roundsToRest 38 = .ok (.iload 6, 2) := by decide +kernel
theorem dX1_roundsToRest_40 : decode cX1_roundsToRest 40 = .ok (.iload 4, 2) := by decide +kernel
theorem dX1_roundsToRest_42 : decode cX1_roundsToRest 42 = .ok (.if_icmp .ne 6, 3) := by decide +kernel
theorem dX1_roundsToRest_45 : decode cX1_roundsToRest 45 = .ok (.iload 5, 2) := by decide +kernel
theorem dX1_roundsToRest_47 : decode cX1_roundsToRest 47 = .ok (.ireturn, 1) := by decide +kernel
theorem dX1_roundsToRest_48 : decode cX1_roundsToRest 48 = .ok (.iload 6, 2) := by decide +kernel
theorem dX1_roundsToRest_50 : decode cX1_roundsToRest 50 = .ok (.istore 4, 2) := by decide +kernel
theorem dX1_roundsToRest_52 : decode cX1_roundsToRest 52 = .ok (.iinc 5 1, 3) := by decide +kernel
theorem dX1_roundsToRest_55 : decode cX1_roundsToRest 55 = .ok (.goto (-38), 3) := by decide +kernel
theorem dX1_roundsToRest_58 : decode cX1_roundsToRest 58 = .ok (.bipush (-4), 2) := by decide +kernel
theorem dX1_roundsToRest_60 : decode cX1_roundsToRest 60 = .ok (.ireturn, 1) := by decide +kernel
theorem dX1_roundsOfSwing_0 : decode cX1_roundsOfSwing 0 = .ok (.aload_n 0, 1) := by decide +kernel
theorem dX1_roundsOfSwing_1 : decode cX1_roundsOfSwing 1 = .ok (.getfield 15, 3) := by decide +kernel
theorem dX1_roundsOfSwing_4 : decode cX1_roundsOfSwing 4 = .ok (.getfield 19, 3) := by decide +kernel
theorem dX1_roundsOfSwing_7 : decode cX1_roundsOfSwing 7 = .ok (.getfield 25, 3) := by decide +kernel
theorem dX1_roundsOfSwing_10 : decode cX1_roundsOfSwing 10 = .ok (.istore_n 3, 1) := by decide +kernel
theorem dX1_roundsOfSwing_11 : decode cX1_roundsOfSwing 11 = .ok (.aload_n 0, 1) := by decide +kernel
theorem dX1_roundsOfSwing_12 : decode cX1_roundsOfSwing 12 = .ok (.iload_n 1, 1) := by decide +kernel
theorem dX1_roundsOfSwing_13 : decode cX1_roundsOfSwing 13 = .ok (.sipush 128, 3) := by decide +kernel
theorem dX1_roundsOfSwing_16 : decode cX1_roundsOfSwing 16 = .ok (.iload_n 2, 1) := by decide +kernel
theorem dX1_roundsOfSwing_17 : decode cX1_roundsOfSwing 17 = .ok (.invokevirtual 35, 3) := by decide +kernel
theorem dX1_roundsOfSwing_20 : decode cX1_roundsOfSwing 20 = .ok (.istore 4, 2) := by decide +kernel
theorem dX1_roundsOfSwing_22 : decode cX1_roundsOfSwing 22 = .ok (.aload_n 0, 1) := by decide +kernel
theorem dX1_roundsOfSwing_23 : decode cX1_roundsOfSwing 23 = .ok (.getfield 15, 3) := by decide +kernel
theorem dX1_roundsOfSwing_26 : decode cX1_roundsOfSwing 26 = .ok (.iload 4, 2) := by decide +kernel
theorem dX1_roundsOfSwing_28 : decode cX1_roundsOfSwing 28 = .ok (.iload_n 2, 1) := by decide +kernel
theorem dX1_roundsOfSwing_29 : decode cX1_roundsOfSwing 29 = .ok (.iload_n 3, 1) := by decide +kernel
theorem dX1_roundsOfSwing_30 : decode cX1_roundsOfSwing 30 = .ok (.invokevirtual 31, 3) := by decide +kernel
theorem dX1_roundsOfSwing_33 : decode cX1_roundsOfSwing 33 = .ok (.istore 5, 2) := by decide +kernel
theorem dX1_roundsOfSwing_35 : decode cX1_roundsOfSwing 35 = .ok (.iconst 1, 1) := by decide +kernel
theorem dX1_roundsOfSwing_36 : decode cX1_roundsOfSwing 36 = .ok (.istore 6, 2) := by decide +kernel
theorem dX1_roundsOfSwing_38 : decode cX1_roundsOfSwing 38 = .ok (.iload 5, 2) := by decide +kernel
theorem dX1_roundsOfSwing_40 : decode cX1_roundsOfSwing 40 = .ok (.iload 4, 2) := by decide +kernel
theorem dX1_roundsOfSwing_42 : decode cX1_roundsOfSwing 42 = .ok (.if_icmp .eq 30, 3) := by decide +kernel
theorem dX1_roundsOfSwing_45 : decode cX1_roundsOfSwing 45 = .ok (.iload 6, 2) := by decide +kernel
theorem dX1_roundsOfSwing_47 : decode cX1_roundsOfSwing 47 = .ok (.sipush 128, 3) := by decide +kernel
theorem dX1_roundsOfSwing_50 : decode cX1_roundsOfSwing 50 = .ok (.if_icmp .ge 22, 3) := by decide +kernel
theorem dX1_roundsOfSwing_53 : decode cX1_roundsOfSwing 53 = .ok (.aload_n 0, 1) := by decide +kernel
theorem dX1_roundsOfSwing_54 : decode cX1_roundsOfSwing 54 = .ok (.getfield 15, 3) := by decide +kernel
theorem dX1_roundsOfSwing_57 : decode cX1_roundsOfSwing 57 = .ok (.iload 5, 2) := by decide +kernel
theorem dX1_roundsOfSwing_59 : decode cX1_roundsOfSwing 59 = .ok (.iload_n 2, 1) := by decide +kernel
theorem dX1_roundsOfSwing_60 : decode cX1_roundsOfSwing 60 = .ok (.iload_n 3, 1) := by decide +kernel
theorem dX1_roundsOfSwing_61 : decode cX1_roundsOfSwing 61 = .ok (.invokevirtual 31, 3) := by decide +kernel
theorem dX1_roundsOfSwing_64 : decode cX1_roundsOfSwing 64 = .ok (.istore 5, 2) := by decide +kernel
theorem dX1_roundsOfSwing_66 : decode cX1_roundsOfSwing 66 = .ok (.iinc 6 1, 3) := by decide +kernel
theorem dX1_roundsOfSwing_69 : decode cX1_roundsOfSwing 69 = .ok (.goto (-31), 3) := by decide +kernel
theorem dX1_roundsOfSwing_72 : decode cX1_roundsOfSwing 72 = .ok (.iload 6, 2) := by decide +kernel
theorem dX1_roundsOfSwing_74 : decode cX1_roundsOfSwing 74 = .ok (.ireturn, 1) := by decide +kernel
theorem dX1_restsWith_0 : decode cX1_restsWith 0 = .ok (.aload_n 0, 1) := by decide +kernel
theorem dX1_restsWith_1 : decode cX1_restsWith 1 = .ok (.getfield 15, 3) := by decide +kernel
theorem dX1_restsWith_4 : decode cX1_restsWith 4 = .ok (.iload_n 1, 1) := by decide +kernel
theorem dX1_restsWith_5 : decode cX1_restsWith 5 = .ok (.aload_n 0, 1) := by decide +kernel
theorem dX1_restsWith_6 : decode cX1_restsWith 6 = .ok (.getfield 15, 3) := by decide +kernel
theorem dX1_restsWith_9 : decode cX1_restsWith 9 = .ok (.getfield 19, 3) := by decide +kernel
theorem dX1_restsWith_12 : decode cX1_restsWith 12 = .ok (.getfield 25, 3) := by decide +kernel
theorem dX1_restsWith_15 : decode cX1_restsWith 15 = .ok (.invokevirtual 39, 3) := by decide +kernel
theorem dX1_restsWith_18 : decode cX1_restsWith 18 = .ok (.ifCond .ne 7, 3) := by decide +kernel
theorem dX1_restsWith_21 : decode cX1_restsWith 21 = .ok (.iconst 1, 1) := by decide +kernel
theorem dX1_restsWith_22 : decode cX1_restsWith 22 = .ok (.goto 4, 3) := by decide +kernel
theorem dX1_restsWith_25 : decode cX1_restsWith 25 = .ok (.iconst 0, 1) := by decide +kernel
theorem dX1_restsWith_26 : decode cX1_restsWith 26 = .ok (.ireturn, 1) := by decide +kernel
theorem dX1_countRests_0 : decode cX1_countRests 0 = .ok (.iconst 0, 1) := by decide +kernel
theorem dX1_countRests_1 : decode cX1_countRests 1 = .ok (.istore_n 1, 1) := by decide +kernel
theorem dX1_countRests_2 : decode cX1_countRests 2 = .ok (.iconst 0, 1) := by decide +kernel
theorem dX1_countRests_3 : decode cX1_countRests 3 = .ok (.istore_n 2, 1) := by decide +kernel
theorem dX1_countRests_4 : decode cX1_countRests 4 = .ok (.iload_n 2, 1) := by decide +kernel
theorem dX1_countRests_5 : decode cX1_countRests 5 = .ok (.aload_n 0, 1) := by decide +kernel
theorem dX1_countRests_6 : decode cX1_countRests 6 = .ok (.getfield 15, 3) := by decide +kernel
theorem dX1_countRests_9 : decode cX1_countRests 9 = .ok (.getfield 19, 3) := by decide +kernel
theorem dX1_countRests_12 : decode cX1_countRests 12 = .ok (.invokevirtual 43, 3) := by decide +kernel
theorem dX1_countRests_15 : decode cX1_countRests 15 = .ok (.if_icmp .ge 20, 3) := by decide +kernel
theorem dX1_countRests_18 : decode cX1_countRests 18 = .ok (.aload_n 0, 1) := by decide +kernel
theorem dX1_countRests_19 : decode cX1_countRests 19 = .ok (.iload_n 2, 1) := by decide +kernel
theorem dX1_countRests_20 : decode cX1_countRests 20 = .ok (.invokevirtual 47, 3) := by decide +kernel
theorem dX1_countRests_23 : decode cX1_countRests 23 = .ok (.ifCond .eq 6, 3) := by decide +kernel
theorem dX1_countRests_26 : decode cX1_countRests 26 = .ok (.iinc 1 1, 3) := by decide +kernel
theorem dX1_countRests_29 : decode cX1_countRests 29 = .ok (.iinc 2 1, 3) := by decide +kernel
theorem dX1_countRests_32 : decode cX1_countRests 32 = .ok (.goto (-28), 3) := by decide +kernel
theorem dX1_countRests_35 : decode cX1_countRests 35 = .ok (.iload_n 1, 1) := by decide +kernel
theorem dX1_countRests_36 : decode cX1_countRests 36 = .ok (.ireturn, 1) := by decide +kernel
theorem dX1_restAt_0 : decode cX1_restAt 0 = .ok (.iconst 0, 1) := by decide +kernel
theorem dX1_restAt_1 : decode cX1_restAt 1 = .ok (.istore_n 2, 1) := by decide +kernel
theorem dX1_restAt_2 : decode cX1_restAt 2 = .ok (.iconst 0, 1) := by decide +kernel
theorem dX1_restAt_3 : decode cX1_restAt 3 = .ok (.istore_n 3, 1) := by decide +kernel
theorem dX1_restAt_4 : decode cX1_restAt 4 = .ok (.iload_n 3, 1) := by decide +kernel
theorem dX1_restAt_5 : decode cX1_restAt 5 = .ok (.aload_n 0, 1) := by decide +kernel
theorem dX1_restAt_6 : decode cX1_restAt 6 = .ok (.getfield 15, 3) := by decide +kernel
theorem dX1_restAt_9 : decode cX1_restAt 9 = .ok (.getfield 19, 3) := by decide +kernel
theorem dX1_restAt_12 : decode cX1_restAt 12 = .ok (.invokevirtual 43, 3) := by decide +kernel
theorem dX1_restAt_15 : decode cX1_restAt 15 = .ok (.if_icmp .ge 27, 3) := by decide +kernel
theorem dX1_restAt_18 : decode cX1_restAt 18 = .ok (.aload_n 0, 1) := by decide +kernel
theorem dX1_restAt_19 : decode cX1_restAt 19 = .ok (.iload_n 3, 1) := by decide +kernel
theorem dX1_restAt_20 : decode cX1_restAt 20 = .ok (.invokevirtual 47, 3) := by decide +kernel
theorem dX1_restAt_23 : decode cX1_restAt 23 = .ok (.ifCond .eq 13, 3) := by decide +kernel
theorem dX1_restAt_26 : decode cX1_restAt 26 = .ok (.iload_n 2, 1) := by decide +kernel
theorem dX1_restAt_27 : decode cX1_restAt 27 = .ok (.iload_n 1, 1) := by decide +kernel
theorem dX1_restAt_28 : decode cX1_restAt 28 = .ok (.if_icmp .ne 5, 3) := by decide +kernel
theorem dX1_restAt_31 : decode cX1_restAt 31 = .ok (.iload_n 3, 1) := by decide +kernel
theorem dX1_restAt_32 : decode cX1_restAt 32 = .ok (.ireturn, 1) := by decide +kernel
theorem dX1_restAt_33 : decode cX1_restAt 33 = .ok (.iinc 2 1, 3) := by decide +kernel
theorem dX1_restAt_36 : decode cX1_restAt 36 = .ok (.iinc 3 1, 3) := by decide +kernel
theorem dX1_restAt_39 : decode cX1_restAt 39 = .ok (.goto (-35), 3) := by decide +kernel
theorem dX1_restAt_42 : decode cX1_restAt 42 = .ok (.bipush (-4), 2) := by decide +kernel
theorem dX1_restAt_44 : decode cX1_restAt 44 = .ok (.ireturn, 1) := by decide +kernel
theorem dX1_leastPush_0 : decode cX1_leastPush 0 = .ok (.aload_n 0, 1) := by decide +kernel
theorem dX1_leastPush_1 : decode cX1_leastPush 1 = .ok (.iload_n 2, 1) := by decide +kernel
theorem dX1_leastPush_2 : decode cX1_leastPush 2 = .ok (.invokevirtual 47, 3) := by decide +kernel
theorem dX1_leastPush_5 : decode cX1_leastPush 5 = .ok (.ifCond .ne 6, 3) := by decide +kernel
theorem dX1_leastPush_8 : decode cX1_leastPush 8 = .ok (.bipush (-4), 2) := by decide +kernel
theorem dX1_leastPush_10 : decode cX1_leastPush 10 = .ok (.ireturn, 1) := by decide +kernel
theorem dX1_leastPush_11 : decode cX1_leastPush 11 = .ok (.aload_n 0, 1) := by decide +kernel
theorem dX1_leastPush_12 : decode cX1_leastPush 12 = .ok (.iload_n 3, 1) := by decide +kernel
theorem dX1_leastPush_13 : decode cX1_leastPush 13 = .ok (.invokevirtual 51, 3) := by decide +kernel
theorem dX1_leastPush_16 : decode cX1_leastPush 16 = .ok (.bipush (-4), 2) := by decide +kernel
theorem dX1_leastPush_18 : decode cX1_leastPush 18 = .ok (.istore 4, 2) := by decide +kernel
theorem dX1_leastPush_20 : decode cX1_leastPush 20 = .ok (.bipush 8, 2) := by decide +kernel
theorem dX1_leastPush_22 : decode cX1_leastPush 22 = .ok (.istore 5, 2) := by decide +kernel
theorem dX1_leastPush_24 : decode cX1_leastPush 24 = .ok (.iconst 0, 1) := by decide +kernel
theorem dX1_leastPush_25 : decode cX1_leastPush 25 = .ok (.istore 6, 2) := by decide +kernel
theorem dX1_leastPush_27 : decode cX1_leastPush 27 = .ok (.iload 6, 2) := by decide +kernel
theorem dX1_leastPush_29 : decode cX1_leastPush 29 = .ok (.aload_n 0, 1) := by decide +kernel
theorem dX1_leastPush_30 : decode cX1_leastPush 30 = .ok (.getfield 15, 3) := by decide +kernel
theorem dX1_leastPush_33 : decode cX1_leastPush 33 = .ok (.getfield 19, 3) := by decide +kernel
theorem dX1_leastPush_36 : decode cX1_leastPush 36 = .ok (.invokevirtual 43, 3) := by decide +kernel
theorem dX1_leastPush_39 : decode cX1_leastPush 39 = .ok (.if_icmp .ge 46, 3) := by decide +kernel
theorem dX1_leastPush_42 : decode cX1_leastPush 42 = .ok (.iload 6, 2) := by decide +kernel
theorem dX1_leastPush_44 : decode cX1_leastPush 44 = .ok (.invokestatic 55, 3) := by decide +kernel
theorem dX1_leastPush_47 : decode cX1_leastPush 47 = .ok (.istore 7, 2) := by decide +kernel
theorem dX1_leastPush_49 : decode cX1_leastPush 49 = .ok (.iload 7, 2) := by decide +kernel
theorem dX1_leastPush_51 : decode cX1_leastPush 51 = .ok (.iload 5, 2) := by decide +kernel
theorem dX1_leastPush_53 : decode cX1_leastPush 53 = .ok (.if_icmp .ge 26, 3) := by decide +kernel
theorem dX1_leastPush_56 : decode cX1_leastPush 56 = .ok (.aload_n 0, 1) := by decide +kernel
theorem dX1_leastPush_57 : decode cX1_leastPush 57 = .ok (.getfield 9, 3) := by decide +kernel
theorem dX1_leastPush_60 : decode cX1_leastPush 60 = .ok (.iload_n 1, 1) := by decide +kernel
theorem dX1_leastPush_61 : decode cX1_leastPush 61 = .ok (.iload 6, 2) := by decide +kernel
theorem dX1_leastPush_63 : decode cX1_leastPush 63 = .ok (.ixor, 1) := by decide +kernel
theorem dX1_leastPush_64 : decode cX1_leastPush 64 = .ok (.invokestatic 61, 3) := by decide +kernel
theorem dX1_leastPush_67 : decode cX1_leastPush 67 = .ok (.iload_n 2, 1) := by decide +kernel
theorem dX1_leastPush_68 : decode cX1_leastPush 68 = .ok (.if_icmp .ne 11, 3) := by decide +kernel
theorem dX1_leastPush_71 : decode cX1_leastPush 71 = .ok (.iload 6, 2) := by decide +kernel
theorem dX1_leastPush_73 : decode cX1_leastPush 73 = .ok (.istore 4, 2) := by decide +kernel
theorem dX1_leastPush_75 : decode cX1_leastPush 75 = .ok (.iload 7, 2) := by decide +kernel
theorem dX1_leastPush_77 : decode cX1_leastPush 77 = .ok (.istore 5, 2) := by decide +kernel
theorem dX1_leastPush_79 : decode cX1_leastPush 79 = .ok (.iinc 6 1, 3) := by decide +kernel
theorem dX1_leastPush_82 : decode cX1_leastPush 82 = .ok (.goto (-55), 3) := by decide +kernel
theorem dX1_leastPush_85 : decode cX1_leastPush 85 = .ok (.iload 4, 2) := by decide +kernel
theorem dX1_leastPush_87 : decode cX1_leastPush 87 = .ok (.ireturn, 1) := by decide +kernel
theorem dX1_lookFarAhead_0 : decode cX1_lookFarAhead 0 = .ok (.aload_n 0, 1) := by decide +kernel
theorem dX1_lookFarAhead_1 : decode cX1_lookFarAhead 1 = .ok (.getfield 15, 3) := by decide +kernel
theorem dX1_lookFarAhead_4 : decode cX1_lookFarAhead 4 = .ok (.getfield 19, 3) := by decide +kernel
theorem dX1_lookFarAhead_7 : decode cX1_lookFarAhead 7 = .ok (.getfield 25, 3) := by decide +kernel
theorem dX1_lookFarAhead_10 : decode cX1_lookFarAhead 10 = .ok (.istore_n 2, 1) := by decide +kernel
theorem dX1_lookFarAhead_11 : decode cX1_lookFarAhead 11 = .ok (.iconst 0, 1) := by decide +kernel
theorem dX1_lookFarAhead_12 : decode cX1_lookFarAhead 12 = .ok (.istore_n 3, 1) := by decide +kernel
theorem dX1_lookFarAhead_13 : decode cX1_lookFarAhead 13 = .ok (.iload_n 3, 1) := by decide +kernel
theorem dX1_lookFarAhead_14 : decode cX1_lookFarAhead 14 = .ok (.aload_n 0, 1) := by decide +kernel
theorem dX1_lookFarAhead_15 : decode cX1_lookFarAhead 15 = .ok (.getfield 15, 3) := by decide +kernel
theorem dX1_lookFarAhead_18 : decode cX1_lookFarAhead 18 = .ok (.getfield 19, 3) := by decide +kernel
theorem dX1_lookFarAhead_21 : decode cX1_lookFarAhead 21 = .ok (.invokevirtual 43, 3) := by decide +kernel
theorem dX1_lookFarAhead_24 : decode cX1_lookFarAhead 24 = .ok (.if_icmp .ge 27, 3) := by decide +kernel
theorem dX1_lookFarAhead_27 : decode cX1_lookFarAhead 27 = .ok (.aload_n 0, 1) := by decide +kernel
theorem dX1_lookFarAhead_28 : decode cX1_lookFarAhead 28 = .ok (.getfield 9, 3) := by decide +kernel
theorem dX1_lookFarAhead_31 : decode cX1_lookFarAhead 31 = .ok (.iload_n 3, 1) := by decide +kernel
theorem dX1_lookFarAhead_32 : decode cX1_lookFarAhead 32 = .ok (.aload_n 0, 1) := by decide +kernel
theorem dX1_lookFarAhead_33 : decode cX1_lookFarAhead 33 = .ok (.getfield 15, 3) := by decide +kernel
theorem dX1_lookFarAhead_36 : decode cX1_lookFarAhead 36 = .ok (.iload_n 3, 1) := by decide +kernel
theorem dX1_lookFarAhead_37 : decode cX1_lookFarAhead 37 = .ok (.iload_n 1, 1) := by decide +kernel
theorem dX1_lookFarAhead_38 : decode cX1_lookFarAhead 38 = .ok (.iload_n 2, 1) := by decide +kernel
theorem dX1_lookFarAhead_39 : decode cX1_lookFarAhead 39 = .ok (.invokevirtual 31, 3) := by decide +kernel
theorem dX1_lookFarAhead_42 : decode cX1_lookFarAhead 42 = .ok (.invokestatic 65, 3) := by decide +kernel
theorem dX1_lookFarAhead_45 : decode cX1_lookFarAhead 45 = .ok (.iinc 3 1, 3) := by decide +kernel
theorem dX1_lookFarAhead_48 : decode cX1_lookFarAhead 48 = .ok (.goto (-35), 3) := by decide +kernel
theorem dX1_lookFarAhead_51 : decode cX1_lookFarAhead 51 = .ok (.iconst 0, 1) := by decide +kernel
theorem dX1_lookFarAhead_52 : decode cX1_lookFarAhead 52 = .ok (.istore_n 3, 1) := by decide +kernel
theorem dX1_lookFarAhead_53 : decode cX1_lookFarAhead 53 = .ok (.iload_n 3, 1) := by decide +kernel
theorem dX1_lookFarAhead_54 : decode cX1_lookFarAhead 54 = .ok (.bipush 7, 2) := by decide +kernel
theorem dX1_lookFarAhead_56 : decode cX1_lookFarAhead 56 = .ok (.if_icmp .ge 58, 3) := by decide +kernel
theorem dX1_lookFarAhead_59 : decode cX1_lookFarAhead 59 = .ok (.iconst 0, 1) := by decide +kernel
theorem dX1_lookFarAhead_60 : decode cX1_lookFarAhead 60 = .ok (.istore 4, 2) := by decide +kernel
theorem dX1_lookFarAhead_62 : decode cX1_lookFarAhead 62 = .ok (.iload 4, 2) := by decide +kernel
theorem dX1_lookFarAhead_64 : decode cX1_lookFarAhead 64 = .ok (.aload_n 0, 1) := by decide +kernel
theorem dX1_lookFarAhead_65 : decode cX1_lookFarAhead 65 = .ok (.getfield 15, 3) := by decide +kernel
theorem dX1_lookFarAhead_68 : decode cX1_lookFarAhead 68 = .ok (.getfield 19, 3) := by decide +kernel
theorem dX1_lookFarAhead_71 : decode cX1_lookFarAhead 71 = .ok (.invokevirtual 43, 3) := by decide +kernel
theorem dX1_lookFarAhead_74 : decode cX1_lookFarAhead 74 = .ok (.if_icmp .ge 34, 3) := by decide +kernel
theorem dX1_lookFarAhead_77 : decode cX1_lookFarAhead 77 = .ok (.aload_n 0, 1) := by decide +kernel
theorem dX1_lookFarAhead_78 : decode cX1_lookFarAhead 78 = .ok (.getfield 9, 3) := by decide +kernel
theorem dX1_lookFarAhead_81 : decode cX1_lookFarAhead 81 = .ok (.iload 4, 2) := by decide +kernel
theorem dX1_lookFarAhead_83 : decode cX1_lookFarAhead 83 = .ok (.aload_n 0, 1) := by decide +kernel
theorem dX1_lookFarAhead_84 : decode cX1_lookFarAhead 84 = .ok (.getfield 9, 3) := by decide +kernel
theorem dX1_lookFarAhead_87 : decode cX1_lookFarAhead 87 = .ok (.aload_n 0, 1) := by decide +kernel
theorem dX1_lookFarAhead_88 : decode cX1_lookFarAhead 88 = .ok (.getfield 9, 3) := by decide +kernel
theorem dX1_lookFarAhead_91 : decode cX1_lookFarAhead 91 = .ok (.iload 4, 2) := by decide +kernel
theorem dX1_lookFarAhead_93 : decode cX1_lookFarAhead 93 = .ok (.invokestatic 61, 3) := by decide +kernel
theorem dX1_lookFarAhead_96 : decode cX1_lookFarAhead 96 = .ok (.invokestatic 61, 3) := by decide +kernel
theorem dX1_lookFarAhead_99 : decode cX1_lookFarAhead 99 = .ok (.invokestatic 65, 3) := by decide +kernel
theorem dX1_lookFarAhead_102 : decode cX1_lookFarAhead 102 = .ok (.iinc 4 1, 3) := by decide +kernel
theorem dX1_lookFarAhead_105 : decode cX1_lookFarAhead 105 = .ok (.goto (-43), 3) := by decide +kernel
theorem dX1_lookFarAhead_108 : decode cX1_lookFarAhead 108 = .ok (.iinc 3 1, 3) := by decide +kernel
theorem dX1_lookFarAhead_111 : decode cX1_lookFarAhead 111 = .ok (.goto (-58), 3) := by decide +kernel
theorem dX1_lookFarAhead_114 : decode cX1_lookFarAhead 114 = .ok (.return_, 1) := by decide +kernel
theorem dX1_ownersBehindYear_0 : decode cX1_ownersBehindYear 0 = .ok (.iload_n 1, 1) := by decide +kernel
theorem dX1_ownersBehindYear_1 : decode cX1_ownersBehindYear 1 = .ok (.istore 4, 2) := by decide +kernel
theorem dX1_ownersBehindYear_3 : decode cX1_ownersBehindYear 3 = .ok (.iconst 0, 1) := by decide +kernel
theorem dX1_ownersBehindYear_4 : decode cX1_ownersBehindYear 4 = .ok (.istore 5, 2) := by decide +kernel
theorem dX1_ownersBehindYear_6 : decode cX1_ownersBehindYear 6 = .ok (.iload 5, 2) := by decide +kernel
theorem dX1_ownersBehindYear_8 : decode cX1_ownersBehindYear 8 = .ok (.iload_n 3, 1) := by decide +kernel
theorem dX1_ownersBehindYear_9 : decode cX1_ownersBehindYear 9 = .ok (.if_icmp .ge 27, 3) := by decide +kernel
theorem dX1_ownersBehindYear_12 : decode cX1_ownersBehindYear 12 = .ok (.aload_n 0, 1) := by decide +kernel
theorem dX1_ownersBehindYear_13 : decode cX1_ownersBehindYear 13 = .ok (.getfield 15, 3) := by decide +kernel
theorem dX1_ownersBehindYear_16 : decode cX1_ownersBehindYear 16 = .ok (.iload 4, 2) := by decide +kernel
theorem dX1_ownersBehindYear_18 : decode cX1_ownersBehindYear 18 = .ok (.iconst 1, 1) := by decide +kernel
theorem dX1_ownersBehindYear_19 : decode cX1_ownersBehindYear 19 = .ok (.iload_n 2, 1) := by decide +kernel
theorem dX1_ownersBehindYear_20 : decode cX1_ownersBehindYear 20 = .ok (.iload 5, 2) := by decide +kernel
theorem dX1_ownersBehindYear_22 : decode cX1_ownersBehindYear 22 = .ok (.invokestatic 69, 3) := by decide +kernel
theorem dX1_ownersBehindYear_25 : decode cX1_ownersBehindYear 25 = .ok (.invokevirtual 31, 3) := by decide +kernel
theorem dX1_ownersBehindYear_28 : decode cX1_ownersBehindYear 28 = .ok (.istore 4, 2) := by decide +kernel
theorem dX1_ownersBehindYear_30 : decode cX1_ownersBehindYear 30 = .ok (.iinc 5 1, 3) := by decide +kernel
theorem dX1_ownersBehindYear_33 : decode cX1_ownersBehindYear 33 = .ok (.goto (-27), 3) := by decide +kernel
theorem dX1_ownersBehindYear_36 : decode cX1_ownersBehindYear 36 = .ok (.iload 4, 2) := by decide +kernel
theorem dX1_ownersBehindYear_38 : decode cX1_ownersBehindYear 38 = .ok (.invokestatic 55, 3) := by decide +kernel
theorem dX1_ownersBehindYear_41 : decode cX1_ownersBehindYear 41 = .ok (.ireturn, 1) := by decide +kernel
theorem dX1_bestDay_0 : decode cX1_bestDay 0 = .ok (.iload_n 1, 1) := by decide +kernel
theorem dX1_bestDay_1 : decode cX1_bestDay 1 = .ok (.istore 4, 2) := by decide +kernel
theorem dX1_bestDay_3 : decode cX1_bestDay 3 = .ok (.iconst 0, 1) := by decide +kernel
theorem dX1_bestDay_4 : decode cX1_bestDay 4 = .ok (.istore 5, 2) := by decide +kernel
theorem dX1_bestDay_6 : decode cX1_bestDay 6 = .ok (.iconst (-1), 1) := by decide +kernel
theorem dX1_bestDay_7 : decode cX1_bestDay 7 = .ok (.istore 6, 2) := by decide +kernel
theorem dX1_bestDay_9 : decode cX1_bestDay 9 = .ok (.iconst 0, 1) := by decide +kernel
theorem dX1_bestDay_10 : decode cX1_bestDay 10 = .ok (.istore 7, 2) := by decide +kernel
theorem dX1_bestDay_12 : decode cX1_bestDay 12 = .ok (.iload 7, 2) := by decide +kernel
theorem dX1_bestDay_14 : decode cX1_bestDay 14 = .ok (.iload_n 3, 1) := by decide +kernel
theorem dX1_bestDay_15 : decode cX1_bestDay 15 = .ok (.if_icmp .ge 49, 3) := by decide +kernel
theorem dX1_bestDay_18 : decode cX1_bestDay 18 = .ok (.aload_n 0, 1) := by decide +kernel
theorem dX1_bestDay_19 : decode cX1_bestDay 19 = .ok (.getfield 15, 3) := by decide +kernel
theorem dX1_bestDay_22 : decode cX1_bestDay 22 = .ok (.iload 4, 2) := by decide +kernel
theorem dX1_bestDay_24 : decode cX1_bestDay 24 = .ok (.iconst 1, 1) := by decide +kernel
theorem dX1_bestDay_25 : decode cX1_bestDay 25 = .ok (.iload_n 2, 1) := by decide +kernel
theorem dX1_bestDay_26 : decode cX1_bestDay 26 = .ok (.iload 7, 2) := by decide +kernel
theorem dX1_bestDay_28 : decode cX1_bestDay 28 = .ok (.invokestatic 69, 3) := by decide +kernel
theorem dX1_bestDay_31 : decode cX1_bestDay 31 = .ok (.invokevirtual 31, 3) := by decide +kernel
theorem dX1_bestDay_34 : decode cX1_bestDay 34 = .ok (.istore 4, 2) := by decide +kernel
theorem dX1_bestDay_36 : decode cX1_bestDay 36 = .ok (.iload 4, 2) := by decide +kernel
theorem dX1_bestDay_38 : decode cX1_bestDay 38 = .ok (.invokestatic 55, 3) := by decide +kernel
theorem dX1_bestDay_41 : decode cX1_bestDay 41 = .ok (.istore 8, 2) := by decide +kernel
theorem dX1_bestDay_43 : decode cX1_bestDay 43 = .ok (.iload 8, 2) := by decide +kernel
theorem dX1_bestDay_45 : decode cX1_bestDay 45 = .ok (.iload 6, 2) := by decide +kernel
theorem dX1_bestDay_47 : decode cX1_bestDay 47 = .ok (.if_icmp .le 11, 3) := by decide +kernel
theorem dX1_bestDay_50 : decode cX1_bestDay 50 = .ok (.iload 8, 2) := by decide +kernel
theorem dX1_bestDay_52 : decode cX1_bestDay 52 = .ok (.istore 6, 2) := by decide +kernel
theorem dX1_bestDay_54 : decode cX1_bestDay 54 = .ok (.iload 7, 2) := by decide +kernel
theorem dX1_bestDay_56 : decode cX1_bestDay 56 = .ok (.istore 5, 2) := by decide +kernel
theorem dX1_bestDay_58 : decode cX1_bestDay 58 = .ok (.iinc 7 1, 3) := by decide +kernel
theorem dX1_bestDay_61 : decode cX1_bestDay 61 = .ok (.goto (-49), 3) := by decide +kernel
theorem dX1_bestDay_64 : decode cX1_bestDay 64 = .ok (.iload 5, 2) := by decide +kernel
theorem dX1_bestDay_66 : decode cX1_bestDay 66 = .ok (.ireturn, 1) := by decide +kernel
theorem dX1_seasonOn_0 : decode cX1_seasonOn 0 = .ok (.ldc2_w 72, 3) := by decide +kernel
theorem dX1_seasonOn_3 : decode cX1_seasonOn 3 = .ok (.iload_n 0, 1) := by decide +kernel
theorem dX1_seasonOn_4 : decode cX1_seasonOn 4 = .ok (.i2l, 1) := by decide +kernel
theorem dX1_seasonOn_5 : decode cX1_seasonOn 5 = .ok (.lmul, 1) := by decide +kernel
theorem dX1_seasonOn_6 : decode cX1_seasonOn 6 = .ok (.ldc2_w 74, 3) := by decide +kernel
theorem dX1_seasonOn_9 : decode cX1_seasonOn 9 = .ok (.iload_n 1, 1) := by decide +kernel
theorem dX1_seasonOn_10 : decode cX1_seasonOn 10 = .ok (.i2l, 1) := by decide +kernel
theorem dX1_seasonOn_11 : decode cX1_seasonOn 11 = .ok (.lmul, 1) := by decide +kernel
theorem dX1_seasonOn_12 : decode cX1_seasonOn 12 = .ok (.ladd, 1) := by decide +kernel
theorem dX1_seasonOn_13 : decode cX1_seasonOn 13 = .ok (.lconst 1, 1) := by decide +kernel
theorem dX1_seasonOn_14 : decode cX1_seasonOn 14 = .ok (.ladd, 1) := by decide +kernel
theorem dX1_seasonOn_15 : decode cX1_seasonOn 15 = .ok (.lstore_n 2, 1) := by decide +kernel
theorem dX1_seasonOn_16 : decode cX1_seasonOn 16 = .ok (.lload_n 2, 1) := by decide +kernel
theorem dX1_seasonOn_17 : decode cX1_seasonOn 17 = .ok (.lload_n 2, 1) := by decide +kernel
theorem dX1_seasonOn_18 : decode cX1_seasonOn 18 = .ok (.lmul, 1) := by decide +kernel
theorem dX1_seasonOn_19 : decode cX1_seasonOn 19 = .ok (.ldc2_w 76, 3) := by decide +kernel
theorem dX1_seasonOn_22 : decode cX1_seasonOn 22 = .ok (.lrem, 1) := by decide +kernel
theorem dX1_seasonOn_23 : decode cX1_seasonOn 23 = .ok (.ldc2_w 78, 3) := by decide +kernel
theorem dX1_seasonOn_26 : decode cX1_seasonOn 26 = .ok (.lrem, 1) := by decide +kernel
theorem dX1_seasonOn_27 : decode cX1_seasonOn 27 = .ok (.l2i, 1) := by decide +kernel
theorem dX1_seasonOn_28 : decode cX1_seasonOn 28 = .ok (.ireturn, 1) := by decide +kernel
theorem dX2_init_0 : decode cX2_init 0 = .ok (.aload_n 0, 1) := by decide +kernel
theorem dX2_init_1 : decode cX2_init 1 = .ok (.invokespecial 3, 3) := by decide +kernel
theorem dX2_init_4 : decode cX2_init 4 = .ok (.aload_n 0, 1) := by decide +kernel
theorem dX2_init_5 : decode cX2_init 5 = .ok (.bipush 7, 2) := by decide +kernel
theorem dX2_init_7 : decode cX2_init 7 = .ok (.newarray .int, 2) := by decide +kernel
theorem dX2_init_9 : decode cX2_init 9 = .ok (.putfield 9, 3) := by decide +kernel
theorem dX2_init_12 : decode cX2_init 12 = .ok (.aload_n 0, 1) := by decide +kernel
theorem dX2_init_13 : decode cX2_init 13 = .ok (.iconst 0, 1) := by decide +kernel
theorem dX2_init_14 : decode cX2_init 14 = .ok (.putfield 15, 3) := by decide +kernel
theorem dX2_init_17 : decode cX2_init 17 = .ok (.return_, 1) := by decide +kernel
theorem dX2_begin_0 : decode cX2_begin 0 = .ok (.aload_n 0, 1) := by decide +kernel
theorem dX2_begin_1 : decode cX2_begin 1 = .ok (.aload_n 1, 1) := by decide +kernel
theorem dX2_begin_2 : decode cX2_begin 2 = .ok (.getfield 19, 3) := by decide +kernel
theorem dX2_begin_5 : decode cX2_begin 5 = .ok (.putfield 15, 3) := by decide +kernel
theorem dX2_begin_8 : decode cX2_begin 8 = .ok (.iconst 0, 1) := by decide +kernel
theorem dX2_begin_9 : decode cX2_begin 9 = .ok (.istore_n 2, 1) := by decide +kernel
theorem dX2_begin_10 : decode cX2_begin 10 = .ok (.iload_n 2, 1) := by decide +kernel
theorem dX2_begin_11 : decode cX2_begin 11 = .ok (.bipush 7, 2) := by decide +kernel
theorem dX2_begin_13 : decode cX2_begin 13 = .ok (.if_icmp .ge 23, 3) := by decide +kernel
theorem dX2_begin_16 : decode cX2_begin 16 = .ok (.aload_n 0, 1) := by decide +kernel
theorem dX2_begin_17 : decode cX2_begin 17 = .ok (.getfield 9, 3) := by decide +kernel
theorem dX2_begin_20 : decode cX2_begin 20 = .ok (.iload_n 2, 1) := by decide +kernel
theorem dX2_begin_21 : decode cX2_begin 21 = .ok (.aload_n 1, 1) := by decide +kernel
theorem dX2_begin_22 : decode cX2_begin 22 = .ok (.iload_n 2, 1) := by decide +kernel
theorem dX2_begin_23 : decode cX2_begin 23 = .ok (.iconst 4, 1) := by decide +kernel
theorem dX2_begin_24 : decode cX2_begin 24 = .ok (.invokevirtual 24, 3) := by decide +kernel
theorem dX2_begin_27 : decode cX2_begin 27 = .ok (.invokestatic 28, 3) := by decide +kernel
theorem dX2_begin_30 : decode cX2_begin 30 = .ok (.iinc 2 1, 3) := by decide +kernel
theorem dX2_begin_33 : decode cX2_begin 33 = .ok (.goto (-23), 3) := by decide +kernel
theorem dX2_begin_36 : decode cX2_begin 36 = .ok (.return_, 1) := by decide +kernel
theorem dX2_owns_0 : decode cX2_owns 0 = .ok (.aload_n 0, 1) := by decide +kernel
theorem dX2_owns_1 : decode cX2_owns 1 = .ok (.getfield 15, 3) := by decide +kernel
theorem dX2_owns_4 : decode cX2_owns 4 = .ok (.iload_n 1, 1) := by decide +kernel
theorem dX2_owns_5 : decode cX2_owns 5 = .ok (.invokestatic 32, 3) := by decide +kernel
theorem dX2_owns_8 : decode cX2_owns 8 = .ok (.ireturn, 1) := by decide +kernel
theorem dX2_penniesOf_0 : decode cX2_penniesOf 0 = .ok (.aload_n 0, 1) := by decide +kernel
theorem dX2_penniesOf_1 : decode cX2_penniesOf 1 = .ok (.getfield 9, 3) := by decide +kernel
theorem dX2_penniesOf_4 : decode cX2_penniesOf 4 = .ok (.iload_n 1, 1) := by decide +kernel
theorem dX2_penniesOf_5 : decode cX2_penniesOf 5 = .ok (.invokestatic 36, 3) := by decide +kernel
theorem dX2_penniesOf_8 : decode cX2_penniesOf 8 = .ok (.ireturn, 1) := by decide +kernel
theorem dX2_earn_0 : decode cX2_earn 0 = .ok (.aload_n 0, 1) := by decide +kernel
theorem dX2_earn_1 : decode cX2_earn 1 = .ok (.getfield 9, 3) := by decide +kernel
theorem dX2_earn_4 : decode cX2_earn 4 = .ok (.iload_n 1, 1) := by decide +kernel
theorem dX2_earn_5 : decode cX2_earn 5 = .ok (.aload_n 0, 1) := by decide +kernel
theorem dX2_earn_6 : decode cX2_earn 6 = .ok (.getfield 9, 3) := by decide +kernel
theorem dX2_earn_9 : decode cX2_earn 9 = .ok (.iload_n 1, 1) := by decide +kernel
theorem dX2_earn_10 : decode cX2_earn 10 = .ok (.invokestatic 36, 3) := by decide +kernel
theorem dX2_earn_13 : decode cX2_earn 13 = .ok (.iload_n 2, 1) := by decide +kernel
theorem dX2_earn_14 : decode cX2_earn 14 = .ok (.iadd, 1) := by decide +kernel
theorem dX2_earn_15 : decode cX2_earn 15 = .ok (.invokestatic 28, 3) := by decide +kernel
theorem dX2_earn_18 : decode cX2_earn 18 = .ok (.return_, 1) := by decide +kernel
theorem dX3_init_0 : decode cX3_init 0 = .ok (.aload_n 0, 1) := by decide +kernel
theorem dX3_init_1 : decode cX3_init 1 = .ok (.invokespecial 3, 3) := by decide +kernel
theorem dX3_init_4 : decode cX3_init 4 = .ok (.aload_n 0, 1) := by decide +kernel
theorem dX3_init_5 : decode cX3_init 5 = .ok (.new 9, 3) := by decide +kernel
theorem dX3_init_8 : decode cX3_init 8 = .ok (.dup, 1) := by decide +kernel
theorem dX3_init_9 : decode cX3_init 9 = .ok (.invokespecial 11, 3) := by decide +kernel
theorem dX3_init_12 : decode cX3_init 12 = .ok (.putfield 12, 3) := by decide +kernel
theorem dX3_init_15 : decode cX3_init 15 = .ok (.aload_n 0, 1) := by decide +kernel
theorem dX3_init_16 : decode cX3_init 16 = .ok (.sipush 128, 3) := by decide +kernel
theorem dX3_init_19 : decode cX3_init 19 = .ok (.newarray .int, 2) := by decide +kernel
theorem dX3_init_21 : decode cX3_init 21 = .ok (.putfield 18, 3) := by decide +kernel
theorem dX3_init_24 : decode cX3_init 24 = .ok (.return_, 1) := by decide +kernel
theorem dX3_open_0 : decode cX3_open 0 = .ok (.aload_n 0, 1) := by decide +kernel
theorem dX3_open_1 : decode cX3_open 1 = .ok (.getfield 12, 3) := by decide +kernel
theorem dX3_open_4 : decode cX3_open 4 = .ok (.aload_n 1, 1) := by decide +kernel
theorem dX3_open_5 : decode cX3_open 5 = .ok (.invokevirtual 22, 3) := by decide +kernel
theorem dX3_open_8 : decode cX3_open 8 = .ok (.iconst 0, 1) := by decide +kernel
theorem dX3_open_9 : decode cX3_open 9 = .ok (.istore_n 2, 1) := by decide +kernel
theorem dX3_open_10 : decode cX3_open 10 = .ok (.iload_n 2, 1) := by decide +kernel
theorem dX3_open_11 : decode cX3_open 11 = .ok (.aload_n 0, 1) := by decide +kernel
theorem dX3_open_12 : decode cX3_open 12 = .ok (.getfield 12, 3) := by decide +kernel
theorem dX3_open_15 : decode cX3_open 15 = .ok (.getfield 26, 3) := by decide +kernel
theorem dX3_open_18 : decode cX3_open 18 = .ok (.if_icmp .ge 65, 3) := by decide +kernel
theorem dX3_open_21 : decode cX3_open 21 = .ok (.aload_n 0, 1) := by decide +kernel
theorem dX3_open_22 : decode cX3_open 22 = .ok (.getfield 12, 3) := by decide +kernel
theorem dX3_open_25 : decode cX3_open 25 = .ok (.iload_n 2, 1) := by decide +kernel
theorem dX3_open_26 : decode cX3_open 26 = .ok (.iconst 3, 1) := by decide +kernel
theorem dX3_open_27 : decode cX3_open 27 = .ok (.invokevirtual 30, 3) := by decide +kernel
theorem dX3_open_30 : decode cX3_open 30 = .ok (.invokestatic 34, 3) := by decide +kernel
theorem dX3_open_33 : decode cX3_open 33 = .ok (.istore_n 3, 1) := by decide +kernel
theorem dX3_open_34 : decode cX3_open 34 = .ok (.iconst 0, 1) := by decide +kernel
theorem dX3_open_35 : decode cX3_open 35 = .ok (.istore 4, 2) := by decide +kernel
theorem dX3_open_37 : decode cX3_open 37 = .ok (.iload 4, 2) := by decide +kernel
theorem dX3_open_39 : decode cX3_open 39 = .ok (.iload_n 2, 1) := by decide +kernel
theorem dX3_open_40 : decode cX3_open 40 = .ok (.invokestatic 34, 3) := by decide +kernel
theorem dX3_open_43 : decode cX3_open 43 = .ok (.if_icmp .ge 34, 3) := by decide +kernel
theorem dX3_open_46 : decode cX3_open 46 = .ok (.aload_n 0, 1) := by decide +kernel
theorem dX3_open_47 : decode cX3_open 47 = .ok (.getfield 18, 3) := by decide +kernel
theorem dX3_open_50 : decode cX3_open 50 = .ok (.iload 4, 2) := by decide +kernel
theorem dX3_open_52 : decode cX3_open 52 = .ok (.iload_n 2, 1) := by decide +kernel
theorem dX3_open_53 : decode cX3_open 53 = .ok (.invokestatic 34, 3) := by decide +kernel
theorem dX3_open_56 : decode cX3_open 56 = .ok (.ior, 1) := by decide +kernel
theorem dX3_open_57 : decode cX3_open 57 = .ok (.aload_n 0, 1) := by decide +kernel
theorem dX3_open_58 : decode cX3_open 58 = .ok (.getfield 18, 3) := by decide +kernel
theorem dX3_open_61 : decode cX3_open 61 = .ok (.iload 4, 2) := by decide +kernel
theorem dX3_open_63 : decode cX3_open 63 = .ok (.invokestatic 38, 3) := by decide +kernel
theorem dX3_open_66 : decode cX3_open 66 = .ok (.iload_n 3, 1) := by decide +kernel
theorem dX3_open_67 : decode cX3_open 67 = .ok (.ior, 1) := by decide +kernel
theorem dX3_open_68 : decode cX3_open 68 = .ok (.invokestatic 42, 3) := by decide +kernel
theorem dX3_open_71 : decode cX3_open 71 = .ok (.iinc 4 1, 3) := by decide +kernel
theorem dX3_open_74 : decode cX3_open 74 = .ok (.goto (-37), 3) := by decide +kernel
theorem dX3_open_77 : decode cX3_open 77 = .ok (.iinc 2 1, 3) := by decide +kernel
theorem dX3_open_80 : decode cX3_open 80 = .ok (.goto (-70), 3) := by decide +kernel
theorem dX3_open_83 : decode cX3_open 83 = .ok (.return_, 1) := by decide +kernel
theorem dX3_othersOf_0 : decode cX3_othersOf 0 = .ok (.aload_n 0, 1) := by decide +kernel
theorem dX3_othersOf_1 : decode cX3_othersOf 1 = .ok (.getfield 18, 3) := by decide +kernel
theorem dX3_othersOf_4 : decode cX3_othersOf 4 = .ok (.iload_n 2, 1) := by decide +kernel
theorem dX3_othersOf_5 : decode cX3_othersOf 5 = .ok (.invokestatic 38, 3) := by decide +kernel
theorem dX3_othersOf_8 : decode cX3_othersOf 8 = .ok (.aload_n 0, 1) := by decide +kernel
theorem dX3_othersOf_9 : decode cX3_othersOf 9 = .ok (.getfield 12, 3) := by decide +kernel
theorem dX3_othersOf_12 : decode cX3_othersOf 12 = .ok (.iload_n 1, 1) := by decide +kernel
theorem dX3_othersOf_13 : decode cX3_othersOf 13 = .ok (.iconst 3, 1) := by decide +kernel
theorem dX3_othersOf_14 : decode cX3_othersOf 14 = .ok (.invokevirtual 30, 3) := by decide +kernel
theorem dX3_othersOf_17 : decode cX3_othersOf 17 = .ok (.invokestatic 34, 3) := by decide +kernel
theorem dX3_othersOf_20 : decode cX3_othersOf 20 = .ok (.iconst (-1), 1) := by decide +kernel
theorem dX3_othersOf_21 : decode cX3_othersOf 21 = .ok (.ixor, 1) := by decide +kernel
theorem dX3_othersOf_22 : decode cX3_othersOf 22 = .ok (.iand, 1) := by decide +kernel
theorem dX3_othersOf_23 : decode cX3_othersOf 23 = .ok (.invokestatic 46, 3) := by decide +kernel
theorem dX3_othersOf_26 : decode cX3_othersOf 26 = .ok (.ireturn, 1) := by decide +kernel
theorem dX3_valueTo_0 : decode cX3_valueTo 0 = .ok (.aload_n 0, 1) := by decide +kernel
theorem dX3_valueTo_1 : decode cX3_valueTo 1 = .ok (.iload_n 1, 1) := by decide +kernel
theorem dX3_valueTo_2 : decode cX3_valueTo 2 = .ok (.aload_n 0, 1) := by decide +kernel
theorem dX3_valueTo_3 : decode cX3_valueTo 3 = .ok (.iload_n 1, 1) := by decide +kernel
theorem dX3_valueTo_4 : decode cX3_valueTo 4 = .ok (.iload_n 2, 1) := by decide +kernel
theorem dX3_valueTo_5 : decode cX3_valueTo 5 = .ok (.invokevirtual 51, 3) := by decide +kernel
theorem dX3_valueTo_8 : decode cX3_valueTo 8 = .ok (.iload_n 3, 1) := by decide +kernel
theorem dX3_valueTo_9 : decode cX3_valueTo 9 = .ok (.invokevirtual 54, 3) := by decide +kernel
theorem dX3_valueTo_12 : decode cX3_valueTo 12 = .ok (.ireturn, 1) := by decide +kernel
theorem dX3_valueWith_0 : decode cX3_valueWith 0 = .ok (.aload_n 0, 1) := by decide +kernel
theorem dX3_valueWith_1 : decode cX3_valueWith 1 = .ok (.getfield 12, 3) := by decide +kernel
theorem dX3_valueWith_4 : decode cX3_valueWith 4 = .ok (.iload_n 1, 1) := by decide +kernel
theorem dX3_valueWith_5 : decode cX3_valueWith 5 = .ok (.iconst 0, 1) := by decide +kernel
theorem dX3_valueWith_6 : decode cX3_valueWith 6 = .ok (.invokevirtual 30, 3) := by decide +kernel
theorem dX3_valueWith_9 : decode cX3_valueWith 9 = .ok (.aload_n 0, 1) := by decide +kernel
theorem dX3_valueWith_10 : decode cX3_valueWith 10 = .ok (.getfield 12, 3) := by decide +kernel
theorem dX3_valueWith_13 : decode cX3_valueWith 13 = .ok (.iload_n 1, 1) := by decide +kernel
theorem dX3_valueWith_14 : decode cX3_valueWith 14 = .ok (.iconst 1, 1) := by decide +kernel
theorem dX3_valueWith_15 : decode cX3_valueWith 15 = .ok (.invokevirtual 30, 3) := by decide +kernel
theorem dX3_valueWith_18 : decode cX3_valueWith 18 = .ok (.aload_n 0, 1) := by decide +kernel
theorem dX3_valueWith_19 : decode cX3_valueWith 19 = .ok (.getfield 12, 3) := by decide +kernel
theorem dX3_valueWith_22 : decode cX3_valueWith 22 = .ok (.iload_n 1, 1) := by decide +kernel
theorem dX3_valueWith_23 : decode cX3_valueWith 23 = .ok (.iconst 2, 1) := by decide +kernel
theorem dX3_valueWith_24 : decode cX3_valueWith 24 = .ok (.invokevirtual 30, 3) := by decide +kernel
theorem dX3_valueWith_27 : decode cX3_valueWith 27 = .ok (.iload_n 3, 1) := by decide +kernel
theorem dX3_valueWith_28 : decode cX3_valueWith 28 = .ok (.iload_n 2, 1) := by decide +kernel
theorem dX3_valueWith_29 : decode cX3_valueWith 29 = .ok (.invokestatic 58, 3) := by decide +kernel
theorem dX3_valueWith_32 : decode cX3_valueWith 32 = .ok (.ireturn, 1) := by decide +kernel
theorem dX3_wants_0 : decode cX3_wants 0 = .ok (.aload_n 0, 1) := by decide +kernel
theorem dX3_wants_1 : decode cX3_wants 1 = .ok (.iload_n 1, 1) := by decide +kernel
theorem dX3_wants_2 : decode cX3_wants 2 = .ok (.iload_n 2, 1) := by decide +kernel
theorem dX3_wants_3 : decode cX3_wants 3 = .ok (.invokevirtual 51, 3) := by decide +kernel
theorem dX3_wants_6 : decode cX3_wants 6 = .ok (.istore 4, 2) := by decide +kernel
theorem dX3_wants_8 : decode cX3_wants 8 = .ok (.aload_n 0, 1) := by decide +kernel
theorem dX3_wants_9 : decode cX3_wants 9 = .ok (.iload_n 1, 1) := by decide +kernel
theorem dX3_wants_10 : decode cX3_wants 10 = .ok (.iload 4, 2) := by decide +kernel
theorem dX3_wants_12 : decode cX3_wants 12 = .ok (.iload_n 3, 1) := by decide +kernel
theorem dX3_wants_13 : decode cX3_wants 13 = .ok (.invokevirtual 54, 3) := by decide +kernel
theorem dX3_wants_16 : decode cX3_wants 16 = .ok (.iload 4, 2) := by decide +kernel
theorem dX3_wants_18 : decode cX3_wants 18 = .ok (.if_icmp .le 7, 3) := by decide +kernel
theorem dX3_wants_21 : decode cX3_wants 21 = .ok (.iconst 1, 1) := by decide +kernel
theorem dX3_wants_22 : decode cX3_wants 22 = .ok (.goto 4, 3) := by decide +kernel
theorem dX3_wants_25 : decode cX3_wants 25 = .ok (.iconst 0, 1) := by decide +kernel
theorem dX3_wants_26 : decode cX3_wants 26 = .ok (.ireturn, 1) := by decide +kernel
theorem dX3_changes_0 : decode cX3_changes 0 = .ok (.aload_n 0, 1) := by decide +kernel
theorem dX3_changes_1 : decode cX3_changes 1 = .ok (.iload_n 1, 1) := by decide +kernel
theorem dX3_changes_2 : decode cX3_changes 2 = .ok (.iload_n 2, 1) := by decide +kernel
theorem dX3_changes_3 : decode cX3_changes 3 = .ok (.invokevirtual 51, 3) := by decide +kernel
theorem dX3_changes_6 : decode cX3_changes 6 = .ok (.istore 4, 2) := by decide +kernel
theorem dX3_changes_8 : decode cX3_changes 8 = .ok (.aload_n 0, 1) := by decide +kernel
theorem dX3_changes_9 : decode cX3_changes 9 = .ok (.iload_n 1, 1) := by decide +kernel
theorem dX3_changes_10 : decode cX3_changes 10 = .ok (.iload 4, 2) := by decide +kernel
theorem dX3_changes_12 : decode cX3_changes 12 = .ok (.iload_n 3, 1) := by decide +kernel
theorem dX3_changes_13 : decode cX3_changes 13 = .ok (.invokevirtual 54, 3) := by decide +kernel
theorem dX3_changes_16 : decode cX3_changes 16 = .ok (.istore 5, 2) := by decide +kernel
theorem dX3_changes_18 : decode cX3_changes 18 = .ok (.iload_n 2, 1) := by decide +kernel
theorem dX3_changes_19 : decode cX3_changes 19 = .ok (.iload_n 1, 1) := by decide +kernel
theorem dX3_changes_20 : decode cX3_changes 20 = .ok (.invokestatic 62, 3) := by decide +kernel
theorem dX3_changes_23 : decode cX3_changes 23 = .ok (.ifCond .eq 16, 3) := by decide +kernel
theorem dX3_changes_26 : decode cX3_changes 26 = .ok (.iload 5, 2) := by decide +kernel
theorem dX3_changes_28 : decode cX3_changes 28 = .ok (.ifCond .ge 7, 3) := by decide +kernel
theorem dX3_changes_31 : decode cX3_changes 31 = .ok (.iconst 1, 1) := by decide +kernel
theorem dX3_changes_32 : decode cX3_changes 32 = .ok (.goto 19, 3) := by decide +kernel
theorem dX3_changes_35 : decode cX3_changes 35 = .ok (.iconst 0, 1) := by decide +kernel
theorem dX3_changes_36 : decode cX3_changes 36 = .ok (.goto 15, 3) := by decide +kernel
theorem dX3_changes_39 : decode cX3_changes 39 = .ok (.iload 5, 2) := by decide +kernel
theorem dX3_changes_41 : decode cX3_changes 41 = .ok (.iload 4, 2) := by decide +kernel
theorem dX3_changes_43 : decode cX3_changes 43 = .ok (.if_icmp .le 7, 3) := by decide +kernel
theorem dX3_changes_46 : decode cX3_changes 46 = .ok (.iconst 1, 1) := by decide +kernel
theorem dX3_changes_47 : decode cX3_changes 47 = .ok (.goto 4, 3) := by decide +kernel
theorem dX3_changes_50 : decode cX3_changes 50 = .ok (.iconst 0, 1) := by decide +kernel
theorem dX3_changes_51 : decode cX3_changes 51 = .ok (.ireturn, 1) := by decide +kernel
theorem dX3_changersBy_0 : decode cX3_changersBy 0 = .ok (.iconst 0, 1) := by decide +kernel
theorem dX3_changersBy_1 : decode cX3_changersBy 1 = .ok (.istore_n 3, 1) := by decide +kernel
theorem dX3_changersBy_2 : decode cX3_changersBy 2 = .ok (.iconst 0, 1) := by decide +kernel
theorem dX3_changersBy_3 : decode cX3_changersBy 3 = .ok (.istore 4, 2) := by decide +kernel
theorem dX3_changersBy_5 : decode cX3_changersBy 5 = .ok (.iload 4, 2) := by decide +kernel
theorem dX3_changersBy_7 : decode cX3_changersBy 7 = .ok (.aload_n 0, 1) := by decide +kernel
theorem dX3_changersBy_8 : decode cX3_changersBy 8 = .ok (.getfield 12, 3) := by decide +kernel
theorem dX3_changersBy_11 : decode cX3_changersBy 11 = .ok (.getfield 26, 3) := by decide +kernel
theorem dX3_changersBy_14 : decode cX3_changersBy 14 = .ok (.if_icmp .ge 28, 3) := by decide +kernel
theorem dX3_changersBy_17 : decode cX3_changersBy 17 = .ok (.aload_n 0, 1) := by decide +kernel
theorem dX3_changersBy_18 : decode cX3_changersBy 18 = .ok (.iload 4, 2) := by decide +kernel
theorem dX3_changersBy_20 : decode cX3_changersBy 20 = .ok (.iload_n 1, 1) := by decide +kernel
theorem dX3_changersBy_21 : decode cX3_changersBy 21 = .ok (.iload_n 2, 1) := by decide +kernel
theorem dX3_changersBy_22 : decode cX3_changersBy 22 = .ok (.invokevirtual 66, 3) := by decide +kernel
theorem dX3_changersBy_25 : decode cX3_changersBy 25 = .ok (.ifCond .eq 11, 3) := by decide +kernel
theorem dX3_changersBy_28 : decode cX3_changersBy 28 = .ok (.iload_n 3, 1) := by decide +kernel
theorem dX3_changersBy_29 : decode cX3_changersBy 29 = .ok (.iload 4, 2) := by decide +kernel
theorem dX3_changersBy_31 : decode cX3_changersBy 31 = .ok (.invokestatic 34, 3) := by decide +kernel
theorem dX3_changersBy_34 : decode cX3_changersBy 34 = .ok (.ior, 1) := by decide +kernel
theorem dX3_changersBy_35 : decode cX3_changersBy 35 = .ok (.istore_n 3, 1) := by decide +kernel
theorem dX3_changersBy_36 : decode cX3_changersBy 36 = .ok (.iinc 4 1, 3) := by decide +kernel
theorem dX3_changersBy_39 : decode cX3_changersBy 39 = .ok (.goto (-34), 3) := by decide +kernel
theorem dX3_changersBy_42 : decode cX3_changersBy 42 = .ok (.iload_n 3, 1) := by decide +kernel
theorem dX3_changersBy_43 : decode cX3_changersBy 43 = .ok (.ireturn, 1) := by decide +kernel
theorem dX3_nextOwners_0 : decode cX3_nextOwners 0 = .ok (.iload_n 1, 1) := by decide +kernel
theorem dX3_nextOwners_1 : decode cX3_nextOwners 1 = .ok (.istore 4, 2) := by decide +kernel
theorem dX3_nextOwners_3 : decode cX3_nextOwners 3 = .ok (.iconst 0, 1) := by decide +kernel
theorem dX3_nextOwners_4 : decode cX3_nextOwners 4 = .ok (.istore 5, 2) := by decide +kernel
theorem dX3_nextOwners_6 : decode cX3_nextOwners 6 = .ok (.iload 5, 2) := by decide +kernel
theorem dX3_nextOwners_8 : decode cX3_nextOwners 8 = .ok (.aload_n 0, 1) := by decide +kernel
theorem dX3_nextOwners_9 : decode cX3_nextOwners 9 = .ok (.getfield 12, 3) := by decide +kernel
theorem dX3_nextOwners_12 : decode cX3_nextOwners 12 = .ok (.getfield 26, 3) := by decide +kernel
theorem dX3_nextOwners_15 : decode cX3_nextOwners 15 = .ok (.if_icmp .ge 39, 3) := by decide +kernel
theorem dX3_nextOwners_18 : decode cX3_nextOwners 18 = .ok (.aload_n 0, 1) := by decide +kernel
theorem dX3_nextOwners_19 : decode cX3_nextOwners 19 = .ok (.iload 5, 2) := by decide +kernel
theorem dX3_nextOwners_21 : decode cX3_nextOwners 21 = .ok (.iload_n 2, 1) := by decide +kernel
theorem dX3_nextOwners_22 : decode cX3_nextOwners 22 = .ok (.ifCond .eq 8, 3) := by decide +kernel
theorem dX3_nextOwners_25 : decode cX3_nextOwners 25 = .ok (.iload 4, 2) := by decide +kernel
theorem dX3_nextOwners_27 : decode cX3_nextOwners 27 = .ok (.goto 4, 3) := by decide +kernel
theorem dX3_nextOwners_30 : decode cX3_nextOwners 30 = .ok (.iload_n 1, 1) := by decide +kernel
theorem dX3_nextOwners_31 : decode cX3_nextOwners 31 = .ok (.iload_n 3, 1) := by decide +kernel
theorem dX3_nextOwners_32 : decode cX3_nextOwners 32 = .ok (.invokevirtual 66, 3) := by decide +kernel
theorem dX3_nextOwners_35 : decode cX3_nextOwners 35 = .ok (.ifCond .eq 13, 3) := by decide +kernel
theorem dX3_nextOwners_38 : decode cX3_nextOwners 38 = .ok (.iload 4, 2) := by decide +kernel
theorem dX3_nextOwners_40 : decode cX3_nextOwners 40 = .ok (.iload 5, 2) := by decide +kernel
theorem dX3_nextOwners_42 : decode cX3_nextOwners 42 = .ok (.invokestatic 34, 3) := by decide +kernel
theorem dX3_nextOwners_45 : decode cX3_nextOwners 45 = .ok (.ixor, 1) := by decide +kernel
theorem dX3_nextOwners_46 : decode cX3_nextOwners 46 = .ok (.istore 4, 2) := by decide +kernel
theorem dX3_nextOwners_48 : decode cX3_nextOwners 48 = .ok (.iinc 5 1, 3) := by decide +kernel
theorem dX3_nextOwners_51 : decode cX3_nextOwners 51 = .ok (.goto (-45), 3) := by decide +kernel
theorem dX3_nextOwners_54 : decode cX3_nextOwners 54 = .ok (.iload 4, 2) := by decide +kernel
theorem dX3_nextOwners_56 : decode cX3_nextOwners 56 = .ok (.ireturn, 1) := by decide +kernel
theorem dX4_init_0 : decode cX4_init 0 = .ok (.aload_n 0, 1) := by decide +kernel
theorem dX4_init_1 : decode cX4_init 1 = .ok (.invokespecial 3, 3) := by decide +kernel
theorem dX4_init_4 : decode cX4_init 4 = .ok (.aload_n 0, 1) := by decide +kernel
theorem dX4_init_5 : decode cX4_init 5 = .ok (.bipush 35, 2) := by decide +kernel
theorem dX4_init_7 : decode cX4_init 7 = .ok (.newarray .int, 2) := by decide +kernel
theorem dX4_init_9 : decode cX4_init 9 = .ok (.putfield 9, 3) := by decide +kernel
theorem dX4_init_12 : decode cX4_init 12 = .ok (.aload_n 0, 1) := by decide +kernel
theorem dX4_init_13 : decode cX4_init 13 = .ok (.iconst 0, 1) := by decide +kernel
theorem dX4_init_14 : decode cX4_init 14 = .ok (.putfield 15, 3) := by decide +kernel
theorem dX4_init_17 : decode cX4_init 17 = .ok (.aload_n 0, 1) := by decide +kernel
theorem dX4_init_18 : decode cX4_init 18 = .ok (.iconst 0, 1) := by decide +kernel
theorem dX4_init_19 : decode cX4_init 19 = .ok (.putfield 19, 3) := by decide +kernel
theorem dX4_init_22 : decode cX4_init 22 = .ok (.aload_n 0, 1) := by decide +kernel
theorem dX4_init_23 : decode cX4_init 23 = .ok (.bipush 50, 2) := by decide +kernel
theorem dX4_init_25 : decode cX4_init 25 = .ok (.putfield 22, 3) := by decide +kernel
theorem dX4_init_28 : decode cX4_init 28 = .ok (.return_, 1) := by decide +kernel
theorem dX4_clear_0 : decode cX4_clear 0 = .ok (.aload_n 0, 1) := by decide +kernel
theorem dX4_clear_1 : decode cX4_clear 1 = .ok (.iconst 0, 1) := by decide +kernel
theorem dX4_clear_2 : decode cX4_clear 2 = .ok (.putfield 15, 3) := by decide +kernel
theorem dX4_clear_5 : decode cX4_clear 5 = .ok (.aload_n 0, 1) := by decide +kernel
theorem dX4_clear_6 : decode cX4_clear 6 = .ok (.iconst 0, 1) := by decide +kernel
theorem dX4_clear_7 : decode cX4_clear 7 = .ok (.putfield 19, 3) := by decide +kernel
theorem dX4_clear_10 : decode cX4_clear 10 = .ok (.aload_n 0, 1) := by decide +kernel
theorem dX4_clear_11 : decode cX4_clear 11 = .ok (.bipush 50, 2) := by decide +kernel
theorem dX4_clear_13 : decode cX4_clear 13 = .ok (.putfield 22, 3) := by decide +kernel
theorem dX4_clear_16 : decode cX4_clear 16 = .ok (.return_, 1) := by decide +kernel
theorem dX4_add_0 : decode cX4_add 0 = .ok (.aload_n 0, 1) := by decide +kernel
theorem dX4_add_1 : decode cX4_add 1 = .ok (.getfield 15, 3) := by decide +kernel
theorem dX4_add_4 : decode cX4_add 4 = .ok (.bipush 7, 2) := by decide +kernel
theorem dX4_add_6 : decode cX4_add 6 = .ok (.if_icmp .ge 21, 3) := by decide +kernel
theorem dX4_add_9 : decode cX4_add 9 = .ok (.iload_n 1, 1) := by decide +kernel
theorem dX4_add_10 : decode cX4_add 10 = .ok (.iconst 3, 1) := by decide +kernel
theorem dX4_add_11 : decode cX4_add 11 = .ok (.if_icmp .gt 16, 3) := by decide +kernel
theorem dX4_add_14 : decode cX4_add 14 = .ok (.iload_n 3, 1) := by decide +kernel
theorem dX4_add_15 : decode cX4_add 15 = .ok (.bipush 18, 2) := by decide +kernel
theorem dX4_add_17 : decode cX4_add 17 = .ok (.if_icmp .gt 10, 3) := by decide +kernel
theorem dX4_add_20 : decode cX4_add 20 = .ok (.iload 4, 2) := by decide +kernel
theorem dX4_add_22 : decode cX4_add 22 = .ok (.bipush 8, 2) := by decide +kernel
theorem dX4_add_24 : decode cX4_add 24 = .ok (.if_icmp .lt 5, 3) := by decide +kernel
theorem dX4_add_27 : decode cX4_add 27 = .ok (.iconst 0, 1) := by decide +kernel
theorem dX4_add_28 : decode cX4_add 28 = .ok (.ireturn, 1) := by decide +kernel
theorem dX4_add_29 : decode cX4_add 29 = .ok (.aload_n 0, 1) := by decide +kernel
theorem dX4_add_30 : decode cX4_add 30 = .ok (.getfield 9, 3) := by decide +kernel
theorem dX4_add_33 : decode cX4_add 33 = .ok (.aload_n 0, 1) := by decide +kernel
theorem dX4_add_34 : decode cX4_add 34 = .ok (.getfield 15, 3) := by decide +kernel
theorem dX4_add_37 : decode cX4_add 37 = .ok (.iconst 5, 1) := by decide +kernel
theorem dX4_add_38 : decode cX4_add 38 = .ok (.imul, 1) := by decide +kernel
theorem dX4_add_39 : decode cX4_add 39 = .ok (.iconst 0, 1) := by decide +kernel
theorem dX4_add_40 : decode cX4_add 40 = .ok (.iadd, 1) := by decide +kernel
theorem dX4_add_41 : decode cX4_add 41 = .ok (.iload_n 1, 1) := by decide +kernel
theorem dX4_add_42 : decode cX4_add 42 = .ok (.invokestatic 25, 3) := by decide +kernel
theorem dX4_add_45 : decode cX4_add 45 = .ok (.aload_n 0, 1) := by decide +kernel
theorem dX4_add_46 : decode cX4_add 46 = .ok (.getfield 9, 3) := by decide +kernel
theorem dX4_add_49 : decode cX4_add 49 = .ok (.aload_n 0, 1) := by decide +kernel
theorem dX4_add_50 : decode cX4_add 50 = .ok (.getfield 15, 3) := by decide +kernel
theorem dX4_add_53 : decode cX4_add 53 = .ok (.iconst 5, 1) := by decide +kernel
theorem dX4_add_54 : decode cX4_add 54 = .ok (.imul, 1) := by decide +kernel
theorem dX4_add_55 : decode cX4_add 55 = .ok (.iconst 1, 1) := by decide +kernel
theorem dX4_add_56 : decode cX4_add 56 = .ok (.iadd, 1) := by decide +kernel
theorem dX4_add_57 : decode cX4_add 57 = .ok (.iload_n 2, 1) := by decide +kernel
theorem dX4_add_58 : decode cX4_add 58 = .ok (.invokestatic 25, 3) := by decide +kernel
theorem dX4_add_61 : decode cX4_add 61 = .ok (.aload_n 0, 1) := by decide +kernel
theorem dX4_add_62 : decode cX4_add 62 = .ok (.getfield 9, 3) := by decide +kernel
theorem dX4_add_65 : decode cX4_add 65 = .ok (.aload_n 0, 1) := by decide +kernel
theorem dX4_add_66 : decode cX4_add 66 = .ok (.getfield 15, 3) := by decide +kernel
theorem dX4_add_69 : decode cX4_add 69 = .ok (.iconst 5, 1) := by decide +kernel
theorem dX4_add_70 : decode cX4_add 70 = .ok (.imul, 1) := by decide +kernel
theorem dX4_add_71 : decode cX4_add 71 = .ok (.iconst 2, 1) := by decide +kernel
theorem dX4_add_72 : decode cX4_add 72 = .ok (.iadd, 1) := by decide +kernel
theorem dX4_add_73 : decode cX4_add 73 = .ok (.iload_n 3, 1) := by decide +kernel
theorem dX4_add_74 : decode cX4_add 74 = .ok (.invokestatic 25, 3) := by decide +kernel
theorem dX4_add_77 : decode cX4_add 77 = .ok (.aload_n 0, 1) := by decide +kernel
theorem dX4_add_78 : decode cX4_add 78 = .ok (.getfield 9, 3) := by decide +kernel
theorem dX4_add_81 : decode cX4_add 81 = .ok (.aload_n 0, 1) := by decide +kernel
theorem dX4_add_82 : decode cX4_add 82 = .ok (.getfield 15, 3) := by decide +kernel
theorem dX4_add_85 : decode cX4_add 85 = .ok (.iconst 5, 1) := by decide +kernel
theorem dX4_add_86 : decode cX4_add 86 = .ok (.imul, 1) := by decide +kernel
theorem dX4_add_87 : decode cX4_add 87 = .ok (.iconst 3, 1) := by decide +kernel
theorem dX4_add_88 : decode cX4_add 88 = .ok (.iadd, 1) := by decide +kernel
theorem dX4_add_89 : decode cX4_add 89 = .ok (.iload 4, 2) := by decide +kernel
theorem dX4_add_91 : decode cX4_add 91 = .ok (.invokestatic 25, 3) := by decide +kernel
theorem dX4_add_94 : decode cX4_add 94 = .ok (.aload_n 0, 1) := by decide +kernel
theorem dX4_add_95 : decode cX4_add 95 = .ok (.getfield 9, 3) := by decide +kernel
theorem dX4_add_98 : decode cX4_add 98 = .ok (.aload_n 0, 1) := by decide +kernel
theorem dX4_add_99 : decode cX4_add 99 = .ok (.getfield 15, 3) := by decide +kernel
theorem dX4_add_102 : decode cX4_add 102 = .ok (.iconst 5, 1) := by decide +kernel
theorem dX4_add_103 : decode cX4_add 103 = .ok (.imul, 1) := by decide +kernel
theorem dX4_add_104 : decode cX4_add 104 = .ok (.iconst 4, 1) := by decide +kernel
theorem dX4_add_105 : decode cX4_add 105 = .ok (.iadd, 1) := by decide +kernel
theorem dX4_add_106 : decode cX4_add 106 = .ok (.iload 5, 2) := by decide +kernel
theorem dX4_add_108 : decode cX4_add 108 = .ok (.invokestatic 25, 3) := by decide +kernel
theorem dX4_add_111 : decode cX4_add 111 = .ok (.aload_n 0, 1) := by decide +kernel
theorem dX4_add_112 : decode cX4_add 112 = .ok (.dup, 1) := by decide +kernel
theorem dX4_add_113 : decode cX4_add 113 = .ok (.getfield 15, 3) := by decide +kernel
theorem dX4_add_116 : decode cX4_add 116 = .ok (.iconst 1, 1) := by decide +kernel
theorem dX4_add_117 : decode cX4_add 117 = .ok (.iadd, 1) := by decide +kernel
theorem dX4_add_118 : decode cX4_add 118 = .ok (.putfield 15, 3) := by decide +kernel
theorem dX4_add_121 : decode cX4_add 121 = .ok (.iconst 1, 1) := by decide +kernel
theorem dX4_add_122 : decode cX4_add 122 = .ok (.ireturn, 1) := by decide +kernel
theorem dX4_giveOne_0 : decode cX4_giveOne 0 = .ok (.iload_n 1, 1) := by decide +kernel
theorem dX4_giveOne_1 : decode cX4_giveOne 1 = .ok (.aload_n 0, 1) := by decide +kernel
theorem dX4_giveOne_2 : decode cX4_giveOne 2 = .ok (.getfield 15, 3) := by decide +kernel
theorem dX4_giveOne_5 : decode cX4_giveOne 5 = .ok (.if_icmp .lt 5, 3) := by decide +kernel
theorem dX4_giveOne_8 : decode cX4_giveOne 8 = .ok (.iconst 0, 1) := by decide +kernel
theorem dX4_giveOne_9 : decode cX4_giveOne 9 = .ok (.ireturn, 1) := by decide +kernel
theorem dX4_giveOne_10 : decode cX4_giveOne 10 = .ok (.aload_n 0, 1) := by decide +kernel
theorem dX4_giveOne_11 : decode cX4_giveOne 11 = .ok (.dup, 1) := by decide +kernel
theorem dX4_giveOne_12 : decode cX4_giveOne 12 = .ok (.getfield 19, 3) := by decide +kernel
theorem dX4_giveOne_15 : decode cX4_giveOne 15 = .ok (.iload_n 1, 1) := by decide +kernel
theorem dX4_giveOne_16 : decode cX4_giveOne 16 = .ok (.invokestatic 29, 3) := by decide +kernel
theorem dX4_giveOne_19 : decode cX4_giveOne 19 = .ok (.ior, 1) := by decide +kernel
theorem dX4_giveOne_20 : decode cX4_giveOne 20 = .ok (.putfield 19, 3) := by decide +kernel
theorem dX4_giveOne_23 : decode cX4_giveOne 23 = .ok (.iconst 1, 1) := by decide +kernel
theorem dX4_giveOne_24 : decode cX4_giveOne 24 = .ok (.ireturn, 1) := by decide +kernel
theorem dX4_setSeason_0 : decode cX4_setSeason 0 = .ok (.aload_n 0, 1) := by decide +kernel
theorem dX4_setSeason_1 : decode cX4_setSeason 1 = .ok (.iload_n 1, 1) := by decide +kernel
theorem dX4_setSeason_2 : decode cX4_setSeason 2 = .ok (.putfield 22, 3) := by decide +kernel
theorem dX4_setSeason_5 : decode cX4_setSeason 5 = .ok (.iconst 1, 1) := by decide +kernel
theorem dX4_setSeason_6 : decode cX4_setSeason 6 = .ok (.ireturn, 1) := by decide +kernel
theorem dX4_trait_0 : decode cX4_trait 0 = .ok (.iload_n 1, 1) := by decide +kernel
theorem dX4_trait_1 : decode cX4_trait 1 = .ok (.iconst 5, 1) := by decide +kernel
theorem dX4_trait_2 : decode cX4_trait 2 = .ok (.imul, 1) := by decide +kernel
theorem dX4_trait_3 : decode cX4_trait 3 = .ok (.iload_n 2, 1) := by decide +kernel
theorem dX4_trait_4 : decode cX4_trait 4 = .ok (.iadd, 1) := by decide +kernel
theorem dX4_trait_5 : decode cX4_trait 5 = .ok (.istore_n 3, 1) := by decide +kernel
theorem dX4_trait_6 : decode cX4_trait 6 = .ok (.iload_n 3, 1) := by decide +kernel
theorem dX4_trait_7 : decode cX4_trait 7 = .ok (.ifCond .lt 21, 3) := by decide +kernel
theorem dX4_trait_10 : decode cX4_trait 10 = .ok (.iload_n 3, 1) := by decide +kernel
theorem dX4_trait_11 : decode cX4_trait 11 = .ok (.aload_n 0, 1) := by decide +kernel
theorem dX4_trait_12 : decode cX4_trait 12 = .ok (.getfield 9, 3) := by decide +kernel
theorem dX4_trait_15 : decode cX4_trait 15 = .ok (.arraylength, 1) := by decide +kernel
theorem dX4_trait_16 : decode cX4_trait 16 = .ok (.if_icmp .ge 12, 3) := by decide +kernel
theorem dX4_trait_19 : decode cX4_trait 19 = .ok (.aload_n 0, 1) := by decide +kernel
theorem dX4_trait_20 : decode cX4_trait 20 = .ok (.getfield 9, 3) := by decide +kernel
theorem dX4_trait_23 : decode cX4_trait 23 = .ok (.iload_n 3, 1) := by decide +kernel
theorem dX4_trait_24 : decode cX4_trait 24 = .ok (.iaload, 1) := by decide +kernel
theorem dX4_trait_25 : decode cX4_trait 25 = .ok (.goto 4, 3) := by decide +kernel
theorem dX4_trait_28 : decode cX4_trait 28 = .ok (.iconst 0, 1) := by decide +kernel
theorem dX4_trait_29 : decode cX4_trait 29 = .ok (.ireturn, 1) := by decide +kernel
theorem dX4_sets_0 : decode cX4_sets 0 = .ok (.iconst 1, 1) := by decide +kernel
theorem dX4_sets_1 : decode cX4_sets 1 = .ok (.aload_n 0, 1) := by decide +kernel
theorem dX4_sets_2 : decode cX4_sets 2 = .ok (.getfield 15, 3) := by decide +kernel
theorem dX4_sets_5 : decode cX4_sets 5 = .ok (.ishl, 1) := by decide +kernel
theorem dX4_sets_6 : decode cX4_sets 6 = .ok (.ireturn, 1) := by decide +kernel
theorem dX4_copy_0 : decode cX4_copy 0 = .ok (.iconst 0, 1) := by decide +kernel
theorem dX4_copy_1 : decode cX4_copy 1 = .ok (.istore_n 2, 1) := by decide +kernel
theorem dX4_copy_2 : decode cX4_copy 2 = .ok (.iload_n 2, 1) := by decide +kernel
theorem dX4_copy_3 : decode cX4_copy 3 = .ok (.aload_n 0, 1) := by decide +kernel
theorem dX4_copy_4 : decode cX4_copy 4 = .ok (.getfield 9, 3) := by decide +kernel
theorem dX4_copy_7 : decode cX4_copy 7 = .ok (.arraylength, 1) := by decide +kernel
theorem dX4_copy_8 : decode cX4_copy 8 = .ok (.if_icmp .ge 25, 3) := by decide +kernel
theorem dX4_copy_11 : decode cX4_copy 11 = .ok (.aload_n 0, 1) := by decide +kernel
theorem dX4_copy_12 : decode cX4_copy 12 = .ok (.getfield 9, 3) := by decide +kernel
theorem dX4_copy_15 : decode cX4_copy 15 = .ok (.iload_n 2, 1) := by decide +kernel
theorem dX4_copy_16 : decode cX4_copy 16 = .ok (.aload_n 1, 1) := by decide +kernel
theorem dX4_copy_17 : decode cX4_copy 17 = .ok (.getfield 9, 3) := by decide +kernel
theorem dX4_copy_20 : decode cX4_copy 20 = .ok (.iload_n 2, 1) := by decide +kernel
theorem dX4_copy_21 : decode cX4_copy 21 = .ok (.invokestatic 33, 3) := by decide +kernel
theorem dX4_copy_24 : decode cX4_copy 24 = .ok (.invokestatic 25, 3) := by decide +kernel
theorem dX4_copy_27 : decode cX4_copy 27 = .ok (.iinc 2 1, 3) := by decide +kernel
theorem dX4_copy_30 : decode cX4_copy 30 = .ok (.goto (-28), 3) := by decide +kernel
theorem dX4_copy_33 : decode cX4_copy 33 = .ok (.aload_n 0, 1) := by decide +kernel
theorem dX4_copy_34 : decode cX4_copy 34 = .ok (.aload_n 1, 1) := by decide +kernel
theorem dX4_copy_35 : decode cX4_copy 35 = .ok (.getfield 15, 3) := by decide +kernel
theorem dX4_copy_38 : decode cX4_copy 38 = .ok (.putfield 15, 3) := by decide +kernel
theorem dX4_copy_41 : decode cX4_copy 41 = .ok (.aload_n 0, 1) := by decide +kernel
theorem dX4_copy_42 : decode cX4_copy 42 = .ok (.aload_n 1, 1) := by decide +kernel
theorem dX4_copy_43 : decode cX4_copy 43 = .ok (.getfield 19, 3) := by decide +kernel
theorem dX4_copy_46 : decode cX4_copy 46 = .ok (.putfield 19, 3) := by decide +kernel
theorem dX4_copy_49 : decode cX4_copy 49 = .ok (.aload_n 0, 1) := by decide +kernel
theorem dX4_copy_50 : decode cX4_copy 50 = .ok (.aload_n 1, 1) := by decide +kernel
theorem dX4_copy_51 : decode cX4_copy 51 = .ok (.getfield 22, 3) := by decide +kernel
theorem dX4_copy_54 : decode cX4_copy 54 = .ok (.putfield 22, 3) := by decide +kernel
theorem dX4_copy_57 : decode cX4_copy 57 = .ok (.return_, 1) := by decide +kernel
theorem dX5_init_0 : decode cX5_init 0 = .ok (.aload_n 0, 1) := by decide +kernel
theorem dX5_init_1 : decode cX5_init 1 = .ok (.invokespecial 3, 3) := by decide +kernel
theorem dX5_init_4 : decode cX5_init 4 = .ok (.aload_n 0, 1) := by decide +kernel
theorem dX5_init_5 : decode cX5_init 5 = .ok (.iconst 0, 1) := by decide +kernel
theorem dX5_init_6 : decode cX5_init 6 = .ok (.putfield 9, 3) := by decide +kernel
theorem dX5_init_9 : decode cX5_init 9 = .ok (.aload_n 0, 1) := by decide +kernel
theorem dX5_init_10 : decode cX5_init 10 = .ok (.iload_n 1, 1) := by decide +kernel
theorem dX5_init_11 : decode cX5_init 11 = .ok (.iconst 1, 1) := by decide +kernel
theorem dX5_init_12 : decode cX5_init 12 = .ok (.if_icmp .le 7, 3) := by decide +kernel
theorem dX5_init_15 : decode cX5_init 15 = .ok (.iload_n 1, 1) := by decide +kernel
theorem dX5_init_16 : decode cX5_init 16 = .ok (.goto 4, 3) := by decide +kernel
theorem dX5_init_19 : decode cX5_init 19 = .ok (.iconst 1, 1) := by decide +kernel
theorem dX5_init_20 : decode cX5_init 20 = .ok (.putfield 15, 3) := by decide +kernel
theorem dX5_init_23 : decode cX5_init 23 = .ok (.aload_n 0, 1) := by decide +kernel
theorem dX5_init_24 : decode cX5_init 24 = .ok (.aload_n 0, 1) := by decide +kernel
theorem dX5_init_25 : decode cX5_init 25 = .ok (.getfield 15, 3) := by decide +kernel
theorem dX5_init_28 : decode cX5_init 28 = .ok (.bipush 8, 2) := by decide +kernel
theorem dX5_init_30 : decode cX5_init 30 = .ok (.imul, 1) := by decide +kernel
theorem dX5_init_31 : decode cX5_init 31 = .ok (.newarray .int, 2) := by decide +kernel
theorem dX5_init_33 : decode cX5_init 33 = .ok (.putfield 18, 3) := by decide +kernel
theorem dX5_init_36 : decode cX5_init 36 = .ok (.return_, 1) := by decide +kernel
theorem dX5_push_0 : decode cX5_push 0 = .ok (.aload_n 0, 1) := by decide +kernel
theorem dX5_push_1 : decode cX5_push 1 = .ok (.getfield 9, 3) := by decide +kernel
theorem dX5_push_4 : decode cX5_push 4 = .ok (.aload_n 0, 1) := by decide +kernel
theorem dX5_push_5 : decode cX5_push 5 = .ok (.getfield 15, 3) := by decide +kernel
theorem dX5_push_8 : decode cX5_push 8 = .ok (.if_icmp .lt 4, 3) := by decide +kernel
theorem dX5_push_11 : decode cX5_push 11 = .ok (.return_, 1) := by decide +kernel
theorem dX5_push_12 : decode cX5_push 12 = .ok (.aload_n 0, 1) := by decide +kernel
theorem dX5_push_13 : decode cX5_push 13 = .ok (.getfield 9, 3) := by decide +kernel
theorem dX5_push_16 : decode cX5_push 16 = .ok (.bipush 8, 2) := by decide +kernel
theorem dX5_push_18 : decode cX5_push 18 = .ok (.imul, 1) := by decide +kernel
theorem dX5_push_19 : decode cX5_push 19 = .ok (.istore_n 2, 1) := by decide +kernel
theorem dX5_push_20 : decode cX5_push 20 = .ok (.iconst 0, 1) := by decide +kernel
theorem dX5_push_21 : decode cX5_push 21 = .ok (.istore_n 3, 1) := by decide +kernel
theorem dX5_push_22 : decode cX5_push 22 = .ok (.iload_n 3, 1) := by decide +kernel
theorem dX5_push_23 : decode cX5_push 23 = .ok (.bipush 7, 2) := by decide +kernel
theorem dX5_push_25 : decode cX5_push 25 = .ok (.if_icmp .ge 24, 3) := by decide +kernel
theorem dX5_push_28 : decode cX5_push 28 = .ok (.aload_n 0, 1) := by decide +kernel
theorem dX5_push_29 : decode cX5_push 29 = .ok (.getfield 18, 3) := by decide +kernel
theorem dX5_push_32 : decode cX5_push 32 = .ok (.iload_n 2, 1) := by decide +kernel
theorem dX5_push_33 : decode cX5_push 33 = .ok (.iload_n 3, 1) := by decide +kernel
theorem dX5_push_34 : decode cX5_push 34 = .ok (.iadd, 1) := by decide +kernel
theorem dX5_push_35 : decode cX5_push 35 = .ok (.aload_n 1, 1) := by decide +kernel
theorem dX5_push_36 : decode cX5_push 36 = .ok (.iload_n 3, 1) := by decide +kernel
theorem dX5_push_37 : decode cX5_push 37 = .ok (.invokevirtual 22, 3) := by decide +kernel
theorem dX5_push_40 : decode cX5_push 40 = .ok (.invokestatic 28, 3) := by decide +kernel
theorem dX5_push_43 : decode cX5_push 43 = .ok (.iinc 3 1, 3) := by decide +kernel
theorem dX5_push_46 : decode cX5_push 46 = .ok (.goto (-24), 3) := by decide +kernel
theorem dX5_push_49 : decode cX5_push 49 = .ok (.aload_n 0, 1) := by decide +kernel
theorem dX5_push_50 : decode cX5_push 50 = .ok (.getfield 18, 3) := by decide +kernel
theorem dX5_push_53 : decode cX5_push 53 = .ok (.iload_n 2, 1) := by decide +kernel
theorem dX5_push_54 : decode cX5_push 54 = .ok (.bipush 7, 2) := by decide +kernel
theorem dX5_push_56 : decode cX5_push 56 = .ok (.iadd, 1) := by decide +kernel
theorem dX5_push_57 : decode cX5_push 57 = .ok (.aload_n 1, 1) := by decide +kernel
theorem dX5_push_58 : decode cX5_push 58 = .ok (.getfield 32, 3) := by decide +kernel
theorem dX5_push_61 : decode cX5_push 61 = .ok (.invokestatic 28, 3) := by decide +kernel
theorem dX5_push_64 : decode cX5_push 64 = .ok (.aload_n 0, 1) := by decide +kernel
theorem dX5_push_65 : decode cX5_push 65 = .ok (.dup, 1) := by decide +kernel
theorem dX5_push_66 : decode cX5_push 66 = .ok (.getfield 9, 3) := by decide +kernel
theorem dX5_push_69 : decode cX5_push 69 = .ok (.iconst 1, 1) := by decide +kernel
theorem dX5_push_70 : decode cX5_push 70 = .ok (.iadd, 1) := by decide +kernel
theorem dX5_push_71 : decode cX5_push 71 = .ok (.putfield 9, 3) := by decide +kernel
theorem dX5_push_74 : decode cX5_push 74 = .ok (.return_, 1) := by decide +kernel
theorem dX5_pushOverOldest_0 : decode cX5_pushOverOldest 0 = .ok (.aload_n 0, 1) := by decide +kernel
theorem dX5_pushOverOldest_1 : decode cX5_pushOverOldest 1 = .ok (.getfield 9, 3) := by decide +kernel
theorem dX5_pushOverOldest_4 : decode cX5_pushOverOldest 4 = .ok (.aload_n 0, 1) := by decide +kernel
theorem dX5_pushOverOldest_5 : decode cX5_pushOverOldest 5 = .ok (.getfield 15, 3) := by decide +kernel
theorem dX5_pushOverOldest_8 : decode cX5_pushOverOldest 8 = .ok (.if_icmp .lt 50, 3) := by decide +kernel
theorem dX5_pushOverOldest_11 : decode cX5_pushOverOldest 11 = .ok (.bipush 8, 2) := by decide +kernel
theorem dX5_pushOverOldest_13 : decode cX5_pushOverOldest 13 = .ok (.istore_n 2, 1) := by decide +kernel
theorem dX5_pushOverOldest_14 : decode cX5_pushOverOldest 14 = .ok (.iload_n 2, 1) := by decide +kernel
theorem dX5_pushOverOldest_15 : decode cX5_pushOverOldest 15 = .ok (.aload_n 0, 1) := by decide +kernel
theorem dX5_pushOverOldest_16 : decode cX5_pushOverOldest 16 = .ok (.getfield 18, 3) := by decide +kernel
theorem dX5_pushOverOldest_19 : decode cX5_pushOverOldest 19 = .ok (.arraylength, 1) := by decide +kernel
theorem dX5_pushOverOldest_20 : decode cX5_pushOverOldest 20 = .ok (.if_icmp .ge 28, 3) := by decide +kernel
theorem dX5_pushOverOldest_23 : decode cX5_pushOverOldest 23 = .ok (.aload_n 0, 1) := by decide +kernel
theorem dX5_pushOverOldest_24 : decode cX5_pushOverOldest 24 = .ok (.getfield 18, 3) := by decide +kernel
theorem dX5_pushOverOldest_27 : decode cX5_pushOverOldest 27 = .ok (.iload_n 2, 1) := by decide +kernel
theorem dX5_pushOverOldest_28 : decode cX5_pushOverOldest 28 = .ok (.bipush 8, 2) := by decide +kernel
theorem dX5_pushOverOldest_30 : decode cX5_pushOverOldest 30 = .ok (.isub, 1) := by decide +kernel
theorem dX5_pushOverOldest_31 : decode cX5_pushOverOldest 31 = .ok (.aload_n 0, 1) := by decide +kernel
theorem dX5_pushOverOldest_32 : decode cX5_pushOverOldest 32 = .ok (.getfield 18, 3) := by decide +kernel
theorem dX5_pushOverOldest_35 : decode cX5_pushOverOldest 35 = .ok (.iload_n 2, 1) := by decide +kernel
theorem dX5_pushOverOldest_36 : decode cX5_pushOverOldest 36 = .ok (.invokestatic 35, 3) := by decide +kernel
theorem dX5_pushOverOldest_39 : decode cX5_pushOverOldest 39 = .ok (.invokestatic 28, 3) := by decide +kernel
theorem dX5_pushOverOldest_42 : decode cX5_pushOverOldest 42 = .ok (.iinc 2 1, 3) := by decide +kernel
theorem dX5_pushOverOldest_45 : decode cX5_pushOverOldest 45 = .ok (.goto (-31), 3) := by decide +kernel
theorem dX5_pushOverOldest_48 : decode cX5_pushOverOldest 48 = .ok (.aload_n 0, 1) := by decide +kernel
theorem dX5_pushOverOldest_49 : decode cX5_pushOverOldest 49 = .ok (.aload_n 0, 1) := by decide +kernel
theorem dX5_pushOverOldest_50 : decode cX5_pushOverOldest 50 = .ok (.getfield 15, 3) := by decide +kernel
theorem dX5_pushOverOldest_53 : decode cX5_pushOverOldest 53 = .ok (.iconst 1, 1) := by decide +kernel
theorem dX5_pushOverOldest_54 : decode cX5_pushOverOldest 54 = .ok (.isub, 1) := by decide +kernel
theorem dX5_pushOverOldest_55 : decode cX5_pushOverOldest 55 = .ok (.putfield 9, 3) := by decide +kernel
theorem dX5_pushOverOldest_58 : decode cX5_pushOverOldest 58 = .ok (.aload_n 0, 1) := by decide +kernel
theorem dX5_pushOverOldest_59 : decode cX5_pushOverOldest 59 = .ok (.aload_n 1, 1) := by decide +kernel
theorem dX5_pushOverOldest_60 : decode cX5_pushOverOldest 60 = .ok (.invokevirtual 39, 3) := by decide +kernel
theorem dX5_pushOverOldest_63 : decode cX5_pushOverOldest 63 = .ok (.return_, 1) := by decide +kernel
theorem dX5_popInto_0 : decode cX5_popInto 0 = .ok (.aload_n 0, 1) := by decide +kernel
theorem dX5_popInto_1 : decode cX5_popInto 1 = .ok (.getfield 9, 3) := by decide +kernel
theorem dX5_popInto_4 : decode cX5_popInto 4 = .ok (.ifCond .gt 4, 3) := by decide +kernel
theorem dX5_popInto_7 : decode cX5_popInto 7 = .ok (.return_, 1) := by decide +kernel
theorem dX5_popInto_8 : decode cX5_popInto 8 = .ok (.aload_n 0, 1) := by decide +kernel
theorem dX5_popInto_9 : decode cX5_popInto 9 = .ok (.dup, 1) := by decide +kernel
theorem dX5_popInto_10 : decode cX5_popInto 10 = .ok (.getfield 9, 3) := by decide +kernel
theorem dX5_popInto_13 : decode cX5_popInto 13 = .ok (.iconst 1, 1) := by decide +kernel
theorem dX5_popInto_14 : decode cX5_popInto 14 = .ok (.isub, 1) := by decide +kernel
theorem dX5_popInto_15 : decode cX5_popInto 15 = .ok (.putfield 9, 3) := by decide +kernel
theorem dX5_popInto_18 : decode cX5_popInto 18 = .ok (.aload_n 0, 1) := by decide +kernel
theorem dX5_popInto_19 : decode cX5_popInto 19 = .ok (.getfield 9, 3) := by decide +kernel
theorem dX5_popInto_22 : decode cX5_popInto 22 = .ok (.bipush 8, 2) := by decide +kernel
theorem dX5_popInto_24 : decode cX5_popInto 24 = .ok (.imul, 1) := by decide +kernel
theorem dX5_popInto_25 : decode cX5_popInto 25 = .ok (.istore_n 2, 1) := by decide +kernel
theorem dX5_popInto_26 : decode cX5_popInto 26 = .ok (.iconst 0, 1) := by decide +kernel
theorem dX5_popInto_27 : decode cX5_popInto 27 = .ok (.istore_n 3, 1) := by decide +kernel
theorem dX5_popInto_28 : decode cX5_popInto 28 = .ok (.iload_n 3, 1) := by decide +kernel
theorem dX5_popInto_29 : decode cX5_popInto 29 = .ok (.bipush 7, 2) := by decide +kernel
theorem dX5_popInto_31 : decode cX5_popInto 31 = .ok (.if_icmp .ge 27, 3) := by decide +kernel
theorem dX5_popInto_34 : decode cX5_popInto 34 = .ok (.aload_n 1, 1) := by decide +kernel
theorem dX5_popInto_35 : decode cX5_popInto 35 = .ok (.getfield 43, 3) := by decide +kernel
theorem dX5_popInto_38 : decode cX5_popInto 38 = .ok (.iload_n 3, 1) := by decide +kernel
theorem dX5_popInto_39 : decode cX5_popInto 39 = .ok (.aload_n 0, 1) := by decide +kernel
theorem dX5_popInto_40 : decode cX5_popInto 40 = .ok (.getfield 18, 3) := by decide +kernel
theorem dX5_popInto_43 : decode cX5_popInto 43 = .ok (.iload_n 2, 1) := by decide +kernel
theorem dX5_popInto_44 : decode cX5_popInto 44 = .ok (.iload_n 3, 1) := by decide +kernel
theorem dX5_popInto_45 : decode cX5_popInto 45 = .ok (.iadd, 1) := by decide +kernel
theorem dX5_popInto_46 : decode cX5_popInto 46 = .ok (.invokestatic 35, 3) := by decide +kernel
theorem dX5_popInto_49 : decode cX5_popInto 49 = .ok (.invokestatic 28, 3) := by decide +kernel
theorem dX5_popInto_52 : decode cX5_popInto 52 = .ok (.iinc 3 1, 3) := by decide +kernel
theorem dX5_popInto_55 : decode cX5_popInto 55 = .ok (.goto (-27), 3) := by decide +kernel
theorem dX5_popInto_58 : decode cX5_popInto 58 = .ok (.aload_n 1, 1) := by decide +kernel
theorem dX5_popInto_59 : decode cX5_popInto 59 = .ok (.aload_n 0, 1) := by decide +kernel
theorem dX5_popInto_60 : decode cX5_popInto 60 = .ok (.getfield 18, 3) := by decide +kernel
theorem dX5_popInto_63 : decode cX5_popInto 63 = .ok (.iload_n 2, 1) := by decide +kernel
theorem dX5_popInto_64 : decode cX5_popInto 64 = .ok (.bipush 7, 2) := by decide +kernel
theorem dX5_popInto_66 : decode cX5_popInto 66 = .ok (.iadd, 1) := by decide +kernel
theorem dX5_popInto_67 : decode cX5_popInto 67 = .ok (.invokestatic 35, 3) := by decide +kernel
theorem dX5_popInto_70 : decode cX5_popInto 70 = .ok (.putfield 32, 3) := by decide +kernel
theorem dX5_popInto_73 : decode cX5_popInto 73 = .ok (.return_, 1) := by decide +kernel
theorem dX6_init_0 : decode cX6_init 0 = .ok (.aload_n 0, 1) := by decide +kernel
theorem dX6_init_1 : decode cX6_init 1 = .ok (.invokespecial 3, 3) := by decide +kernel
theorem dX6_init_4 : decode cX6_init 4 = .ok (.aload_n 0, 1) := by decide +kernel
theorem dX6_init_5 : decode cX6_init 5 = .ok (.iconst 5, 1) := by decide +kernel
theorem dX6_init_6 : decode cX6_init 6 = .ok (.newarray .int, 2) := by decide +kernel
theorem dX6_init_8 : decode cX6_init 8 = .ok (.putfield 9, 3) := by decide +kernel
theorem dX6_init_11 : decode cX6_init 11 = .ok (.aload_n 0, 1) := by decide +kernel
theorem dX6_init_12 : decode cX6_init 12 = .ok (.iconst 0, 1) := by decide +kernel
theorem dX6_init_13 : decode cX6_init 13 = .ok (.putfield 15, 3) := by decide +kernel
theorem dX6_init_16 : decode cX6_init 16 = .ok (.return_, 1) := by decide +kernel
theorem dX6_readAll_0 : decode cX6_readAll 0 = .ok (.aload_n 2, 1) := by decide +kernel
theorem dX6_readAll_1 : decode cX6_readAll 1 = .ok (.invokevirtual 19, 3) := by decide +kernel
theorem dX6_readAll_4 : decode cX6_readAll 4 = .ok (.aload_n 0, 1) := by decide +kernel
theorem dX6_readAll_5 : decode cX6_readAll 5 = .ok (.iconst 0, 1) := by decide +kernel
theorem dX6_readAll_6 : decode cX6_readAll 6 = .ok (.putfield 15, 3) := by decide +kernel
theorem dX6_readAll_9 : decode cX6_readAll 9 = .ok (.iconst 0, 1) := by decide +kernel
theorem dX6_readAll_10 : decode cX6_readAll 10 = .ok (.istore_n 3, 1) := by decide +kernel
theorem dX6_readAll_11 : decode cX6_readAll 11 = .ok (.iload_n 3, 1) := by decide +kernel
theorem dX6_readAll_12 : decode cX6_readAll 12 = .ok (.sipush 300, 3) := by decide +kernel
theorem dX6_readAll_15 : decode cX6_readAll 15 = .ok (.if_icmp .ge 38, 3) := by decide +kernel
theorem dX6_readAll_18 : decode cX6_readAll 18 = .ok (.aload_n 0, 1) := by decide +kernel
theorem dX6_readAll_19 : decode cX6_readAll 19 = .ok (.getfield 15, 3) := by decide +kernel
theorem dX6_readAll_22 : decode cX6_readAll 22 = .ok (.aload_n 1, 1) := by decide +kernel
theorem dX6_readAll_23 : decode cX6_readAll 23 = .ok (.getfield 24, 3) := by decide +kernel
theorem dX6_readAll_26 : decode cX6_readAll 26 = .ok (.if_icmp .ge 27, 3) := by decide +kernel
theorem dX6_readAll_29 : decode cX6_readAll 29 = .ok (.aload_n 0, 1) := by decide +kernel
theorem dX6_readAll_30 : decode cX6_readAll 30 = .ok (.getfield 15, 3) := by decide +kernel
theorem dX6_readAll_33 : decode cX6_readAll 33 = .ok (.istore 4, 2) := by decide +kernel
theorem dX6_readAll_35 : decode cX6_readAll 35 = .ok (.aload_n 0, 1) := by decide +kernel
theorem dX6_readAll_36 : decode cX6_readAll 36 = .ok (.aload_n 1, 1) := by decide +kernel
theorem dX6_readAll_37 : decode cX6_readAll 37 = .ok (.aload_n 2, 1) := by decide +kernel
theorem dX6_readAll_38 : decode cX6_readAll 38 = .ok (.invokevirtual 29, 3) := by decide +kernel
theorem dX6_readAll_41 : decode cX6_readAll 41 = .ok (.ifCond .ne 6, 3) := by decide +kernel
theorem dX6_readAll_44 : decode cX6_readAll 44 = .ok (.iload 4, 2) := by decide +kernel
theorem dX6_readAll_46 : decode cX6_readAll 46 = .ok (.ireturn, 1) := by decide +kernel
theorem dX6_readAll_47 : decode cX6_readAll 47 = .ok (.iinc 3 1, 3) := by decide +kernel
theorem dX6_readAll_50 : decode cX6_readAll 50 = .ok (.goto (-39), 3) := by decide +kernel
theorem dX6_readAll_53 : decode cX6_readAll 53 = .ok (.bipush (-4), 2) := by decide +kernel
theorem dX6_readAll_55 : decode cX6_readAll 55 = .ok (.ireturn, 1) := by decide +kernel
theorem dX6_readItem_0 : decode cX6_readItem 0 = .ok (.aload_n 1, 1) := by decide +kernel
theorem dX6_readItem_1 : decode cX6_readItem 1 = .ok (.aload_n 0, 1) := by decide +kernel
theorem dX6_readItem_2 : decode cX6_readItem 2 = .ok (.getfield 15, 3) := by decide +kernel
theorem dX6_readItem_5 : decode cX6_readItem 5 = .ok (.invokevirtual 33, 3) := by decide +kernel
theorem dX6_readItem_8 : decode cX6_readItem 8 = .ok (.istore_n 3, 1) := by decide +kernel
theorem dX6_readItem_9 : decode cX6_readItem 9 = .ok (.aload_n 0, 1) := by decide +kernel
theorem dX6_readItem_10 : decode cX6_readItem 10 = .ok (.dup, 1) := by decide +kernel
theorem dX6_readItem_11 : decode cX6_readItem 11 = .ok (.getfield 15, 3) := by decide +kernel
theorem dX6_readItem_14 : decode cX6_readItem 14 = .ok (.iconst 1, 1) := by decide +kernel
theorem dX6_readItem_15 : decode cX6_readItem 15 = .ok (.iadd, 1) := by decide +kernel
theorem dX6_readItem_16 : decode cX6_readItem 16 = .ok (.putfield 15, 3) := by decide +kernel
theorem dX6_readItem_19 : decode cX6_readItem 19 = .ok (.iload_n 3, 1) := by decide +kernel
theorem dX6_readItem_20 : decode cX6_readItem 20 = .ok (.tableswitch 158 111 115 #[98, 36, 158, 158, 128], 36) := by decide +kernel
theorem dX6_readItem_56 : decode cX6_readItem 56 = .ok (.aload_n 0, 1) := by decide +kernel
theorem dX6_readItem_57 : decode cX6_readItem 57 = .ok (.aload_n 1, 1) := by decide +kernel
theorem dX6_readItem_58 : decode cX6_readItem 58 = .ok (.iconst 5, 1) := by decide +kernel
theorem dX6_readItem_59 : decode cX6_readItem 59 = .ok (.invokevirtual 37, 3) := by decide +kernel
theorem dX6_readItem_62 : decode cX6_readItem 62 = .ok (.ifCond .eq 54, 3) := by decide +kernel
theorem dX6_readItem_65 : decode cX6_readItem 65 = .ok (.aload_n 2, 1) := by decide +kernel
theorem dX6_readItem_66 : decode cX6_readItem 66 = .ok (.aload_n 0, 1) := by decide +kernel
theorem dX6_readItem_67 : decode cX6_readItem 67 = .ok (.getfield 9, 3) := by decide +kernel
theorem dX6_readItem_70 : decode cX6_readItem 70 = .ok (.iconst 0, 1) := by decide +kernel
theorem dX6_readItem_71 : decode cX6_readItem 71 = .ok (.invokestatic 41, 3) := by decide +kernel
theorem dX6_readItem_74 : decode cX6_readItem 74 = .ok (.aload_n 0, 1) := by decide +kernel
theorem dX6_readItem_75 : decode cX6_readItem 75 = .ok (.getfield 9, 3) := by decide +kernel
theorem dX6_readItem_78 : decode cX6_readItem 78 = .ok (.iconst 1, 1) := by decide +kernel
theorem dX6_readItem_79 : decode cX6_readItem 79 = .ok (.invokestatic 41, 3) := by decide +kernel
theorem dX6_readItem_82 : decode cX6_readItem 82 = .ok (.aload_n 0, 1) := by decide +kernel
theorem dX6_readItem_83 : decode cX6_readItem 83 = .ok (.getfield 9, 3) := by decide +kernel
theorem dX6_readItem_86 : decode cX6_readItem 86 = .ok (.iconst 2, 1) := by decide +kernel
theorem dX6_readItem_87 : decode cX6_readItem 87 = .ok (.invokestatic 41, 3) := by decide +kernel
theorem dX6_readItem_90 : decode cX6_readItem 90 = .ok (.aload_n 0, 1) := by decide +kernel
theorem dX6_readItem_91 : decode cX6_readItem 91 = .ok (.getfield 9, 3) := by decide +kernel
theorem dX6_readItem_94 : decode cX6_readItem 94 = .ok (.iconst 3, 1) := by decide +kernel
theorem dX6_readItem_95 : decode cX6_readItem 95 = .ok (.invokestatic 41, 3) := by decide +kernel
theorem dX6_readItem_98 : decode cX6_readItem 98 = .ok (.aload_n 0, 1) := by decide +kernel
theorem dX6_readItem_99 : decode cX6_readItem 99 = .ok (.getfield 9, 3) := by decide +kernel
theorem dX6_readItem_102 : decode cX6_readItem 102 = .ok (.iconst 4, 1) := by decide +kernel
theorem dX6_readItem_103 : decode cX6_readItem 103 = .ok (.invokestatic 41, 3) := by decide +kernel
theorem dX6_readItem_106 : decode cX6_readItem 106 = .ok (.invokevirtual 45, 3) := by decide +kernel
theorem dX6_readItem_109 : decode cX6_readItem 109 = .ok (.ifCond .eq 7, 3) := by decide +kernel
theorem dX6_readItem_112 : decode cX6_readItem 112 = .ok (.iconst 1, 1) := by decide +kernel
theorem dX6_readItem_113 : decode cX6_readItem 113 = .ok (.goto 4, 3) := by decide +kernel
theorem dX6_readItem_116 : decode cX6_readItem 116 = .ok (.iconst 0, 1) := by decide +kernel
theorem dX6_readItem_117 : decode cX6_readItem 117 = .ok (.ireturn, 1) := by decide +kernel
theorem dX6_readItem_118 : decode cX6_readItem 118 = .ok (.aload_n 0, 1) := by decide +kernel
theorem dX6_readItem_119 : decode cX6_readItem 119 = .ok (.aload_n 1, 1) := by decide +kernel
theorem dX6_readItem_120 : decode cX6_readItem 120 = .ok (.iconst 1, 1) := by decide +kernel
theorem dX6_readItem_121 : decode cX6_readItem 121 = .ok (.invokevirtual 37, 3) := by decide +kernel
theorem dX6_readItem_124 : decode cX6_readItem 124 = .ok (.ifCond .eq 22, 3) := by decide +kernel
theorem dX6_readItem_127 : decode cX6_readItem 127 = .ok (.aload_n 2, 1) := by decide +kernel
theorem dX6_readItem_128 : decode cX6_readItem 128 = .ok (.aload_n 0, 1) := by decide +kernel
theorem dX6_readItem_129 : decode cX6_readItem 129 = .ok (.getfield 9, 3) := by decide +kernel
theorem dX6_readItem_132 : decode cX6_readItem 132 = .ok (.iconst 0, 1) := by decide +kernel
theorem dX6_readItem_133 : decode cX6_readItem 133 = .ok (.invokestatic 41, 3) := by decide +kernel
theorem dX6_readItem_136 : decode cX6_readItem 136 = .ok (.invokevirtual 49, 3) := by decide +kernel
theorem dX6_readItem_139 : decode cX6_readItem 139 = .ok (.ifCond .eq 7, 3) := by decide +kernel
theorem dX6_readItem_142 : decode cX6_readItem 142 = .ok (.iconst 1, 1) := by decide +kernel
theorem dX6_readItem_143 : decode cX6_readItem 143 = .ok (.goto 4, 3) := by decide +kernel
theorem dX6_readItem_146 : decode cX6_readItem 146 = .ok (.iconst 0, 1) := by decide +kernel
theorem dX6_readItem_147 : decode cX6_readItem 147 = .ok (.ireturn, 1) := by decide +kernel
theorem dX6_readItem_148 : decode cX6_readItem 148 = .ok (.aload_n 0, 1) := by decide +kernel
theorem dX6_readItem_149 : decode cX6_readItem 149 = .ok (.aload_n 1, 1) := by decide +kernel
theorem dX6_readItem_150 : decode cX6_readItem 150 = .ok (.iconst 1, 1) := by decide +kernel
theorem dX6_readItem_151 : decode cX6_readItem 151 = .ok (.invokevirtual 37, 3) := by decide +kernel
theorem dX6_readItem_154 : decode cX6_readItem 154 = .ok (.ifCond .eq 22, 3) := by decide +kernel
theorem dX6_readItem_157 : decode cX6_readItem 157 = .ok (.aload_n 2, 1) := by decide +kernel
theorem dX6_readItem_158 : decode cX6_readItem 158 = .ok (.aload_n 0, 1) := by decide +kernel
theorem dX6_readItem_159 : decode cX6_readItem 159 = .ok (.getfield 9, 3) := by decide +kernel
theorem dX6_readItem_162 : decode cX6_readItem 162 = .ok (.iconst 0, 1) := by decide +kernel
theorem dX6_readItem_163 : decode cX6_readItem 163 = .ok (.invokestatic 41, 3) := by decide +kernel
theorem dX6_readItem_166 : decode cX6_readItem 166 = .ok (.invokevirtual 53, 3) := by decide +kernel
theorem dX6_readItem_169 : decode cX6_readItem 169 = .ok (.ifCond .eq 7, 3) := by decide +kernel
theorem dX6_readItem_172 : decode cX6_readItem 172 = .ok (.iconst 1, 1) := by decide +kernel
theorem dX6_readItem_173 : decode cX6_readItem 173 = .ok (.goto 4, 3) := by decide +kernel
theorem dX6_readItem_176 : decode cX6_readItem 176 = .ok (.iconst 0, 1) := by decide +kernel
theorem dX6_readItem_177 : decode cX6_readItem 177 = .ok (.ireturn, 1) := by decide +kernel
theorem dX6_readItem_178 : decode cX6_readItem 178 = .ok (.iconst 0, 1) := by decide +kernel
theorem dX6_readItem_179 : decode cX6_readItem 179 = .ok (.ireturn, 1) := by decide +kernel
theorem dX6_readNumbers_0 : decode cX6_readNumbers 0 = .ok (.iconst 0, 1) := by decide +kernel
theorem dX6_readNumbers_1 : decode cX6_readNumbers 1 = .ok (.istore_n 3, 1) := by decide +kernel
theorem dX6_readNumbers_2 : decode cX6_readNumbers 2 = .ok (.iload_n 3, 1) := by decide +kernel
theorem dX6_readNumbers_3 : decode cX6_readNumbers 3 = .ok (.iload_n 2, 1) := by decide +kernel
theorem dX6_readNumbers_4 : decode cX6_readNumbers 4 = .ok (.if_icmp .ge 68, 3) := by decide +kernel
theorem dX6_readNumbers_7 : decode cX6_readNumbers 7 = .ok (.aload_n 0, 1) := by decide +kernel
theorem dX6_readNumbers_8 : decode cX6_readNumbers 8 = .ok (.aload_n 1, 1) := by decide +kernel
theorem dX6_readNumbers_9 : decode cX6_readNumbers 9 = .ok (.invokevirtual 56, 3) := by decide +kernel
theorem dX6_readNumbers_12 : decode cX6_readNumbers 12 = .ok (.istore 4, 2) := by decide +kernel
theorem dX6_readNumbers_14 : decode cX6_readNumbers 14 = .ok (.iload 4, 2) := by decide +kernel
theorem dX6_readNumbers_16 : decode cX6_readNumbers 16 = .ok (.ifCond .lt 28, 3) := by decide +kernel
theorem dX6_readNumbers_19 : decode cX6_readNumbers 19 = .ok (.aload_n 1, 1) := by decide +kernel
theorem dX6_readNumbers_20 : decode cX6_readNumbers 20 = .ok (.aload_n 0, 1) := by decide +kernel
theorem dX6_readNumbers_21 : decode cX6_readNumbers 21 = .ok (.getfield 15, 3) := by decide +kernel
theorem dX6_readNumbers_24 : decode cX6_readNumbers 24 = .ok (.invokevirtual 33, 3) := by decide +kernel
theorem dX6_readNumbers_27 : decode cX6_readNumbers 27 = .ok (.iload_n 3, 1) := by decide +kernel
theorem dX6_readNumbers_28 : decode cX6_readNumbers 28 = .ok (.iconst 1, 1) := by decide +kernel
theorem dX6_readNumbers_29 : decode cX6_readNumbers 29 = .ok (.iadd, 1) := by decide +kernel
theorem dX6_readNumbers_30 : decode cX6_readNumbers 30 = .ok (.iload_n 2, 1) := by decide +kernel
theorem dX6_readNumbers_31 : decode cX6_readNumbers 31 = .ok (.if_icmp .ge 8, 3) := by decide +kernel
theorem dX6_readNumbers_34 : decode cX6_readNumbers 34 = .ok (.bipush 44, 2) := by decide +kernel
theorem dX6_readNumbers_36 : decode cX6_readNumbers 36 = .ok (.goto 5, 3) := by decide +kernel
theorem dX6_readNumbers_39 : decode cX6_readNumbers 39 = .ok (.bipush 59, 2) := by decide +kernel
theorem dX6_readNumbers_41 : decode cX6_readNumbers 41 = .ok (.if_icmp .eq 5, 3) := by decide +kernel
theorem dX6_readNumbers_44 : decode cX6_readNumbers 44 = .ok (.iconst 0, 1) := by decide +kernel
theorem dX6_readNumbers_45 : decode cX6_readNumbers 45 = .ok (.ireturn, 1) := by decide +kernel
theorem dX6_readNumbers_46 : decode cX6_readNumbers 46 = .ok (.aload_n 0, 1) := by decide +kernel
theorem dX6_readNumbers_47 : decode cX6_readNumbers 47 = .ok (.dup, 1) := by decide +kernel
theorem dX6_readNumbers_48 : decode cX6_readNumbers 48 = .ok (.getfield 15, 3) := by decide +kernel
theorem dX6_readNumbers_51 : decode cX6_readNumbers 51 = .ok (.iconst 1, 1) := by decide +kernel
theorem dX6_readNumbers_52 : decode cX6_readNumbers 52 = .ok (.iadd, 1) := by decide +kernel
theorem dX6_readNumbers_53 : decode cX6_readNumbers 53 = .ok (.putfield 15, 3) := by decide +kernel
theorem dX6_readNumbers_56 : decode cX6_readNumbers 56 = .ok (.aload_n 0, 1) := by decide +kernel
theorem dX6_readNumbers_57 : decode cX6_readNumbers 57 = .ok (.getfield 9, 3) := by decide +kernel
theorem dX6_readNumbers_60 : decode cX6_readNumbers 60 = .ok (.iload_n 3, 1) := by decide +kernel
theorem dX6_readNumbers_61 : decode cX6_readNumbers 61 = .ok (.iload 4, 2) := by decide +kernel
theorem dX6_readNumbers_63 : decode cX6_readNumbers 63 = .ok (.invokestatic 60, 3) := by decide +kernel
theorem dX6_readNumbers_66 : decode cX6_readNumbers 66 = .ok (.iinc 3 1, 3) := by decide +kernel
theorem dX6_readNumbers_69 : decode cX6_readNumbers 69 = .ok (.goto (-67), 3) := by decide +kernel
theorem dX6_readNumbers_72 : decode cX6_readNumbers 72 = .ok (.iconst 1, 1) := by decide +kernel
theorem dX6_readNumbers_73 : decode cX6_readNumbers 73 = .ok (.ireturn, 1) := by decide +kernel
theorem dX6_readNumber_0 : decode cX6_readNumber 0 = .ok (.aload_n 1, 1) := by decide +kernel
theorem dX6_readNumber_1 : decode cX6_readNumber 1 = .ok (.aload_n 0, 1) := by decide +kernel
theorem dX6_readNumber_2 : decode cX6_readNumber 2 = .ok (.getfield 15, 3) := by decide +kernel
theorem dX6_readNumber_5 : decode cX6_readNumber 5 = .ok (.invokevirtual 33, 3) := by decide +kernel
theorem dX6_readNumber_8 : decode cX6_readNumber 8 = .ok (.invokestatic 64, 3) := by decide +kernel
theorem dX6_readNumber_11 : decode cX6_readNumber 11 = .ok (.istore_n 2, 1) := by decide +kernel
theorem dX6_readNumber_12 : decode cX6_readNumber 12 = .ok (.iload_n 2, 1) := by decide +kernel
theorem dX6_readNumber_13 : decode cX6_readNumber 13 = .ok (.ifCond .ge 5, 3) := by decide +kernel
theorem dX6_readNumber_16 : decode cX6_readNumber 16 = .ok (.iconst (-1), 1) := by decide +kernel
theorem dX6_readNumber_17 : decode cX6_readNumber 17 = .ok (.ireturn, 1) := by decide +kernel
theorem dX6_readNumber_18 : decode cX6_readNumber 18 = .ok (.aload_n 0, 1) := by decide +kernel
theorem dX6_readNumber_19 : decode cX6_readNumber 19 = .ok (.dup, 1) := by decide +kernel
theorem dX6_readNumber_20 : decode cX6_readNumber 20 = .ok (.getfield 15, 3) := by decide +kernel
theorem dX6_readNumber_23 : decode cX6_readNumber 23 = .ok (.iconst 1, 1) := by decide +kernel
theorem dX6_readNumber_24 : decode cX6_readNumber 24 = .ok (.iadd, 1) := by decide +kernel
theorem dX6_readNumber_25 : decode cX6_readNumber 25 = .ok (.putfield 15, 3) := by decide +kernel
theorem dX6_readNumber_28 : decode cX6_readNumber 28 = .ok (.aload_n 1, 1) := by decide +kernel
theorem dX6_readNumber_29 : decode cX6_readNumber 29 = .ok (.aload_n 0, 1) := by decide +kernel
theorem dX6_readNumber_30 : decode cX6_readNumber 30 = .ok (.getfield 15, 3) := by decide +kernel
theorem dX6_readNumber_33 : decode cX6_readNumber 33 = .ok (.invokevirtual 33, 3) := by decide +kernel
theorem dX6_readNumber_36 : decode cX6_readNumber 36 = .ok (.invokestatic 64, 3) := by decide +kernel
theorem dX6_readNumber_39 : decode cX6_readNumber 39 = .ok (.istore_n 3, 1) := by decide +kernel
theorem dX6_readNumber_40 : decode cX6_readNumber 40 = .ok (.iload_n 3, 1) := by decide +kernel
theorem dX6_readNumber_41 : decode cX6_readNumber 41 = .ok (.ifCond .ge 5, 3) := by decide +kernel
theorem dX6_readNumber_44 : decode cX6_readNumber 44 = .ok (.iload_n 2, 1) := by decide +kernel
theorem dX6_readNumber_45 : decode cX6_readNumber 45 = .ok (.ireturn, 1) := by decide +kernel
theorem dX6_readNumber_46 : decode cX6_readNumber 46 = .ok (.aload_n 0, 1) := by decide +kernel
theorem dX6_readNumber_47 : decode cX6_readNumber 47 = .ok (.dup, 1) := by decide +kernel
theorem dX6_readNumber_48 : decode cX6_readNumber 48 = .ok (.getfield 15, 3) := by decide +kernel
theorem dX6_readNumber_51 : decode cX6_readNumber 51 = .ok (.iconst 1, 1) := by decide +kernel
theorem dX6_readNumber_52 : decode cX6_readNumber 52 = .ok (.iadd, 1) := by decide +kernel
theorem dX6_readNumber_53 : decode cX6_readNumber 53 = .ok (.putfield 15, 3) := by decide +kernel
theorem dX6_readNumber_56 : decode cX6_readNumber 56 = .ok (.bipush 10, 2) := by decide +kernel
theorem dX6_readNumber_58 : decode cX6_readNumber 58 = .ok (.iload_n 2, 1) := by decide +kernel
theorem dX6_readNumber_59 : decode cX6_readNumber 59 = .ok (.imul, 1) := by decide +kernel
theorem dX6_readNumber_60 : decode cX6_readNumber 60 = .ok (.iload_n 3, 1) := by decide +kernel
theorem dX6_readNumber_61 : decode cX6_readNumber 61 = .ok (.iadd, 1) := by decide +kernel
theorem dX6_readNumber_62 : decode cX6_readNumber 62 = .ok (.ireturn, 1) := by decide +kernel
theorem dX6_figure_0 : decode cX6_figure 0 = .ok (.iload_n 0, 1) := by decide +kernel
theorem dX6_figure_1 : decode cX6_figure 1 = .ok (.bipush 48, 2) := by decide +kernel
theorem dX6_figure_3 : decode cX6_figure 3 = .ok (.if_icmp .lt 16, 3) := by decide +kernel
theorem dX6_figure_6 : decode cX6_figure 6 = .ok (.iload_n 0, 1) := by decide +kernel
theorem dX6_figure_7 : decode cX6_figure 7 = .ok (.bipush 57, 2) := by decide +kernel
theorem dX6_figure_9 : decode cX6_figure 9 = .ok (.if_icmp .gt 10, 3) := by decide +kernel
theorem dX6_figure_12 : decode cX6_figure 12 = .ok (.iload_n 0, 1) := by decide +kernel
theorem dX6_figure_13 : decode cX6_figure 13 = .ok (.bipush 48, 2) := by decide +kernel
theorem dX6_figure_15 : decode cX6_figure 15 = .ok (.isub, 1) := by decide +kernel
theorem dX6_figure_16 : decode cX6_figure 16 = .ok (.goto 4, 3) := by decide +kernel
theorem dX6_figure_19 : decode cX6_figure 19 = .ok (.iconst (-1), 1) := by decide +kernel
theorem dX6_figure_20 : decode cX6_figure 20 = .ok (.ireturn, 1) := by decide +kernel
theorem dX7_init_0 : decode cX7_init 0 = .ok (.aload_n 0, 1) := by decide +kernel
theorem dX7_init_1 : decode cX7_init 1 = .ok (.invokespecial 3, 3) := by decide +kernel
theorem dX7_init_4 : decode cX7_init 4 = .ok (.aload_n 0, 1) := by decide +kernel
theorem dX7_init_5 : decode cX7_init 5 = .ok (.bipush 8, 2) := by decide +kernel
theorem dX7_init_7 : decode cX7_init 7 = .ok (.newarray .int, 2) := by decide +kernel
theorem dX7_init_9 : decode cX7_init 9 = .ok (.putfield 9, 3) := by decide +kernel
theorem dX7_init_12 : decode cX7_init 12 = .ok (.aload_n 0, 1) := by decide +kernel
theorem dX7_init_13 : decode cX7_init 13 = .ok (.bipush 8, 2) := by decide +kernel
theorem dX7_init_15 : decode cX7_init 15 = .ok (.newarray .int, 2) := by decide +kernel
theorem dX7_init_17 : decode cX7_init 17 = .ok (.putfield 15, 3) := by decide +kernel
theorem dX7_init_20 : decode cX7_init 20 = .ok (.aload_n 0, 1) := by decide +kernel
theorem dX7_init_21 : decode cX7_init 21 = .ok (.bipush 8, 2) := by decide +kernel
theorem dX7_init_23 : decode cX7_init 23 = .ok (.newarray .boolean, 2) := by decide +kernel
theorem dX7_init_25 : decode cX7_init 25 = .ok (.putfield 18, 3) := by decide +kernel
theorem dX7_init_28 : decode cX7_init 28 = .ok (.aload_n 0, 1) := by decide +kernel
theorem dX7_init_29 : decode cX7_init 29 = .ok (.iconst 0, 1) := by decide +kernel
theorem dX7_init_30 : decode cX7_init 30 = .ok (.putfield 22, 3) := by decide +kernel
theorem dX7_init_33 : decode cX7_init 33 = .ok (.return_, 1) := by decide +kernel
theorem dX7_add_0 : decode cX7_add 0 = .ok (.aload_n 0, 1) := by decide +kernel
theorem dX7_add_1 : decode cX7_add 1 = .ok (.getfield 22, 3) := by decide +kernel
theorem dX7_add_4 : decode cX7_add 4 = .ok (.ifCond .lt 15, 3) := by decide +kernel
theorem dX7_add_7 : decode cX7_add 7 = .ok (.aload_n 0, 1) := by decide +kernel
theorem dX7_add_8 : decode cX7_add 8 = .ok (.getfield 22, 3) := by decide +kernel
theorem dX7_add_11 : decode cX7_add 11 = .ok (.aload_n 0, 1) := by decide +kernel
theorem dX7_add_12 : decode cX7_add 12 = .ok (.getfield 18, 3) := by decide +kernel
theorem dX7_add_15 : decode cX7_add 15 = .ok (.arraylength, 1) := by decide +kernel
theorem dX7_add_16 : decode cX7_add 16 = .ok (.if_icmp .lt 4, 3) := by decide +kernel
theorem dX7_add_19 : decode cX7_add 19 = .ok (.return_, 1) := by decide +kernel
theorem dX7_add_20 : decode cX7_add 20 = .ok (.aload_n 0, 1) := by decide +kernel
theorem dX7_add_21 : decode cX7_add 21 = .ok (.getfield 9, 3) := by decide +kernel
theorem dX7_add_24 : decode cX7_add 24 = .ok (.aload_n 0, 1) := by decide +kernel
theorem dX7_add_25 : decode cX7_add 25 = .ok (.getfield 22, 3) := by decide +kernel
theorem dX7_add_28 : decode cX7_add 28 = .ok (.iload_n 1, 1) := by decide +kernel
theorem dX7_add_29 : decode cX7_add 29 = .ok (.invokestatic 26, 3) := by decide +kernel
theorem dX7_add_32 : decode cX7_add 32 = .ok (.aload_n 0, 1) := by decide +kernel
theorem dX7_add_33 : decode cX7_add 33 = .ok (.getfield 15, 3) := by decide +kernel
theorem dX7_add_36 : decode cX7_add 36 = .ok (.aload_n 0, 1) := by decide +kernel
theorem dX7_add_37 : decode cX7_add 37 = .ok (.getfield 22, 3) := by decide +kernel
theorem dX7_add_40 : decode cX7_add 40 = .ok (.iload_n 2, 1) := by decide +kernel
theorem dX7_add_41 : decode cX7_add 41 = .ok (.invokestatic 26, 3) := by decide +kernel
theorem dX7_add_44 : decode cX7_add 44 = .ok (.aload_n 0, 1) := by decide +kernel
theorem dX7_add_45 : decode cX7_add 45 = .ok (.getfield 18, 3) := by decide +kernel
theorem dX7_add_48 : decode cX7_add 48 = .ok (.aload_n 0, 1) := by decide +kernel
theorem dX7_add_49 : decode cX7_add 49 = .ok (.getfield 22, 3) := by decide +kernel
theorem dX7_add_52 : decode cX7_add 52 = .ok (.iload_n 3, 1) := by decide +kernel
theorem dX7_add_53 : decode cX7_add 53 = .ok (.bastore, 1) := by decide +kernel
theorem dX7_add_54 : decode cX7_add 54 = .ok (.aload_n 0, 1) := by decide +kernel
theorem dX7_add_55 : decode cX7_add 55 = .ok (.dup, 1) := by decide +kernel
theorem dX7_add_56 : decode cX7_add 56 = .ok (.getfield 22, 3) := by decide +kernel
theorem dX7_add_59 : decode cX7_add 59 = .ok (.iconst 1, 1) := by decide +kernel
theorem dX7_add_60 : decode cX7_add 60 = .ok (.iadd, 1) := by decide +kernel
theorem dX7_add_61 : decode cX7_add 61 = .ok (.putfield 22, 3) := by decide +kernel
theorem dX7_add_64 : decode cX7_add 64 = .ok (.return_, 1) := by decide +kernel
theorem dX7_fit_0 : decode cX7_fit 0 = .ok (.iconst 0, 1) := by decide +kernel
theorem dX7_fit_1 : decode cX7_fit 1 = .ok (.istore 4, 2) := by decide +kernel
theorem dX7_fit_3 : decode cX7_fit 3 = .ok (.iload 4, 2) := by decide +kernel
theorem dX7_fit_5 : decode cX7_fit 5 = .ok (.aload_n 0, 1) := by decide +kernel
theorem dX7_fit_6 : decode cX7_fit 6 = .ok (.getfield 22, 3) := by decide +kernel
theorem dX7_fit_9 : decode cX7_fit 9 = .ok (.if_icmp .ge 89, 3) := by decide +kernel
theorem dX7_fit_12 : decode cX7_fit 12 = .ok (.iload 4, 2) := by decide +kernel
theorem dX7_fit_14 : decode cX7_fit 14 = .ok (.aload_n 0, 1) := by decide +kernel
theorem dX7_fit_15 : decode cX7_fit 15 = .ok (.getfield 18, 3) := by decide +kernel
theorem dX7_fit_18 : decode cX7_fit 18 = .ok (.arraylength, 1) := by decide +kernel
theorem dX7_fit_19 : decode cX7_fit 19 = .ok (.if_icmp .ge 79, 3) := by decide +kernel
theorem dX7_fit_22 : decode cX7_fit 22 = .ok (.aload_n 0, 1) := by decide +kernel
theorem dX7_fit_23 : decode cX7_fit 23 = .ok (.getfield 15, 3) := by decide +kernel
theorem dX7_fit_26 : decode cX7_fit 26 = .ok (.iload 4, 2) := by decide +kernel
theorem dX7_fit_28 : decode cX7_fit 28 = .ok (.invokestatic 30, 3) := by decide +kernel
theorem dX7_fit_31 : decode cX7_fit 31 = .ok (.istore 5, 2) := by decide +kernel
theorem dX7_fit_33 : decode cX7_fit 33 = .ok (.aload_n 3, 1) := by decide +kernel
theorem dX7_fit_34 : decode cX7_fit 34 = .ok (.iload_n 1, 1) := by decide +kernel
theorem dX7_fit_35 : decode cX7_fit 35 = .ok (.iconst 0, 1) := by decide +kernel
theorem dX7_fit_36 : decode cX7_fit 36 = .ok (.invokevirtual 34, 3) := by decide +kernel
theorem dX7_fit_39 : decode cX7_fit 39 = .ok (.iload_n 2, 1) := by decide +kernel
theorem dX7_fit_40 : decode cX7_fit 40 = .ok (.aload_n 3, 1) := by decide +kernel
theorem dX7_fit_41 : decode cX7_fit 41 = .ok (.iload_n 1, 1) := by decide +kernel
theorem dX7_fit_42 : decode cX7_fit 42 = .ok (.iconst 2, 1) := by decide +kernel
theorem dX7_fit_43 : decode cX7_fit 43 = .ok (.invokevirtual 34, 3) := by decide +kernel
theorem dX7_fit_46 : decode cX7_fit 46 = .ok (.bipush 50, 2) := by decide +kernel
theorem dX7_fit_48 : decode cX7_fit 48 = .ok (.iload 5, 2) := by decide +kernel
theorem dX7_fit_50 : decode cX7_fit 50 = .ok (.invokestatic 40, 3) := by decide +kernel
theorem dX7_fit_53 : decode cX7_fit 53 = .ok (.istore 6, 2) := by decide +kernel
theorem dX7_fit_55 : decode cX7_fit 55 = .ok (.aload_n 0, 1) := by decide +kernel
theorem dX7_fit_56 : decode cX7_fit 56 = .ok (.getfield 9, 3) := by decide +kernel
theorem dX7_fit_59 : decode cX7_fit 59 = .ok (.iload 4, 2) := by decide +kernel
theorem dX7_fit_61 : decode cX7_fit 61 = .ok (.invokestatic 30, 3) := by decide +kernel
theorem dX7_fit_64 : decode cX7_fit 64 = .ok (.iload_n 1, 1) := by decide +kernel
theorem dX7_fit_65 : decode cX7_fit 65 = .ok (.if_icmp .ne 27, 3) := by decide +kernel
theorem dX7_fit_68 : decode cX7_fit 68 = .ok (.iload 6, 2) := by decide +kernel
theorem dX7_fit_70 : decode cX7_fit 70 = .ok (.iload 5, 2) := by decide +kernel
theorem dX7_fit_72 : decode cX7_fit 72 = .ok (.if_icmp .le 7, 3) := by decide +kernel
theorem dX7_fit_75 : decode cX7_fit 75 = .ok (.iconst 1, 1) := by decide +kernel
theorem dX7_fit_76 : decode cX7_fit 76 = .ok (.goto 4, 3) := by decide +kernel
theorem dX7_fit_79 : decode cX7_fit 79 = .ok (.iconst 0, 1) := by decide +kernel
theorem dX7_fit_80 : decode cX7_fit 80 = .ok (.aload_n 0, 1) := by decide +kernel
theorem dX7_fit_81 : decode cX7_fit 81 = .ok (.getfield 18, 3) := by decide +kernel
theorem dX7_fit_84 : decode cX7_fit 84 = .ok (.iload 4, 2) := by decide +kernel
theorem dX7_fit_86 : decode cX7_fit 86 = .ok (.baload, 1) := by decide +kernel
theorem dX7_fit_87 : decode cX7_fit 87 = .ok (.if_icmp .eq 5, 3) := by decide +kernel
theorem dX7_fit_90 : decode cX7_fit 90 = .ok (.iconst 0, 1) := by decide +kernel
theorem dX7_fit_91 : decode cX7_fit 91 = .ok (.ireturn, 1) := by decide +kernel
theorem dX7_fit_92 : decode cX7_fit 92 = .ok (.iinc 4 1, 3) := by decide +kernel
theorem dX7_fit_95 : decode cX7_fit 95 = .ok (.goto (-92), 3) := by decide +kernel
theorem dX7_fit_98 : decode cX7_fit 98 = .ok (.iconst 1, 1) := by decide +kernel
theorem dX7_fit_99 : decode cX7_fit 99 = .ok (.ireturn, 1) := by decide +kernel
theorem dX8_init_0 : decode cX8_init 0 = .ok (.aload_n 0, 1) := by decide +kernel
theorem dX8_init_1 : decode cX8_init 1 = .ok (.invokespecial 3, 3) := by decide +kernel
theorem dX8_init_4 : decode cX8_init 4 = .ok (.aload_n 0, 1) := by decide +kernel
theorem dX8_init_5 : decode cX8_init 5 = .ok (.sipush 300, 3) := by decide +kernel
theorem dX8_init_8 : decode cX8_init 8 = .ok (.newarray .byte, 2) := by decide +kernel
theorem dX8_init_10 : decode cX8_init 10 = .ok (.putfield 9, 3) := by decide +kernel
theorem dX8_init_13 : decode cX8_init 13 = .ok (.aload_n 0, 1) := by decide +kernel
theorem dX8_init_14 : decode cX8_init 14 = .ok (.iconst 0, 1) := by decide +kernel
theorem dX8_init_15 : decode cX8_init 15 = .ok (.putfield 15, 3) := by decide +kernel
theorem dX8_init_18 : decode cX8_init 18 = .ok (.return_, 1) := by decide +kernel
theorem dX8_hasRoomFor_0 : decode cX8_hasRoomFor 0 = .ok (.aload_n 0, 1) := by decide +kernel
theorem dX8_hasRoomFor_1 : decode cX8_hasRoomFor 1 = .ok (.getfield 15, 3) := by decide +kernel
theorem dX8_hasRoomFor_4 : decode cX8_hasRoomFor 4 = .ok (.iload_n 1, 1) := by decide +kernel
theorem dX8_hasRoomFor_5 : decode cX8_hasRoomFor 5 = .ok (.iadd, 1) := by decide +kernel
theorem dX8_hasRoomFor_6 : decode cX8_hasRoomFor 6 = .ok (.sipush 300, 3) := by decide +kernel
theorem dX8_hasRoomFor_9 : decode cX8_hasRoomFor 9 = .ok (.if_icmp .gt 7, 3) := by decide +kernel
theorem dX8_hasRoomFor_12 : decode cX8_hasRoomFor 12 = .ok (.iconst 1, 1) := by decide +kernel
theorem dX8_hasRoomFor_13 : decode cX8_hasRoomFor 13 = .ok (.goto 4, 3) := by decide +kernel
theorem dX8_hasRoomFor_16 : decode cX8_hasRoomFor 16 = .ok (.iconst 0, 1) := by decide +kernel
theorem dX8_hasRoomFor_17 : decode cX8_hasRoomFor 17 = .ok (.ireturn, 1) := by decide +kernel
theorem dX8_append_0 : decode cX8_append 0 = .ok (.aload_n 0, 1) := by decide +kernel
theorem dX8_append_1 : decode cX8_append 1 = .ok (.getfield 15, 3) := by decide +kernel
theorem dX8_append_4 : decode cX8_append 4 = .ok (.ifCond .lt 36, 3) := by decide +kernel
theorem dX8_append_7 : decode cX8_append 7 = .ok (.aload_n 0, 1) := by decide +kernel
theorem dX8_append_8 : decode cX8_append 8 = .ok (.getfield 15, 3) := by decide +kernel
theorem dX8_append_11 : decode cX8_append 11 = .ok (.aload_n 0, 1) := by decide +kernel
theorem dX8_append_12 : decode cX8_append 12 = .ok (.getfield 9, 3) := by decide +kernel
theorem dX8_append_15 : decode cX8_append 15 = .ok (.arraylength, 1) := by decide +kernel
theorem dX8_append_16 : decode cX8_append 16 = .ok (.if_icmp .ge 24, 3) := by decide +kernel
theorem dX8_append_19 : decode cX8_append 19 = .ok (.aload_n 0, 1) := by decide +kernel
theorem dX8_append_20 : decode cX8_append 20 = .ok (.getfield 9, 3) := by decide +kernel
theorem dX8_append_23 : decode cX8_append 23 = .ok (.aload_n 0, 1) := by decide +kernel
theorem dX8_append_24 : decode cX8_append 24 = .ok (.getfield 15, 3) := by decide +kernel
theorem dX8_append_27 : decode cX8_append 27 = .ok (.iload_n 1, 1) := by decide +kernel
theorem dX8_append_28 : decode cX8_append 28 = .ok (.i2b, 1) := by decide +kernel
theorem dX8_append_29 : decode cX8_append 29 = .ok (.bastore, 1) := by decide +kernel
theorem dX8_append_30 : decode cX8_append 30 = .ok (.aload_n 0, 1) := by decide +kernel
theorem dX8_append_31 : decode cX8_append 31 = .ok (.dup, 1) := by decide +kernel
theorem dX8_append_32 : decode cX8_append 32 = .ok (.getfield 15, 3) := by decide +kernel
theorem dX8_append_35 : decode cX8_append 35 = .ok (.iconst 1, 1) := by decide +kernel
theorem dX8_append_36 : decode cX8_append 36 = .ok (.iadd, 1) := by decide +kernel
theorem dX8_append_37 : decode cX8_append 37 = .ok (.putfield 15, 3) := by decide +kernel
theorem dX8_append_40 : decode cX8_append 40 = .ok (.return_, 1) := by decide +kernel
theorem dX8_byteAt_0 : decode cX8_byteAt 0 = .ok (.iload_n 1, 1) := by decide +kernel
theorem dX8_byteAt_1 : decode cX8_byteAt 1 = .ok (.ifCond .lt 33, 3) := by decide +kernel
theorem dX8_byteAt_4 : decode cX8_byteAt 4 = .ok (.iload_n 1, 1) := by decide +kernel
theorem dX8_byteAt_5 : decode cX8_byteAt 5 = .ok (.aload_n 0, 1) := by decide +kernel
theorem dX8_byteAt_6 : decode cX8_byteAt 6 = .ok (.getfield 15, 3) := by decide +kernel
theorem dX8_byteAt_9 : decode cX8_byteAt 9 = .ok (.if_icmp .ge 25, 3) := by decide +kernel
theorem dX8_byteAt_12 : decode cX8_byteAt 12 = .ok (.iload_n 1, 1) := by decide +kernel
theorem dX8_byteAt_13 : decode cX8_byteAt 13 = .ok (.aload_n 0, 1) := by decide +kernel
theorem dX8_byteAt_14 : decode cX8_byteAt 14 = .ok (.getfield 9, 3) := by decide +kernel
theorem dX8_byteAt_17 : decode cX8_byteAt 17 = .ok (.arraylength, 1) := by decide +kernel
theorem dX8_byteAt_18 : decode cX8_byteAt 18 = .ok (.if_icmp .ge 16, 3) := by decide +kernel
theorem dX8_byteAt_21 : decode cX8_byteAt 21 = .ok (.aload_n 0, 1) := by decide +kernel
theorem dX8_byteAt_22 : decode cX8_byteAt 22 = .ok (.getfield 9, 3) := by decide +kernel
theorem dX8_byteAt_25 : decode cX8_byteAt 25 = .ok (.iload_n 1, 1) := by decide +kernel
theorem dX8_byteAt_26 : decode cX8_byteAt 26 = .ok (.baload, 1) := by decide +kernel
theorem dX8_byteAt_27 : decode cX8_byteAt 27 = .ok (.sipush 255, 3) := by decide +kernel
theorem dX8_byteAt_30 : decode cX8_byteAt 30 = .ok (.iand, 1) := by decide +kernel
theorem dX8_byteAt_31 : decode cX8_byteAt 31 = .ok (.goto 4, 3) := by decide +kernel
theorem dX8_byteAt_34 : decode cX8_byteAt 34 = .ok (.iconst (-1), 1) := by decide +kernel
theorem dX8_byteAt_35 : decode cX8_byteAt 35 = .ok (.ireturn, 1) := by decide +kernel
theorem dX8_empty_0 : decode cX8_empty 0 = .ok (.aload_n 0, 1) := by decide +kernel
theorem dX8_empty_1 : decode cX8_empty 1 = .ok (.getfield 15, 3) := by decide +kernel
theorem dX8_empty_4 : decode cX8_empty 4 = .ok (.istore_n 1, 1) := by decide +kernel
theorem dX8_empty_5 : decode cX8_empty 5 = .ok (.aload_n 0, 1) := by decide +kernel
theorem dX8_empty_6 : decode cX8_empty 6 = .ok (.iconst 0, 1) := by decide +kernel
theorem dX8_empty_7 : decode cX8_empty 7 = .ok (.putfield 15, 3) := by decide +kernel
theorem dX8_empty_10 : decode cX8_empty 10 = .ok (.iload_n 1, 1) := by decide +kernel
theorem dX8_empty_11 : decode cX8_empty 11 = .ok (.ireturn, 1) := by decide +kernel
theorem dX9_init_0 : decode cX9_init 0 = .ok (.aload_n 0, 1) := by decide +kernel
theorem dX9_init_1 : decode cX9_init 1 = .ok (.invokespecial 1, 3) := by decide +kernel
theorem dX9_init_4 : decode cX9_init 4 = .ok (.aload_n 0, 1) := by decide +kernel
theorem dX9_init_5 : decode cX9_init 5 = .ok (.new 7, 3) := by decide +kernel
theorem dX9_init_8 : decode cX9_init 8 = .ok (.dup, 1) := by decide +kernel
theorem dX9_init_9 : decode cX9_init 9 = .ok (.invokespecial 9, 3) := by decide +kernel
theorem dX9_init_12 : decode cX9_init 12 = .ok (.putfield 10, 3) := by decide +kernel
theorem dX9_init_15 : decode cX9_init 15 = .ok (.aload_n 0, 1) := by decide +kernel
theorem dX9_init_16 : decode cX9_init 16 = .ok (.new 16, 3) := by decide +kernel
theorem dX9_init_19 : decode cX9_init 19 = .ok (.dup, 1) := by decide +kernel
theorem dX9_init_20 : decode cX9_init 20 = .ok (.invokespecial 18, 3) := by decide +kernel
theorem dX9_init_23 : decode cX9_init 23 = .ok (.putfield 19, 3) := by decide +kernel
theorem dX9_init_26 : decode cX9_init 26 = .ok (.aload_n 0, 1) := by decide +kernel
theorem dX9_init_27 : decode cX9_init 27 = .ok (.new 23, 3) := by decide +kernel
theorem dX9_init_30 : decode cX9_init 30 = .ok (.dup, 1) := by decide +kernel
theorem dX9_init_31 : decode cX9_init 31 = .ok (.invokespecial 25, 3) := by decide +kernel
theorem dX9_init_34 : decode cX9_init 34 = .ok (.putfield 26, 3) := by decide +kernel
theorem dX9_init_37 : decode cX9_init 37 = .ok (.aload_n 0, 1) := by decide +kernel
theorem dX9_init_38 : decode cX9_init 38 = .ok (.new 30, 3) := by decide +kernel
theorem dX9_init_41 : decode cX9_init 41 = .ok (.dup, 1) := by decide +kernel
theorem dX9_init_42 : decode cX9_init 42 = .ok (.invokespecial 32, 3) := by decide +kernel
theorem dX9_init_45 : decode cX9_init 45 = .ok (.putfield 33, 3) := by decide +kernel
theorem dX9_init_48 : decode cX9_init 48 = .ok (.aload_n 0, 1) := by decide +kernel
theorem dX9_init_49 : decode cX9_init 49 = .ok (.new 37, 3) := by decide +kernel
theorem dX9_init_52 : decode cX9_init 52 = .ok (.dup, 1) := by decide +kernel
theorem dX9_init_53 : decode cX9_init 53 = .ok (.aload_n 0, 1) := by decide +kernel
theorem dX9_init_54 : decode cX9_init 54 = .ok (.getfield 33, 3) := by decide +kernel
theorem dX9_init_57 : decode cX9_init 57 = .ok (.invokespecial 39, 3) := by decide +kernel
theorem dX9_init_60 : decode cX9_init 60 = .ok (.putfield 42, 3) := by decide +kernel
theorem dX9_init_63 : decode cX9_init 63 = .ok (.aload_n 0, 1) := by decide +kernel
theorem dX9_init_64 : decode cX9_init 64 = .ok (.new 46, 3) := by decide +kernel
theorem dX9_init_67 : decode cX9_init 67 = .ok (.dup, 1) := by decide +kernel
theorem dX9_init_68 : decode cX9_init 68 = .ok (.aload_n 0, 1) := by decide +kernel
theorem dX9_init_69 : decode cX9_init 69 = .ok (.getfield 33, 3) := by decide +kernel
theorem dX9_init_72 : decode cX9_init 72 = .ok (.invokespecial 48, 3) := by decide +kernel
theorem dX9_init_75 : decode cX9_init 75 = .ok (.putfield 49, 3) := by decide +kernel
theorem dX9_init_78 : decode cX9_init 78 = .ok (.aload_n 0, 1) := by decide +kernel
theorem dX9_init_79 : decode cX9_init 79 = .ok (.new 53, 3) := by decide +kernel
theorem dX9_init_82 : decode cX9_init 82 = .ok (.dup, 1) := by decide +kernel
theorem dX9_init_83 : decode cX9_init 83 = .ok (.invokespecial 55, 3) := by decide +kernel
theorem dX9_init_86 : decode cX9_init 86 = .ok (.putfield 56, 3) := by decide +kernel
theorem dX9_init_89 : decode cX9_init 89 = .ok (.aload_n 0, 1) := by decide +kernel
theorem dX9_init_90 : decode cX9_init 90 = .ok (.new 60, 3) := by decide +kernel
theorem dX9_init_93 : decode cX9_init 93 = .ok (.dup, 1) := by decide +kernel
theorem dX9_init_94 : decode cX9_init 94 = .ok (.bipush 8, 2) := by decide +kernel
theorem dX9_init_96 : decode cX9_init 96 = .ok (.invokespecial 62, 3) := by decide +kernel
theorem dX9_init_99 : decode cX9_init 99 = .ok (.putfield 65, 3) := by decide +kernel
theorem dX9_init_102 : decode cX9_init 102 = .ok (.aload_n 0, 1) := by decide +kernel
theorem dX9_init_103 : decode cX9_init 103 = .ok (.new 60, 3) := by decide +kernel
theorem dX9_init_106 : decode cX9_init 106 = .ok (.dup, 1) := by decide +kernel
theorem dX9_init_107 : decode cX9_init 107 = .ok (.iconst 2, 1) := by decide +kernel
theorem dX9_init_108 : decode cX9_init 108 = .ok (.invokespecial 62, 3) := by decide +kernel
theorem dX9_init_111 : decode cX9_init 111 = .ok (.putfield 69, 3) := by decide +kernel
theorem dX9_init_114 : decode cX9_init 114 = .ok (.aload_n 0, 1) := by decide +kernel
theorem dX9_init_115 : decode cX9_init 115 = .ok (.new 72, 3) := by decide +kernel
theorem dX9_init_118 : decode cX9_init 118 = .ok (.dup, 1) := by decide +kernel
theorem dX9_init_119 : decode cX9_init 119 = .ok (.invokespecial 74, 3) := by decide +kernel
theorem dX9_init_122 : decode cX9_init 122 = .ok (.putfield 75, 3) := by decide +kernel
theorem dX9_init_125 : decode cX9_init 125 = .ok (.aload_n 0, 1) := by decide +kernel
theorem dX9_init_126 : decode cX9_init 126 = .ok (.getfield 26, 3) := by decide +kernel
theorem dX9_init_129 : decode cX9_init 129 = .ok (.iconst 0, 1) := by decide +kernel
theorem dX9_init_130 : decode cX9_init 130 = .ok (.bipush 9, 2) := by decide +kernel
theorem dX9_init_132 : decode cX9_init 132 = .ok (.bipush 9, 2) := by decide +kernel
theorem dX9_init_134 : decode cX9_init 134 = .ok (.iconst 0, 1) := by decide +kernel
theorem dX9_init_135 : decode cX9_init 135 = .ok (.bipush 9, 2) := by decide +kernel
theorem dX9_init_137 : decode cX9_init 137 = .ok (.invokevirtual 79, 3) := by decide +kernel
theorem dX9_init_140 : decode cX9_init 140 = .ok (.pop, 1) := by decide +kernel
theorem dX9_init_141 : decode cX9_init 141 = .ok (.aload_n 0, 1) := by decide +kernel
theorem dX9_init_142 : decode cX9_init 142 = .ok (.getfield 26, 3) := by decide +kernel
theorem dX9_init_145 : decode cX9_init 145 = .ok (.iconst 0, 1) := by decide +kernel
theorem dX9_init_146 : decode cX9_init 146 = .ok (.iconst 5, 1) := by decide +kernel
theorem dX9_init_147 : decode cX9_init 147 = .ok (.bipush 9, 2) := by decide +kernel
theorem dX9_init_149 : decode cX9_init 149 = .ok (.iconst 1, 1) := by decide +kernel
theorem dX9_init_150 : decode cX9_init 150 = .ok (.bipush 9, 2) := by decide +kernel
theorem dX9_init_152 : decode cX9_init 152 = .ok (.invokevirtual 79, 3) := by decide +kernel
theorem dX9_init_155 : decode cX9_init 155 = .ok (.pop, 1) := by decide +kernel
theorem dX9_init_156 : decode cX9_init 156 = .ok (.aload_n 0, 1) := by decide +kernel
theorem dX9_init_157 : decode cX9_init 157 = .ok (.getfield 26, 3) := by decide +kernel
theorem dX9_init_160 : decode cX9_init 160 = .ok (.iconst 2, 1) := by decide +kernel
theorem dX9_init_161 : decode cX9_init 161 = .ok (.bipush 7, 2) := by decide +kernel
theorem dX9_init_163 : decode cX9_init 163 = .ok (.bipush 9, 2) := by decide +kernel
theorem dX9_init_165 : decode cX9_init 165 = .ok (.iconst 2, 1) := by decide +kernel
theorem dX9_init_166 : decode cX9_init 166 = .ok (.bipush 9, 2) := by decide +kernel
theorem dX9_init_168 : decode cX9_init 168 = .ok (.invokevirtual 79, 3) := by decide +kernel
theorem dX9_init_171 : decode cX9_init 171 = .ok (.pop, 1) := by decide +kernel
theorem dX9_init_172 : decode cX9_init 172 = .ok (.aload_n 0, 1) := by decide +kernel
theorem dX9_init_173 : decode cX9_init 173 = .ok (.invokevirtual 83, 3) := by decide +kernel
theorem dX9_init_176 : decode cX9_init 176 = .ok (.return_, 1) := by decide +kernel
theorem dX9_write_0 : decode cX9_write 0 = .ok (.iload_n 1, 1) := by decide +kernel
theorem dX9_write_1 : decode cX9_write 1 = .ok (.iconst 1, 1) := by decide +kernel
theorem dX9_write_2 : decode cX9_write 2 = .ok (.if_icmp .lt 9, 3) := by decide +kernel
theorem dX9_write_5 : decode cX9_write 5 = .ok (.iload_n 1, 1) := by decide +kernel
theorem dX9_write_6 : decode cX9_write 6 = .ok (.bipush 8, 2) := by decide +kernel
theorem dX9_write_8 : decode cX9_write 8 = .ok (.if_icmp .le 5, 3) := by decide +kernel
theorem dX9_write_11 : decode cX9_write 11 = .ok (.iconst (-1), 1) := by decide +kernel
theorem dX9_write_12 : decode cX9_write 12 = .ok (.ireturn, 1) := by decide +kernel
theorem dX9_write_13 : decode cX9_write 13 = .ok (.aload_n 0, 1) := by decide +kernel
theorem dX9_write_14 : decode cX9_write 14 = .ok (.getfield 10, 3) := by decide +kernel
theorem dX9_write_17 : decode cX9_write 17 = .ok (.iload_n 1, 1) := by decide +kernel
theorem dX9_write_18 : decode cX9_write 18 = .ok (.invokevirtual 86, 3) := by decide +kernel
theorem dX9_write_21 : decode cX9_write 21 = .ok (.ifCond .ne 6, 3) := by decide +kernel
theorem dX9_write_24 : decode cX9_write 24 = .ok (.bipush (-3), 2) := by decide +kernel
theorem dX9_write_26 : decode cX9_write 26 = .ok (.ireturn, 1) := by decide +kernel
theorem dX9_write_27 : decode cX9_write 27 = .ok (.iload_n 1, 1) := by decide +kernel
theorem dX9_write_28 : decode cX9_write 28 = .ok (.iconst 1, 1) := by decide +kernel
theorem dX9_write_29 : decode cX9_write 29 = .ok (.isub, 1) := by decide +kernel
theorem dX9_write_30 : decode cX9_write 30 = .ok (.istore 4, 2) := by decide +kernel
theorem dX9_write_32 : decode cX9_write 32 = .ok (.iload 4, 2) := by decide +kernel
theorem dX9_write_34 : decode cX9_write 34 = .ok (.ifCond .lt 28, 3) := by decide +kernel
theorem dX9_write_37 : decode cX9_write 37 = .ok (.aload_n 0, 1) := by decide +kernel
theorem dX9_write_38 : decode cX9_write 38 = .ok (.getfield 10, 3) := by decide +kernel
theorem dX9_write_41 : decode cX9_write 41 = .ok (.lload_n 2, 1) := by decide +kernel
theorem dX9_write_42 : decode cX9_write 42 = .ok (.bipush 8, 2) := by decide +kernel
theorem dX9_write_44 : decode cX9_write 44 = .ok (.iload 4, 2) := by decide +kernel
theorem dX9_write_46 : decode cX9_write 46 = .ok (.imul, 1) := by decide +kernel
theorem dX9_write_47 : decode cX9_write 47 = .ok (.lushr, 1) := by decide +kernel
theorem dX9_write_48 : decode cX9_write 48 = .ok (.l2i, 1) := by decide +kernel
theorem dX9_write_49 : decode cX9_write 49 = .ok (.sipush 255, 3) := by decide +kernel
theorem dX9_write_52 : decode cX9_write 52 = .ok (.iand, 1) := by decide +kernel
theorem dX9_write_53 : decode cX9_write 53 = .ok (.invokevirtual 90, 3) := by decide +kernel
theorem dX9_write_56 : decode cX9_write 56 = .ok (.iinc 4 (-1), 3) := by decide +kernel
theorem dX9_write_59 : decode cX9_write 59 = .ok (.goto (-27), 3) := by decide +kernel
theorem dX9_write_62 : decode cX9_write 62 = .ok (.aload_n 0, 1) := by decide +kernel
theorem dX9_write_63 : decode cX9_write 63 = .ok (.getfield 10, 3) := by decide +kernel
theorem dX9_write_66 : decode cX9_write 66 = .ok (.getfield 93, 3) := by decide +kernel
theorem dX9_write_69 : decode cX9_write 69 = .ok (.ireturn, 1) := by decide +kernel
theorem dX9_wipe_0 : decode cX9_wipe 0 = .ok (.aload_n 0, 1) := by decide +kernel
theorem dX9_wipe_1 : decode cX9_wipe 1 = .ok (.getfield 10, 3) := by decide +kernel
theorem dX9_wipe_4 : decode cX9_wipe 4 = .ok (.invokevirtual 97, 3) := by decide +kernel
theorem dX9_wipe_7 : decode cX9_wipe 7 = .ok (.ireturn, 1) := by decide +kernel
theorem dX9_fault_0 : decode cX9_fault 0 = .ok (.aload_n 0, 1) := by decide +kernel
theorem dX9_fault_1 : decode cX9_fault 1 = .ok (.getfield 19, 3) := by decide +kernel
theorem dX9_fault_4 : decode cX9_fault 4 = .ok (.aload_n 0, 1) := by decide +kernel
theorem dX9_fault_5 : decode cX9_fault 5 = .ok (.getfield 10, 3) := by decide +kernel
theorem dX9_fault_8 : decode cX9_fault 8 = .ok (.aload_n 0, 1) := by decide +kernel
theorem dX9_fault_9 : decode cX9_fault 9 = .ok (.getfield 26, 3) := by decide +kernel
theorem dX9_fault_12 : decode cX9_fault 12 = .ok (.invokevirtual 101, 3) := by decide +kernel
theorem dX9_fault_15 : decode cX9_fault 15 = .ok (.ireturn, 1) := by decide +kernel
theorem dX9_lay_0 : decode cX9_lay 0 = .ok (.aload_n 0, 1) := by decide +kernel
theorem dX9_lay_1 : decode cX9_lay 1 = .ok (.getfield 19, 3) := by decide +kernel
theorem dX9_lay_4 : decode cX9_lay 4 = .ok (.aload_n 0, 1) := by decide +kernel
theorem dX9_lay_5 : decode cX9_lay 5 = .ok (.getfield 10, 3) := by decide +kernel
theorem dX9_lay_8 : decode cX9_lay 8 = .ok (.aload_n 0, 1) := by decide +kernel
theorem dX9_lay_9 : decode cX9_lay 9 = .ok (.getfield 26, 3) := by decide +kernel
theorem dX9_lay_12 : decode cX9_lay 12 = .ok (.invokevirtual 101, 3) := by decide +kernel
theorem dX9_lay_15 : decode cX9_lay 15 = .ok (.bipush (-4), 2) := by decide +kernel
theorem dX9_lay_17 : decode cX9_lay 17 = .ok (.if_icmp .ne 13, 3) := by decide +kernel
theorem dX9_lay_20 : decode cX9_lay 20 = .ok (.aload_n 0, 1) := by decide +kernel
theorem dX9_lay_21 : decode cX9_lay 21 = .ok (.getfield 26, 3) := by decide +kernel
theorem dX9_lay_24 : decode cX9_lay 24 = .ok (.getfield 105, 3) := by decide +kernel
theorem dX9_lay_27 : decode cX9_lay 27 = .ok (.ifCond .ne 6, 3) := by decide +kernel
theorem dX9_lay_30 : decode cX9_lay 30 = .ok (.bipush (-2), 2) := by decide +kernel
theorem dX9_lay_32 : decode cX9_lay 32 = .ok (.ireturn, 1) := by decide +kernel
theorem dX9_lay_33 : decode cX9_lay 33 = .ok (.aload_n 0, 1) := by decide +kernel
theorem dX9_lay_34 : decode cX9_lay 34 = .ok (.invokevirtual 83, 3) := by decide +kernel
theorem dX9_lay_37 : decode cX9_lay 37 = .ok (.aload_n 0, 1) := by decide +kernel
theorem dX9_lay_38 : decode cX9_lay 38 = .ok (.getfield 33, 3) := by decide +kernel
theorem dX9_lay_41 : decode cX9_lay 41 = .ok (.getfield 108, 3) := by decide +kernel
theorem dX9_lay_44 : decode cX9_lay 44 = .ok (.getfield 105, 3) := by decide +kernel
theorem dX9_lay_47 : decode cX9_lay 47 = .ok (.ireturn, 1) := by decide +kernel
theorem dX9_person_0 : decode cX9_person 0 = .ok (.aload_n 0, 1) := by decide +kernel
theorem dX9_person_1 : decode cX9_person 1 = .ok (.iload_n 1, 1) := by decide +kernel
theorem dX9_person_2 : decode cX9_person 2 = .ok (.invokevirtual 111, 3) := by decide +kernel
theorem dX9_person_5 : decode cX9_person 5 = .ok (.ifCond .eq 12, 3) := by decide +kernel
theorem dX9_person_8 : decode cX9_person 8 = .ok (.iload_n 2, 1) := by decide +kernel
theorem dX9_person_9 : decode cX9_person 9 = .ok (.ifCond .lt 8, 3) := by decide +kernel
theorem dX9_person_12 : decode cX9_person 12 = .ok (.iload_n 2, 1) := by decide +kernel
theorem dX9_person_13 : decode cX9_person 13 = .ok (.iconst 5, 1) := by decide +kernel
theorem dX9_person_14 : decode cX9_person 14 = .ok (.if_icmp .le 5, 3) := by decide +kernel
theorem dX9_person_17 : decode cX9_person 17 = .ok (.iconst (-1), 1) := by decide +kernel
theorem dX9_person_18 : decode cX9_person 18 = .ok (.ireturn, 1) := by decide +kernel
theorem dX9_person_19 : decode cX9_person 19 = .ok (.iload_n 2, 1) := by decide +kernel
theorem dX9_person_20 : decode cX9_person 20 = .ok (.iconst 4, 1) := by decide +kernel
theorem dX9_person_21 : decode cX9_person 21 = .ok (.if_icmp .ne 16, 3) := by decide +kernel
theorem dX9_person_24 : decode cX9_person 24 = .ok (.aload_n 0, 1) := by decide +kernel
theorem dX9_person_25 : decode cX9_person 25 = .ok (.getfield 56, 3) := by decide +kernel
theorem dX9_person_28 : decode cX9_person 28 = .ok (.iload_n 1, 1) := by decide +kernel
theorem dX9_person_29 : decode cX9_person 29 = .ok (.invokevirtual 114, 3) := by decide +kernel
theorem dX9_person_32 : decode cX9_person 32 = .ok (.sipush 1000, 3) := by decide +kernel
theorem dX9_person_35 : decode cX9_person 35 = .ok (.iadd, 1) := by decide +kernel
theorem dX9_person_36 : decode cX9_person 36 = .ok (.ireturn, 1) := by decide +kernel
theorem dX9_person_37 : decode cX9_person 37 = .ok (.iload_n 2, 1) := by decide +kernel
theorem dX9_person_38 : decode cX9_person 38 = .ok (.iconst 5, 1) := by decide +kernel
theorem dX9_person_39 : decode cX9_person 39 = .ok (.if_icmp .ne 20, 3) := by decide +kernel
theorem dX9_person_42 : decode cX9_person 42 = .ok (.aload_n 0, 1) := by decide +kernel
theorem dX9_person_43 : decode cX9_person 43 = .ok (.getfield 56, 3) := by decide +kernel
theorem dX9_person_46 : decode cX9_person 46 = .ok (.iload_n 1, 1) := by decide +kernel
theorem dX9_person_47 : decode cX9_person 47 = .ok (.invokevirtual 118, 3) := by decide +kernel
theorem dX9_person_50 : decode cX9_person 50 = .ok (.ifCond .eq 7, 3) := by decide +kernel
theorem dX9_person_53 : decode cX9_person 53 = .ok (.iconst 1, 1) := by decide +kernel
theorem dX9_person_54 : decode cX9_person 54 = .ok (.goto 4, 3) := by decide +kernel
theorem dX9_person_57 : decode cX9_person 57 = .ok (.iconst 0, 1) := by decide +kernel
theorem dX9_person_58 : decode cX9_person 58 = .ok (.ireturn, 1) := by decide +kernel
theorem dX9_person_59 : decode cX9_person 59 = .ok (.aload_n 0, 1) := by decide +kernel
theorem dX9_person_60 : decode cX9_person 60 = .ok (.getfield 33, 3) := by decide +kernel
theorem dX9_person_63 : decode cX9_person 63 = .ok (.getfield 108, 3) := by decide +kernel
theorem dX9_person_66 : decode cX9_person 66 = .ok (.iload_n 1, 1) := by decide +kernel
theorem dX9_person_67 : decode cX9_person 67 = .ok (.iload_n 2, 1) := by decide +kernel
theorem dX9_person_68 : decode cX9_person 68 = .ok (.invokevirtual 121, 3) := by decide +kernel
theorem dX9_person_71 : decode cX9_person 71 = .ok (.ireturn, 1) := by decide +kernel
theorem dX9_worth_0 : decode cX9_worth 0 = .ok (.aload_n 0, 1) := by decide +kernel
theorem dX9_worth_1 : decode cX9_worth 1 = .ok (.iload_n 1, 1) := by decide +kernel
theorem dX9_worth_2 : decode cX9_worth 2 = .ok (.invokevirtual 111, 3) := by decide +kernel
theorem dX9_worth_5 : decode cX9_worth 5 = .ok (.ifCond .eq 11, 3) := by decide +kernel
theorem dX9_worth_8 : decode cX9_worth 8 = .ok (.aload_n 0, 1) := by decide +kernel
theorem dX9_worth_9 : decode cX9_worth 9 = .ok (.iload_n 2, 1) := by decide +kernel
theorem dX9_worth_10 : decode cX9_worth 10 = .ok (.invokevirtual 125, 3) := by decide +kernel
theorem dX9_worth_13 : decode cX9_worth 13 = .ok (.ifCond .ne 5, 3) := by decide +kernel
theorem dX9_worth_16 : decode cX9_worth 16 = .ok (.iconst (-1), 1) := by decide +kernel
theorem dX9_worth_17 : decode cX9_worth 17 = .ok (.ireturn, 1) := by decide +kernel
theorem dX9_worth_18 : decode cX9_worth 18 = .ok (.aload_n 0, 1) := by decide +kernel
theorem dX9_worth_19 : decode cX9_worth 19 = .ok (.getfield 33, 3) := by decide +kernel
theorem dX9_worth_22 : decode cX9_worth 22 = .ok (.iload_n 1, 1) := by decide +kernel
theorem dX9_worth_23 : decode cX9_worth 23 = .ok (.iload_n 2, 1) := by decide +kernel
theorem dX9_worth_24 : decode cX9_worth 24 = .ok (.aload_n 0, 1) := by decide +kernel
theorem dX9_worth_25 : decode cX9_worth 25 = .ok (.invokevirtual 128, 3) := by decide +kernel
theorem dX9_worth_28 : decode cX9_worth 28 = .ok (.invokevirtual 131, 3) := by decide +kernel
theorem dX9_worth_31 : decode cX9_worth 31 = .ok (.sipush 1000, 3) := by decide +kernel
theorem dX9_worth_34 : decode cX9_worth 34 = .ok (.iadd, 1) := by decide +kernel
theorem dX9_worth_35 : decode cX9_worth 35 = .ok (.ireturn, 1) := by decide +kernel
theorem dX9_buy_0 : decode cX9_buy 0 = .ok (.aload_n 0, 1) := by decide +kernel
theorem dX9_buy_1 : decode cX9_buy 1 = .ok (.iload_n 1, 1) := by decide +kernel
theorem dX9_buy_2 : decode cX9_buy 2 = .ok (.invokevirtual 125, 3) := by decide +kernel
theorem dX9_buy_5 : decode cX9_buy 5 = .ok (.ifCond .eq 7, 3) := by decide +kernel
theorem dX9_buy_8 : decode cX9_buy 8 = .ok (.iload_n 1, 1) := by decide +kernel
theorem dX9_buy_9 : decode cX9_buy 9 = .ok (.ifCond .ne 5, 3) := by decide +kernel
theorem dX9_buy_12 : decode cX9_buy 12 = .ok (.iconst (-1), 1) := by decide +kernel
theorem dX9_buy_13 : decode cX9_buy 13 = .ok (.ireturn, 1) := by decide +kernel
theorem dX9_buy_14 : decode cX9_buy 14 = .ok (.aload_n 0, 1) := by decide +kernel
theorem dX9_buy_15 : decode cX9_buy 15 = .ok (.getfield 56, 3) := by decide +kernel
theorem dX9_buy_18 : decode cX9_buy 18 = .ok (.getfield 135, 3) := by decide +kernel
theorem dX9_buy_21 : decode cX9_buy 21 = .ok (.iload_n 1, 1) := by decide +kernel
theorem dX9_buy_22 : decode cX9_buy 22 = .ok (.iand, 1) := by decide +kernel
theorem dX9_buy_23 : decode cX9_buy 23 = .ok (.ifCond .ne 11, 3) := by decide +kernel
theorem dX9_buy_26 : decode cX9_buy 26 = .ok (.aload_n 0, 1) := by decide +kernel
theorem dX9_buy_27 : decode cX9_buy 27 = .ok (.iload_n 1, 1) := by decide +kernel
theorem dX9_buy_28 : decode cX9_buy 28 = .ok (.invokevirtual 138, 3) := by decide +kernel
theorem dX9_buy_31 : decode cX9_buy 31 = .ok (.ifCond .ne 6, 3) := by decide +kernel
theorem dX9_buy_34 : decode cX9_buy 34 = .ok (.bipush (-2), 2) := by decide +kernel
theorem dX9_buy_36 : decode cX9_buy 36 = .ok (.ireturn, 1) := by decide +kernel
theorem dX9_buy_37 : decode cX9_buy 37 = .ok (.aload_n 0, 1) := by decide +kernel
theorem dX9_buy_38 : decode cX9_buy 38 = .ok (.getfield 65, 3) := by decide +kernel
theorem dX9_buy_41 : decode cX9_buy 41 = .ok (.aload_n 0, 1) := by decide +kernel
theorem dX9_buy_42 : decode cX9_buy 42 = .ok (.getfield 56, 3) := by decide +kernel
theorem dX9_buy_45 : decode cX9_buy 45 = .ok (.invokevirtual 141, 3) := by decide +kernel
theorem dX9_buy_48 : decode cX9_buy 48 = .ok (.aload_n 0, 1) := by decide +kernel
theorem dX9_buy_49 : decode cX9_buy 49 = .ok (.getfield 56, 3) := by decide +kernel
theorem dX9_buy_52 : decode cX9_buy 52 = .ok (.getfield 135, 3) := by decide +kernel
theorem dX9_buy_55 : decode cX9_buy 55 = .ok (.iload_n 1, 1) := by decide +kernel
theorem dX9_buy_56 : decode cX9_buy 56 = .ok (.ior, 1) := by decide +kernel
theorem dX9_buy_57 : decode cX9_buy 57 = .ok (.istore_n 2, 1) := by decide +kernel
theorem dX9_buy_58 : decode cX9_buy 58 = .ok (.iconst 0, 1) := by decide +kernel
theorem dX9_buy_59 : decode cX9_buy 59 = .ok (.istore_n 3, 1) := by decide +kernel
theorem dX9_buy_60 : decode cX9_buy 60 = .ok (.iconst 0, 1) := by decide +kernel
theorem dX9_buy_61 : decode cX9_buy 61 = .ok (.istore 4, 2) := by decide +kernel
theorem dX9_buy_63 : decode cX9_buy 63 = .ok (.iload 4, 2) := by decide +kernel
theorem dX9_buy_65 : decode cX9_buy 65 = .ok (.aload_n 0, 1) := by decide +kernel
theorem dX9_buy_66 : decode cX9_buy 66 = .ok (.getfield 33, 3) := by decide +kernel
theorem dX9_buy_69 : decode cX9_buy 69 = .ok (.getfield 108, 3) := by decide +kernel
theorem dX9_buy_72 : decode cX9_buy 72 = .ok (.getfield 105, 3) := by decide +kernel
theorem dX9_buy_75 : decode cX9_buy 75 = .ok (.if_icmp .ge 47, 3) := by decide +kernel
theorem dX9_buy_78 : decode cX9_buy 78 = .ok (.iload_n 1, 1) := by decide +kernel
theorem dX9_buy_79 : decode cX9_buy 79 = .ok (.iload 4, 2) := by decide +kernel
theorem dX9_buy_81 : decode cX9_buy 81 = .ok (.invokestatic 145, 3) := by decide +kernel
theorem dX9_buy_84 : decode cX9_buy 84 = .ok (.ifCond .eq 32, 3) := by decide +kernel
theorem dX9_buy_87 : decode cX9_buy 87 = .ok (.aload_n 0, 1) := by decide +kernel
theorem dX9_buy_88 : decode cX9_buy 88 = .ok (.getfield 33, 3) := by decide +kernel
theorem dX9_buy_91 : decode cX9_buy 91 = .ok (.iload 4, 2) := by decide +kernel
theorem dX9_buy_93 : decode cX9_buy 93 = .ok (.iload_n 2, 1) := by decide +kernel
theorem dX9_buy_94 : decode cX9_buy 94 = .ok (.invokevirtual 149, 3) := by decide +kernel
theorem dX9_buy_97 : decode cX9_buy 97 = .ok (.istore 5, 2) := by decide +kernel
theorem dX9_buy_99 : decode cX9_buy 99 = .ok (.aload_n 0, 1) := by decide +kernel
theorem dX9_buy_100 : decode cX9_buy 100 = .ok (.getfield 56, 3) := by decide +kernel
theorem dX9_buy_103 : decode cX9_buy 103 = .ok (.iload 4, 2) := by decide +kernel
theorem dX9_buy_105 : decode cX9_buy 105 = .ok (.iload 5, 2) := by decide +kernel
theorem dX9_buy_107 : decode cX9_buy 107 = .ok (.ineg, 1) := by decide +kernel
theorem dX9_buy_108 : decode cX9_buy 108 = .ok (.invokevirtual 152, 3) := by decide +kernel
theorem dX9_buy_111 : decode cX9_buy 111 = .ok (.iload_n 3, 1) := by decide +kernel
theorem dX9_buy_112 : decode cX9_buy 112 = .ok (.iload 5, 2) := by decide +kernel
theorem dX9_buy_114 : decode cX9_buy 114 = .ok (.iadd, 1) := by decide +kernel
theorem dX9_buy_115 : decode cX9_buy 115 = .ok (.istore_n 3, 1) := by decide +kernel
theorem dX9_buy_116 : decode cX9_buy 116 = .ok (.iinc 4 1, 3) := by decide +kernel
theorem dX9_buy_119 : decode cX9_buy 119 = .ok (.goto (-56), 3) := by decide +kernel
theorem dX9_buy_122 : decode cX9_buy 122 = .ok (.aload_n 0, 1) := by decide +kernel
theorem dX9_buy_123 : decode cX9_buy 123 = .ok (.getfield 56, 3) := by decide +kernel
theorem dX9_buy_126 : decode cX9_buy 126 = .ok (.iload_n 2, 1) := by decide +kernel
theorem dX9_buy_127 : decode cX9_buy 127 = .ok (.putfield 135, 3) := by decide +kernel
theorem dX9_buy_130 : decode cX9_buy 130 = .ok (.iload_n 3, 1) := by decide +kernel
theorem dX9_buy_131 : decode cX9_buy 131 = .ok (.ireturn, 1) := by decide +kernel
theorem dX9_toss_0 : decode cX9_toss 0 = .ok (.aload_n 0, 1) := by decide +kernel
theorem dX9_toss_1 : decode cX9_toss 1 = .ok (.iload_n 1, 1) := by decide +kernel
theorem dX9_toss_2 : decode cX9_toss 2 = .ok (.invokevirtual 111, 3) := by decide +kernel
theorem dX9_toss_5 : decode cX9_toss 5 = .ok (.ifCond .ne 5, 3) := by decide +kernel
theorem dX9_toss_8 : decode cX9_toss 8 = .ok (.iconst (-1), 1) := by decide +kernel
theorem dX9_toss_9 : decode cX9_toss 9 = .ok (.ireturn, 1) := by decide +kernel
theorem dX9_toss_10 : decode cX9_toss 10 = .ok (.aload_n 0, 1) := by decide +kernel
theorem dX9_toss_11 : decode cX9_toss 11 = .ok (.getfield 56, 3) := by decide +kernel
theorem dX9_toss_14 : decode cX9_toss 14 = .ok (.iload_n 1, 1) := by decide +kernel
theorem dX9_toss_15 : decode cX9_toss 15 = .ok (.invokevirtual 118, 3) := by decide +kernel
theorem dX9_toss_18 : decode cX9_toss 18 = .ok (.ifCond .ne 6, 3) := by decide +kernel
theorem dX9_toss_21 : decode cX9_toss 21 = .ok (.bipush (-2), 2) := by decide +kernel
theorem dX9_toss_23 : decode cX9_toss 23 = .ok (.ireturn, 1) := by decide +kernel
theorem dX9_toss_24 : decode cX9_toss 24 = .ok (.aload_n 0, 1) := by decide +kernel
theorem dX9_toss_25 : decode cX9_toss 25 = .ok (.getfield 65, 3) := by decide +kernel
theorem dX9_toss_28 : decode cX9_toss 28 = .ok (.aload_n 0, 1) := by decide +kernel
theorem dX9_toss_29 : decode cX9_toss 29 = .ok (.getfield 56, 3) := by decide +kernel
theorem dX9_toss_32 : decode cX9_toss 32 = .ok (.invokevirtual 141, 3) := by decide +kernel
theorem dX9_toss_35 : decode cX9_toss 35 = .ok (.aload_n 0, 1) := by decide +kernel
theorem dX9_toss_36 : decode cX9_toss 36 = .ok (.getfield 56, 3) := by decide +kernel
theorem dX9_toss_39 : decode cX9_toss 39 = .ok (.dup, 1) := by decide +kernel
theorem dX9_toss_40 : decode cX9_toss 40 = .ok (.getfield 135, 3) := by decide +kernel
theorem dX9_toss_43 : decode cX9_toss 43 = .ok (.iload_n 1, 1) := by decide +kernel
theorem dX9_toss_44 : decode cX9_toss 44 = .ok (.invokestatic 156, 3) := by decide +kernel
theorem dX9_toss_47 : decode cX9_toss 47 = .ok (.iconst (-1), 1) := by decide +kernel
theorem dX9_toss_48 : decode cX9_toss 48 = .ok (.ixor, 1) := by decide +kernel
theorem dX9_toss_49 : decode cX9_toss 49 = .ok (.iand, 1) := by decide +kernel
theorem dX9_toss_50 : decode cX9_toss 50 = .ok (.putfield 135, 3) := by decide +kernel
theorem dX9_toss_53 : decode cX9_toss 53 = .ok (.aload_n 0, 1) := by decide +kernel
theorem dX9_toss_54 : decode cX9_toss 54 = .ok (.getfield 56, 3) := by decide +kernel
theorem dX9_toss_57 : decode cX9_toss 57 = .ok (.getfield 135, 3) := by decide +kernel
theorem dX9_toss_60 : decode cX9_toss 60 = .ok (.invokestatic 159, 3) := by decide +kernel
theorem dX9_toss_63 : decode cX9_toss 63 = .ok (.ireturn, 1) := by decide +kernel
theorem dX9_sell_0 : decode cX9_sell 0 = .ok (.aload_n 0, 1) := by decide +kernel
theorem dX9_sell_1 : decode cX9_sell 1 = .ok (.iload_n 1, 1) := by decide +kernel
theorem dX9_sell_2 : decode cX9_sell 2 = .ok (.invokevirtual 111, 3) := by decide +kernel
theorem dX9_sell_5 : decode cX9_sell 5 = .ok (.ifCond .eq 16, 3) := by decide +kernel
theorem dX9_sell_8 : decode cX9_sell 8 = .ok (.aload_n 0, 1) := by decide +kernel
theorem dX9_sell_9 : decode cX9_sell 9 = .ok (.iload_n 2, 1) := by decide +kernel
theorem dX9_sell_10 : decode cX9_sell 10 = .ok (.invokevirtual 111, 3) := by decide +kernel
theorem dX9_sell_13 : decode cX9_sell 13 = .ok (.ifCond .eq 8, 3) := by decide +kernel
theorem dX9_sell_16 : decode cX9_sell 16 = .ok (.iload_n 1, 1) := by decide +kernel
theorem dX9_sell_17 : decode cX9_sell 17 = .ok (.iload_n 2, 1) := by decide +kernel
theorem dX9_sell_18 : decode cX9_sell 18 = .ok (.if_icmp .ne 5, 3) := by decide +kernel
theorem dX9_sell_21 : decode cX9_sell 21 = .ok (.iconst (-1), 1) := by decide +kernel
theorem dX9_sell_22 : decode cX9_sell 22 = .ok (.ireturn, 1) := by decide +kernel
theorem dX9_sell_23 : decode cX9_sell 23 = .ok (.aload_n 0, 1) := by decide +kernel
theorem dX9_sell_24 : decode cX9_sell 24 = .ok (.getfield 56, 3) := by decide +kernel
theorem dX9_sell_27 : decode cX9_sell 27 = .ok (.iload_n 1, 1) := by decide +kernel
theorem dX9_sell_28 : decode cX9_sell 28 = .ok (.invokevirtual 118, 3) := by decide +kernel
theorem dX9_sell_31 : decode cX9_sell 31 = .ok (.ifCond .eq 14, 3) := by decide +kernel
theorem dX9_sell_34 : decode cX9_sell 34 = .ok (.aload_n 0, 1) := by decide +kernel
theorem dX9_sell_35 : decode cX9_sell 35 = .ok (.getfield 56, 3) := by decide +kernel
theorem dX9_sell_38 : decode cX9_sell 38 = .ok (.iload_n 2, 1) := by decide +kernel
theorem dX9_sell_39 : decode cX9_sell 39 = .ok (.invokevirtual 118, 3) := by decide +kernel
theorem dX9_sell_42 : decode cX9_sell 42 = .ok (.ifCond .eq 6, 3) := by decide +kernel
theorem dX9_sell_45 : decode cX9_sell 45 = .ok (.bipush (-2), 2) := by decide +kernel
theorem dX9_sell_47 : decode cX9_sell 47 = .ok (.ireturn, 1) := by decide +kernel
theorem dX9_sell_48 : decode cX9_sell 48 = .ok (.aload_n 0, 1) := by decide +kernel
theorem dX9_sell_49 : decode cX9_sell 49 = .ok (.getfield 56, 3) := by decide +kernel
theorem dX9_sell_52 : decode cX9_sell 52 = .ok (.getfield 135, 3) := by decide +kernel
theorem dX9_sell_55 : decode cX9_sell 55 = .ok (.iload_n 1, 1) := by decide +kernel
theorem dX9_sell_56 : decode cX9_sell 56 = .ok (.invokestatic 156, 3) := by decide +kernel
theorem dX9_sell_59 : decode cX9_sell 59 = .ok (.iconst (-1), 1) := by decide +kernel
theorem dX9_sell_60 : decode cX9_sell 60 = .ok (.ixor, 1) := by decide +kernel
theorem dX9_sell_61 : decode cX9_sell 61 = .ok (.iand, 1) := by decide +kernel
theorem dX9_sell_62 : decode cX9_sell 62 = .ok (.istore_n 3, 1) := by decide +kernel
theorem dX9_sell_63 : decode cX9_sell 63 = .ok (.aload_n 0, 1) := by decide +kernel
theorem dX9_sell_64 : decode cX9_sell 64 = .ok (.getfield 33, 3) := by decide +kernel
theorem dX9_sell_67 : decode cX9_sell 67 = .ok (.iload_n 2, 1) := by decide +kernel
theorem dX9_sell_68 : decode cX9_sell 68 = .ok (.iload_n 3, 1) := by decide +kernel
theorem dX9_sell_69 : decode cX9_sell 69 = .ok (.invokevirtual 149, 3) := by decide +kernel
theorem dX9_sell_72 : decode cX9_sell 72 = .ok (.istore 4, 2) := by decide +kernel
theorem dX9_sell_74 : decode cX9_sell 74 = .ok (.aload_n 0, 1) := by decide +kernel
theorem dX9_sell_75 : decode cX9_sell 75 = .ok (.getfield 56, 3) := by decide +kernel
theorem dX9_sell_78 : decode cX9_sell 78 = .ok (.iload_n 2, 1) := by decide +kernel
theorem dX9_sell_79 : decode cX9_sell 79 = .ok (.invokevirtual 114, 3) := by decide +kernel
theorem dX9_sell_82 : decode cX9_sell 82 = .ok (.iload 4, 2) := by decide +kernel
theorem dX9_sell_84 : decode cX9_sell 84 = .ok (.if_icmp .ge 6, 3) := by decide +kernel
theorem dX9_sell_87 : decode cX9_sell 87 = .ok (.bipush (-2), 2) := by decide +kernel
theorem dX9_sell_89 : decode cX9_sell 89 = .ok (.ireturn, 1) := by decide +kernel
theorem dX9_sell_90 : decode cX9_sell 90 = .ok (.aload_n 0, 1) := by decide +kernel
theorem dX9_sell_91 : decode cX9_sell 91 = .ok (.getfield 65, 3) := by decide +kernel
theorem dX9_sell_94 : decode cX9_sell 94 = .ok (.aload_n 0, 1) := by decide +kernel
theorem dX9_sell_95 : decode cX9_sell 95 = .ok (.getfield 56, 3) := by decide +kernel
theorem dX9_sell_98 : decode cX9_sell 98 = .ok (.invokevirtual 141, 3) := by decide +kernel
theorem dX9_sell_101 : decode cX9_sell 101 = .ok (.aload_n 0, 1) := by decide +kernel
theorem dX9_sell_102 : decode cX9_sell 102 = .ok (.getfield 56, 3) := by decide +kernel
theorem dX9_sell_105 : decode cX9_sell 105 = .ok (.iload_n 3, 1) := by decide +kernel
theorem dX9_sell_106 : decode cX9_sell 106 = .ok (.iload_n 2, 1) := by decide +kernel
theorem dX9_sell_107 : decode cX9_sell 107 = .ok (.invokestatic 156, 3) := by decide +kernel
theorem dX9_sell_110 : decode cX9_sell 110 = .ok (.ior, 1) := by decide +kernel
theorem dX9_sell_111 : decode cX9_sell 111 = .ok (.putfield 135, 3) := by decide +kernel
theorem dX9_sell_114 : decode cX9_sell 114 = .ok (.aload_n 0, 1) := by decide +kernel
theorem dX9_sell_115 : decode cX9_sell 115 = .ok (.getfield 56, 3) := by decide +kernel
theorem dX9_sell_118 : decode cX9_sell 118 = .ok (.iload_n 2, 1) := by decide +kernel
theorem dX9_sell_119 : decode cX9_sell 119 = .ok (.iload 4, 2) := by decide +kernel
theorem dX9_sell_121 : decode cX9_sell 121 = .ok (.ineg, 1) := by decide +kernel
theorem dX9_sell_122 : decode cX9_sell 122 = .ok (.invokevirtual 152, 3) := by decide +kernel
theorem dX9_sell_125 : decode cX9_sell 125 = .ok (.aload_n 0, 1) := by decide +kernel
theorem dX9_sell_126 : decode cX9_sell 126 = .ok (.getfield 56, 3) := by decide +kernel
theorem dX9_sell_129 : decode cX9_sell 129 = .ok (.iload_n 1, 1) := by decide +kernel
theorem dX9_sell_130 : decode cX9_sell 130 = .ok (.iload 4, 2) := by decide +kernel
theorem dX9_sell_132 : decode cX9_sell 132 = .ok (.invokevirtual 152, 3) := by decide +kernel
theorem dX9_sell_135 : decode cX9_sell 135 = .ok (.iload 4, 2) := by decide +kernel
theorem dX9_sell_137 : decode cX9_sell 137 = .ok (.ireturn, 1) := by decide +kernel
theorem dX9_undo_0 : decode cX9_undo 0 = .ok (.aload_n 0, 1) := by decide +kernel
theorem dX9_undo_1 : decode cX9_undo 1 = .ok (.getfield 65, 3) := by decide +kernel
theorem dX9_undo_4 : decode cX9_undo 4 = .ok (.getfield 164, 3) := by decide +kernel
theorem dX9_undo_7 : decode cX9_undo 7 = .ok (.ifCond .ne 6, 3) := by decide +kernel
theorem dX9_undo_10 : decode cX9_undo 10 = .ok (.bipush (-2), 2) := by decide +kernel
theorem dX9_undo_12 : decode cX9_undo 12 = .ok (.ireturn, 1) := by decide +kernel
theorem dX9_undo_13 : decode cX9_undo 13 = .ok (.aload_n 0, 1) := by decide +kernel
theorem dX9_undo_14 : decode cX9_undo 14 = .ok (.getfield 65, 3) := by decide +kernel
theorem dX9_undo_17 : decode cX9_undo 17 = .ok (.aload_n 0, 1) := by decide +kernel
theorem dX9_undo_18 : decode cX9_undo 18 = .ok (.getfield 56, 3) := by decide +kernel
theorem dX9_undo_21 : decode cX9_undo 21 = .ok (.invokevirtual 165, 3) := by decide +kernel
theorem dX9_undo_24 : decode cX9_undo 24 = .ok (.aload_n 0, 1) := by decide +kernel
theorem dX9_undo_25 : decode cX9_undo 25 = .ok (.getfield 65, 3) := by decide +kernel
theorem dX9_undo_28 : decode cX9_undo 28 = .ok (.getfield 164, 3) := by decide +kernel
theorem dX9_undo_31 : decode cX9_undo 31 = .ok (.ireturn, 1) := by decide +kernel
theorem dX9_price_0 : decode cX9_price 0 = .ok (.aload_n 0, 1) := by decide +kernel
theorem dX9_price_1 : decode cX9_price 1 = .ok (.iload_n 1, 1) := by decide +kernel
theorem dX9_price_2 : decode cX9_price 2 = .ok (.invokevirtual 111, 3) := by decide +kernel
theorem dX9_price_5 : decode cX9_price 5 = .ok (.ifCond .ne 5, 3) := by decide +kernel
theorem dX9_price_8 : decode cX9_price 8 = .ok (.iconst (-1), 1) := by decide +kernel
theorem dX9_price_9 : decode cX9_price 9 = .ok (.ireturn, 1) := by decide +kernel
theorem dX9_price_10 : decode cX9_price 10 = .ok (.aload_n 0, 1) := by decide +kernel
theorem dX9_price_11 : decode cX9_price 11 = .ok (.getfield 56, 3) := by decide +kernel
theorem dX9_price_14 : decode cX9_price 14 = .ok (.iload_n 1, 1) := by decide +kernel
theorem dX9_price_15 : decode cX9_price 15 = .ok (.invokevirtual 118, 3) := by decide +kernel
theorem dX9_price_18 : decode cX9_price 18 = .ok (.ifCond .eq 8, 3) := by decide +kernel
theorem dX9_price_21 : decode cX9_price 21 = .ok (.bipush (-2), 2) := by decide +kernel
theorem dX9_price_23 : decode cX9_price 23 = .ok (.goto 18, 3) := by decide +kernel
theorem dX9_price_26 : decode cX9_price 26 = .ok (.aload_n 0, 1) := by decide +kernel
theorem dX9_price_27 : decode cX9_price 27 = .ok (.getfield 33, 3) := by decide +kernel
theorem dX9_price_30 : decode cX9_price 30 = .ok (.iload_n 1, 1) := by decide +kernel
theorem dX9_price_31 : decode cX9_price 31 = .ok (.aload_n 0, 1) := by decide +kernel
theorem dX9_price_32 : decode cX9_price 32 = .ok (.getfield 56, 3) := by decide +kernel
theorem dX9_price_35 : decode cX9_price 35 = .ok (.getfield 135, 3) := by decide +kernel
theorem dX9_price_38 : decode cX9_price 38 = .ok (.invokevirtual 149, 3) := by decide +kernel
theorem dX9_price_41 : decode cX9_price 41 = .ok (.ireturn, 1) := by decide +kernel
theorem dX9_would_0 : decode cX9_would 0 = .ok (.iload_n 1, 1) := by decide +kernel
theorem dX9_would_1 : decode cX9_would 1 = .ok (.invokestatic 168, 3) := by decide +kernel
theorem dX9_would_4 : decode cX9_would 4 = .ok (.ifCond .ne 5, 3) := by decide +kernel
theorem dX9_would_7 : decode cX9_would 7 = .ok (.iconst (-1), 1) := by decide +kernel
theorem dX9_would_8 : decode cX9_would 8 = .ok (.ireturn, 1) := by decide +kernel
theorem dX9_would_9 : decode cX9_would 9 = .ok (.aload_n 0, 1) := by decide +kernel
theorem dX9_would_10 : decode cX9_would 10 = .ok (.getfield 33, 3) := by decide +kernel
theorem dX9_would_13 : decode cX9_would 13 = .ok (.aload_n 0, 1) := by decide +kernel
theorem dX9_would_14 : decode cX9_would 14 = .ok (.getfield 56, 3) := by decide +kernel
theorem dX9_would_17 : decode cX9_would 17 = .ok (.getfield 135, 3) := by decide +kernel
theorem dX9_would_20 : decode cX9_would 20 = .ok (.aload_n 0, 1) := by decide +kernel
theorem dX9_would_21 : decode cX9_would 21 = .ok (.invokevirtual 128, 3) := by decide +kernel
theorem dX9_would_24 : decode cX9_would 24 = .ok (.invokevirtual 171, 3) := by decide +kernel
theorem dX9_would_27 : decode cX9_would 27 = .ok (.istore_n 2, 1) := by decide +kernel
theorem dX9_would_28 : decode cX9_would 28 = .ok (.iload_n 2, 1) := by decide +kernel
theorem dX9_would_29 : decode cX9_would 29 = .ok (.iload_n 1, 1) := by decide +kernel
theorem dX9_would_30 : decode cX9_would 30 = .ok (.ifCond .ne 15, 3) := by decide +kernel
theorem dX9_would_33 : decode cX9_would 33 = .ok (.aload_n 0, 1) := by decide +kernel
theorem dX9_would_34 : decode cX9_would 34 = .ok (.getfield 56, 3) := by decide +kernel
theorem dX9_would_37 : decode cX9_would 37 = .ok (.getfield 135, 3) := by decide +kernel
theorem dX9_would_40 : decode cX9_would 40 = .ok (.iconst (-1), 1) := by decide +kernel
theorem dX9_would_41 : decode cX9_would 41 = .ok (.ixor, 1) := by decide +kernel
theorem dX9_would_42 : decode cX9_would 42 = .ok (.goto 10, 3) := by decide +kernel
theorem dX9_would_45 : decode cX9_would 45 = .ok (.aload_n 0, 1) := by decide +kernel
theorem dX9_would_46 : decode cX9_would 46 = .ok (.getfield 56, 3) := by decide +kernel
theorem dX9_would_49 : decode cX9_would 49 = .ok (.getfield 135, 3) := by decide +kernel
theorem dX9_would_52 : decode cX9_would 52 = .ok (.iand, 1) := by decide +kernel
theorem dX9_would_53 : decode cX9_would 53 = .ok (.ireturn, 1) := by decide +kernel
theorem dX9_behind_0 : decode cX9_behind 0 = .ok (.iload_n 1, 1) := by decide +kernel
theorem dX9_behind_1 : decode cX9_behind 1 = .ok (.ifCond .lt 9, 3) := by decide +kernel
theorem dX9_behind_4 : decode cX9_behind 4 = .ok (.iload_n 1, 1) := by decide +kernel
theorem dX9_behind_5 : decode cX9_behind 5 = .ok (.bipush 60, 2) := by decide +kernel
theorem dX9_behind_7 : decode cX9_behind 7 = .ok (.if_icmp .le 5, 3) := by decide +kernel
theorem dX9_behind_10 : decode cX9_behind 10 = .ok (.iconst (-1), 1) := by decide +kernel
theorem dX9_behind_11 : decode cX9_behind 11 = .ok (.ireturn, 1) := by decide +kernel
theorem dX9_behind_12 : decode cX9_behind 12 = .ok (.aload_n 0, 1) := by decide +kernel
theorem dX9_behind_13 : decode cX9_behind 13 = .ok (.getfield 42, 3) := by decide +kernel
theorem dX9_behind_16 : decode cX9_behind 16 = .ok (.aload_n 0, 1) := by decide +kernel
theorem dX9_behind_17 : decode cX9_behind 17 = .ok (.getfield 56, 3) := by decide +kernel
theorem dX9_behind_20 : decode cX9_behind 20 = .ok (.getfield 135, 3) := by decide +kernel
theorem dX9_behind_23 : decode cX9_behind 23 = .ok (.iload_n 1, 1) := by decide +kernel
theorem dX9_behind_24 : decode cX9_behind 24 = .ok (.iload_n 2, 1) := by decide +kernel
theorem dX9_behind_25 : decode cX9_behind 25 = .ok (.invokevirtual 174, 3) := by decide +kernel
theorem dX9_behind_28 : decode cX9_behind 28 = .ok (.ireturn, 1) := by decide +kernel
theorem dX9_rest_0 : decode cX9_rest 0 = .ok (.iload_n 2, 1) := by decide +kernel
theorem dX9_rest_1 : decode cX9_rest 1 = .ok (.invokestatic 168, 3) := by decide +kernel
theorem dX9_rest_4 : decode cX9_rest 4 = .ok (.ifCond .ne 5, 3) := by decide +kernel
theorem dX9_rest_7 : decode cX9_rest 7 = .ok (.iconst (-1), 1) := by decide +kernel
theorem dX9_rest_8 : decode cX9_rest 8 = .ok (.ireturn, 1) := by decide +kernel
theorem dX9_rest_9 : decode cX9_rest 9 = .ok (.iload_n 2, 1) := by decide +kernel
theorem dX9_rest_10 : decode cX9_rest 10 = .ok (.ifCond .ne 21, 3) := by decide +kernel
theorem dX9_rest_13 : decode cX9_rest 13 = .ok (.aload_n 0, 1) := by decide +kernel
theorem dX9_rest_14 : decode cX9_rest 14 = .ok (.getfield 42, 3) := by decide +kernel
theorem dX9_rest_17 : decode cX9_rest 17 = .ok (.aload_n 0, 1) := by decide +kernel
theorem dX9_rest_18 : decode cX9_rest 18 = .ok (.getfield 56, 3) := by decide +kernel
theorem dX9_rest_21 : decode cX9_rest 21 = .ok (.getfield 135, 3) := by decide +kernel
theorem dX9_rest_24 : decode cX9_rest 24 = .ok (.iload_n 1, 1) := by decide +kernel
theorem dX9_rest_25 : decode cX9_rest 25 = .ok (.invokevirtual 178, 3) := by decide +kernel
theorem dX9_rest_28 : decode cX9_rest 28 = .ok (.goto 18, 3) := by decide +kernel
theorem dX9_rest_31 : decode cX9_rest 31 = .ok (.aload_n 0, 1) := by decide +kernel
theorem dX9_rest_32 : decode cX9_rest 32 = .ok (.getfield 42, 3) := by decide +kernel
theorem dX9_rest_35 : decode cX9_rest 35 = .ok (.aload_n 0, 1) := by decide +kernel
theorem dX9_rest_36 : decode cX9_rest 36 = .ok (.getfield 56, 3) := by decide +kernel
theorem dX9_rest_39 : decode cX9_rest 39 = .ok (.getfield 135, 3) := by decide +kernel
theorem dX9_rest_42 : decode cX9_rest 42 = .ok (.iload_n 1, 1) := by decide +kernel
theorem dX9_rest_43 : decode cX9_rest 43 = .ok (.invokevirtual 182, 3) := by decide +kernel
theorem dX9_rest_46 : decode cX9_rest 46 = .ok (.ireturn, 1) := by decide +kernel
theorem dX9_rests_0 : decode cX9_rests 0 = .ok (.iload_n 1, 1) := by decide +kernel
theorem dX9_rests_1 : decode cX9_rests 1 = .ok (.iconst (-1), 1) := by decide +kernel
theorem dX9_rests_2 : decode cX9_rests 2 = .ok (.if_icmp .ge 5, 3) := by decide +kernel
theorem dX9_rests_5 : decode cX9_rests 5 = .ok (.iconst (-1), 1) := by decide +kernel
theorem dX9_rests_6 : decode cX9_rests 6 = .ok (.ireturn, 1) := by decide +kernel
theorem dX9_rests_7 : decode cX9_rests 7 = .ok (.iload_n 1, 1) := by decide +kernel
theorem dX9_rests_8 : decode cX9_rests 8 = .ok (.iconst (-1), 1) := by decide +kernel
theorem dX9_rests_9 : decode cX9_rests 9 = .ok (.if_icmp .ne 13, 3) := by decide +kernel
theorem dX9_rests_12 : decode cX9_rests 12 = .ok (.aload_n 0, 1) := by decide +kernel
theorem dX9_rests_13 : decode cX9_rests 13 = .ok (.getfield 42, 3) := by decide +kernel
theorem dX9_rests_16 : decode cX9_rests 16 = .ok (.invokevirtual 185, 3) := by decide +kernel
theorem dX9_rests_19 : decode cX9_rests 19 = .ok (.goto 11, 3) := by decide +kernel
theorem dX9_rests_22 : decode cX9_rests 22 = .ok (.aload_n 0, 1) := by decide +kernel
theorem dX9_rests_23 : decode cX9_rests 23 = .ok (.getfield 42, 3) := by decide +kernel
theorem dX9_rests_26 : decode cX9_rests 26 = .ok (.iload_n 1, 1) := by decide +kernel
theorem dX9_rests_27 : decode cX9_rests 27 = .ok (.invokevirtual 188, 3) := by decide +kernel
theorem dX9_rests_30 : decode cX9_rests 30 = .ok (.ireturn, 1) := by decide +kernel
theorem dX9_tip_0 : decode cX9_tip 0 = .ok (.aload_n 0, 1) := by decide +kernel
theorem dX9_tip_1 : decode cX9_tip 1 = .ok (.iload_n 1, 1) := by decide +kernel
theorem dX9_tip_2 : decode cX9_tip 2 = .ok (.invokevirtual 125, 3) := by decide +kernel
theorem dX9_tip_5 : decode cX9_tip 5 = .ok (.ifCond .eq 10, 3) := by decide +kernel
theorem dX9_tip_8 : decode cX9_tip 8 = .ok (.iload_n 3, 1) := by decide +kernel
theorem dX9_tip_9 : decode cX9_tip 9 = .ok (.invokestatic 168, 3) := by decide +kernel
theorem dX9_tip_12 : decode cX9_tip 12 = .ok (.ifCond .ne 5, 3) := by decide +kernel
theorem dX9_tip_15 : decode cX9_tip 15 = .ok (.iconst (-1), 1) := by decide +kernel
theorem dX9_tip_16 : decode cX9_tip 16 = .ok (.ireturn, 1) := by decide +kernel
theorem dX9_tip_17 : decode cX9_tip 17 = .ok (.aload_n 0, 1) := by decide +kernel
theorem dX9_tip_18 : decode cX9_tip 18 = .ok (.getfield 42, 3) := by decide +kernel
theorem dX9_tip_21 : decode cX9_tip 21 = .ok (.aload_n 0, 1) := by decide +kernel
theorem dX9_tip_22 : decode cX9_tip 22 = .ok (.getfield 56, 3) := by decide +kernel
theorem dX9_tip_25 : decode cX9_tip 25 = .ok (.getfield 135, 3) := by decide +kernel
theorem dX9_tip_28 : decode cX9_tip 28 = .ok (.iload_n 1, 1) := by decide +kernel
theorem dX9_tip_29 : decode cX9_tip 29 = .ok (.iload_n 2, 1) := by decide +kernel
theorem dX9_tip_30 : decode cX9_tip 30 = .ok (.invokevirtual 191, 3) := by decide +kernel
theorem dX9_tip_33 : decode cX9_tip 33 = .ok (.istore 4, 2) := by decide +kernel
theorem dX9_tip_35 : decode cX9_tip 35 = .ok (.iload 4, 2) := by decide +kernel
theorem dX9_tip_37 : decode cX9_tip 37 = .ok (.ifCond .lt 8, 3) := by decide +kernel
theorem dX9_tip_40 : decode cX9_tip 40 = .ok (.iload_n 3, 1) := by decide +kernel
theorem dX9_tip_41 : decode cX9_tip 41 = .ok (.iconst 1, 1) := by decide +kernel
theorem dX9_tip_42 : decode cX9_tip 42 = .ok (.if_icmp .ne 8, 3) := by decide +kernel
theorem dX9_tip_45 : decode cX9_tip 45 = .ok (.iload 4, 2) := by decide +kernel
theorem dX9_tip_47 : decode cX9_tip 47 = .ok (.goto 8, 3) := by decide +kernel
theorem dX9_tip_50 : decode cX9_tip 50 = .ok (.iload 4, 2) := by decide +kernel
theorem dX9_tip_52 : decode cX9_tip 52 = .ok (.invokestatic 159, 3) := by decide +kernel
theorem dX9_tip_55 : decode cX9_tip 55 = .ok (.ireturn, 1) := by decide +kernel
theorem dX9_place_0 : decode cX9_place 0 = .ok (.aload_n 0, 1) := by decide +kernel
theorem dX9_place_1 : decode cX9_place 1 = .ok (.iload_n 1, 1) := by decide +kernel
theorem dX9_place_2 : decode cX9_place 2 = .ok (.invokevirtual 111, 3) := by decide +kernel
theorem dX9_place_5 : decode cX9_place 5 = .ok (.ifCond .eq 10, 3) := by decide +kernel
theorem dX9_place_8 : decode cX9_place 8 = .ok (.iload_n 2, 1) := by decide +kernel
theorem dX9_place_9 : decode cX9_place 9 = .ok (.invokestatic 168, 3) := by decide +kernel
theorem dX9_place_12 : decode cX9_place 12 = .ok (.ifCond .ne 5, 3) := by decide +kernel
theorem dX9_place_15 : decode cX9_place 15 = .ok (.iconst (-1), 1) := by decide +kernel
theorem dX9_place_16 : decode cX9_place 16 = .ok (.ireturn, 1) := by decide +kernel
theorem dX9_place_17 : decode cX9_place 17 = .ok (.aload_n 0, 1) := by decide +kernel
theorem dX9_place_18 : decode cX9_place 18 = .ok (.getfield 56, 3) := by decide +kernel
theorem dX9_place_21 : decode cX9_place 21 = .ok (.iload_n 1, 1) := by decide +kernel
theorem dX9_place_22 : decode cX9_place 22 = .ok (.invokevirtual 118, 3) := by decide +kernel
theorem dX9_place_25 : decode cX9_place 25 = .ok (.ifCond .eq 6, 3) := by decide +kernel
theorem dX9_place_28 : decode cX9_place 28 = .ok (.bipush (-2), 2) := by decide +kernel
theorem dX9_place_30 : decode cX9_place 30 = .ok (.ireturn, 1) := by decide +kernel
theorem dX9_place_31 : decode cX9_place 31 = .ok (.aload_n 0, 1) := by decide +kernel
theorem dX9_place_32 : decode cX9_place 32 = .ok (.getfield 49, 3) := by decide +kernel
theorem dX9_place_35 : decode cX9_place 35 = .ok (.iload_n 1, 1) := by decide +kernel
theorem dX9_place_36 : decode cX9_place 36 = .ok (.aload_n 0, 1) := by decide +kernel
theorem dX9_place_37 : decode cX9_place 37 = .ok (.getfield 56, 3) := by decide +kernel
theorem dX9_place_40 : decode cX9_place 40 = .ok (.getfield 135, 3) := by decide +kernel
theorem dX9_place_43 : decode cX9_place 43 = .ok (.invokevirtual 194, 3) := by decide +kernel
theorem dX9_place_46 : decode cX9_place 46 = .ok (.istore_n 3, 1) := by decide +kernel
theorem dX9_place_47 : decode cX9_place 47 = .ok (.iload_n 2, 1) := by decide +kernel
theorem dX9_place_48 : decode cX9_place 48 = .ok (.ifCond .ne 7, 3) := by decide +kernel
theorem dX9_place_51 : decode cX9_place 51 = .ok (.iload_n 3, 1) := by decide +kernel
theorem dX9_place_52 : decode cX9_place 52 = .ok (.goto 23, 3) := by decide +kernel
theorem dX9_place_55 : decode cX9_place 55 = .ok (.aload_n 0, 1) := by decide +kernel
theorem dX9_place_56 : decode cX9_place 56 = .ok (.getfield 49, 3) := by decide +kernel
theorem dX9_place_59 : decode cX9_place 59 = .ok (.iload_n 1, 1) := by decide +kernel
theorem dX9_place_60 : decode cX9_place 60 = .ok (.iload_n 3, 1) := by decide +kernel
theorem dX9_place_61 : decode cX9_place 61 = .ok (.aload_n 0, 1) := by decide +kernel
theorem dX9_place_62 : decode cX9_place 62 = .ok (.getfield 56, 3) := by decide +kernel
theorem dX9_place_65 : decode cX9_place 65 = .ok (.getfield 135, 3) := by decide +kernel
theorem dX9_place_68 : decode cX9_place 68 = .ok (.invokevirtual 197, 3) := by decide +kernel
theorem dX9_place_71 : decode cX9_place 71 = .ok (.sipush 1000, 3) := by decide +kernel
theorem dX9_place_74 : decode cX9_place 74 = .ok (.iadd, 1) := by decide +kernel
theorem dX9_place_75 : decode cX9_place 75 = .ok (.ireturn, 1) := by decide +kernel
theorem dX9_burn_0 : decode cX9_burn 0 = .ok (.aload_n 0, 1) := by decide +kernel
theorem dX9_burn_1 : decode cX9_burn 1 = .ok (.iload_n 1, 1) := by decide +kernel
theorem dX9_burn_2 : decode cX9_burn 2 = .ok (.invokevirtual 111, 3) := by decide +kernel
theorem dX9_burn_5 : decode cX9_burn 5 = .ok (.ifCond .ne 5, 3) := by decide +kernel
theorem dX9_burn_8 : decode cX9_burn 8 = .ok (.iconst (-1), 1) := by decide +kernel
theorem dX9_burn_9 : decode cX9_burn 9 = .ok (.ireturn, 1) := by decide +kernel
theorem dX9_burn_10 : decode cX9_burn 10 = .ok (.aload_n 0, 1) := by decide +kernel
theorem dX9_burn_11 : decode cX9_burn 11 = .ok (.getfield 56, 3) := by decide +kernel
theorem dX9_burn_14 : decode cX9_burn 14 = .ok (.iload_n 1, 1) := by decide +kernel
theorem dX9_burn_15 : decode cX9_burn 15 = .ok (.invokevirtual 118, 3) := by decide +kernel
theorem dX9_burn_18 : decode cX9_burn 18 = .ok (.ifCond .eq 8, 3) := by decide +kernel
theorem dX9_burn_21 : decode cX9_burn 21 = .ok (.bipush (-2), 2) := by decide +kernel
theorem dX9_burn_23 : decode cX9_burn 23 = .ok (.goto 18, 3) := by decide +kernel
theorem dX9_burn_26 : decode cX9_burn 26 = .ok (.aload_n 0, 1) := by decide +kernel
theorem dX9_burn_27 : decode cX9_burn 27 = .ok (.getfield 49, 3) := by decide +kernel
theorem dX9_burn_30 : decode cX9_burn 30 = .ok (.iload_n 1, 1) := by decide +kernel
theorem dX9_burn_31 : decode cX9_burn 31 = .ok (.aload_n 0, 1) := by decide +kernel
theorem dX9_burn_32 : decode cX9_burn 32 = .ok (.getfield 56, 3) := by decide +kernel
theorem dX9_burn_35 : decode cX9_burn 35 = .ok (.getfield 135, 3) := by decide +kernel
theorem dX9_burn_38 : decode cX9_burn 38 = .ok (.invokevirtual 200, 3) := by decide +kernel
theorem dX9_burn_41 : decode cX9_burn 41 = .ok (.ireturn, 1) := by decide +kernel
theorem dX9_share_0 : decode cX9_share 0 = .ok (.aload_n 0, 1) := by decide +kernel
theorem dX9_share_1 : decode cX9_share 1 = .ok (.getfield 49, 3) := by decide +kernel
theorem dX9_share_4 : decode cX9_share 4 = .ok (.aload_n 0, 1) := by decide +kernel
theorem dX9_share_5 : decode cX9_share 5 = .ok (.getfield 56, 3) := by decide +kernel
theorem dX9_share_8 : decode cX9_share 8 = .ok (.getfield 135, 3) := by decide +kernel
theorem dX9_share_11 : decode cX9_share 11 = .ok (.invokevirtual 203, 3) := by decide +kernel
theorem dX9_share_14 : decode cX9_share 14 = .ok (.ireturn, 1) := by decide +kernel
theorem dX9_seen_0 : decode cX9_seen 0 = .ok (.aload_n 0, 1) := by decide +kernel
theorem dX9_seen_1 : decode cX9_seen 1 = .ok (.iload_n 1, 1) := by decide +kernel
theorem dX9_seen_2 : decode cX9_seen 2 = .ok (.invokevirtual 111, 3) := by decide +kernel
theorem dX9_seen_5 : decode cX9_seen 5 = .ok (.ifCond .eq 13, 3) := by decide +kernel
theorem dX9_seen_8 : decode cX9_seen 8 = .ok (.iload_n 2, 1) := by decide +kernel
theorem dX9_seen_9 : decode cX9_seen 9 = .ok (.ifCond .lt 9, 3) := by decide +kernel
theorem dX9_seen_12 : decode cX9_seen 12 = .ok (.iload_n 2, 1) := by decide +kernel
theorem dX9_seen_13 : decode cX9_seen 13 = .ok (.bipush 7, 2) := by decide +kernel
theorem dX9_seen_15 : decode cX9_seen 15 = .ok (.if_icmp .le 5, 3) := by decide +kernel
theorem dX9_seen_18 : decode cX9_seen 18 = .ok (.iconst (-1), 1) := by decide +kernel
theorem dX9_seen_19 : decode cX9_seen 19 = .ok (.ireturn, 1) := by decide +kernel
theorem dX9_seen_20 : decode cX9_seen 20 = .ok (.aload_n 0, 1) := by decide +kernel
theorem dX9_seen_21 : decode cX9_seen 21 = .ok (.getfield 75, 3) := by decide +kernel
theorem dX9_seen_24 : decode cX9_seen 24 = .ok (.getfield 206, 3) := by decide +kernel
theorem dX9_seen_27 : decode cX9_seen 27 = .ok (.bipush 8, 2) := by decide +kernel
theorem dX9_seen_29 : decode cX9_seen 29 = .ok (.if_icmp .lt 6, 3) := by decide +kernel
theorem dX9_seen_32 : decode cX9_seen 32 = .ok (.bipush (-3), 2) := by decide +kernel
theorem dX9_seen_34 : decode cX9_seen 34 = .ok (.ireturn, 1) := by decide +kernel
theorem dX9_seen_35 : decode cX9_seen 35 = .ok (.aload_n 0, 1) := by decide +kernel
theorem dX9_seen_36 : decode cX9_seen 36 = .ok (.getfield 75, 3) := by decide +kernel
theorem dX9_seen_39 : decode cX9_seen 39 = .ok (.iload_n 1, 1) := by decide +kernel
theorem dX9_seen_40 : decode cX9_seen 40 = .ok (.iload_n 2, 1) := by decide +kernel
theorem dX9_seen_41 : decode cX9_seen 41 = .ok (.iload_n 3, 1) := by decide +kernel
theorem dX9_seen_42 : decode cX9_seen 42 = .ok (.invokevirtual 207, 3) := by decide +kernel
theorem dX9_seen_45 : decode cX9_seen 45 = .ok (.aload_n 0, 1) := by decide +kernel
theorem dX9_seen_46 : decode cX9_seen 46 = .ok (.getfield 75, 3) := by decide +kernel
theorem dX9_seen_49 : decode cX9_seen 49 = .ok (.getfield 206, 3) := by decide +kernel
theorem dX9_seen_52 : decode cX9_seen 52 = .ok (.ireturn, 1) := by decide +kernel
theorem dX9_forget_0 : decode cX9_forget 0 = .ok (.aload_n 0, 1) := by decide +kernel
theorem dX9_forget_1 : decode cX9_forget 1 = .ok (.getfield 75, 3) := by decide +kernel
theorem dX9_forget_4 : decode cX9_forget 4 = .ok (.getfield 206, 3) := by decide +kernel
theorem dX9_forget_7 : decode cX9_forget 7 = .ok (.istore_n 1, 1) := by decide +kernel
theorem dX9_forget_8 : decode cX9_forget 8 = .ok (.aload_n 0, 1) := by decide +kernel
theorem dX9_forget_9 : decode cX9_forget 9 = .ok (.getfield 75, 3) := by decide +kernel
theorem dX9_forget_12 : decode cX9_forget 12 = .ok (.iconst 0, 1) := by decide +kernel
theorem dX9_forget_13 : decode cX9_forget 13 = .ok (.putfield 206, 3) := by decide +kernel
theorem dX9_forget_16 : decode cX9_forget 16 = .ok (.iload_n 1, 1) := by decide +kernel
theorem dX9_forget_17 : decode cX9_forget 17 = .ok (.ireturn, 1) := by decide +kernel
theorem dX9_likes_0 : decode cX9_likes 0 = .ok (.aload_n 0, 1) := by decide +kernel
theorem dX9_likes_1 : decode cX9_likes 1 = .ok (.iload_n 1, 1) := by decide +kernel
theorem dX9_likes_2 : decode cX9_likes 2 = .ok (.invokevirtual 111, 3) := by decide +kernel
theorem dX9_likes_5 : decode cX9_likes 5 = .ok (.ifCond .eq 10, 3) := by decide +kernel
theorem dX9_likes_8 : decode cX9_likes 8 = .ok (.iload_n 2, 1) := by decide +kernel
theorem dX9_likes_9 : decode cX9_likes 9 = .ok (.invokestatic 168, 3) := by decide +kernel
theorem dX9_likes_12 : decode cX9_likes 12 = .ok (.ifCond .ne 5, 3) := by decide +kernel
theorem dX9_likes_15 : decode cX9_likes 15 = .ok (.iconst (-1), 1) := by decide +kernel
theorem dX9_likes_16 : decode cX9_likes 16 = .ok (.ireturn, 1) := by decide +kernel
theorem dX9_likes_17 : decode cX9_likes 17 = .ok (.iconst 0, 1) := by decide +kernel
theorem dX9_likes_18 : decode cX9_likes 18 = .ok (.istore_n 3, 1) := by decide +kernel
theorem dX9_likes_19 : decode cX9_likes 19 = .ok (.bipush (-4), 2) := by decide +kernel
theorem dX9_likes_21 : decode cX9_likes 21 = .ok (.istore 4, 2) := by decide +kernel
theorem dX9_likes_23 : decode cX9_likes 23 = .ok (.bipush 99, 2) := by decide +kernel
theorem dX9_likes_25 : decode cX9_likes 25 = .ok (.istore 5, 2) := by decide +kernel
theorem dX9_likes_27 : decode cX9_likes 27 = .ok (.iload 5, 2) := by decide +kernel
theorem dX9_likes_29 : decode cX9_likes 29 = .ok (.ifCond .lt 36, 3) := by decide +kernel
theorem dX9_likes_32 : decode cX9_likes 32 = .ok (.aload_n 0, 1) := by decide +kernel
theorem dX9_likes_33 : decode cX9_likes 33 = .ok (.getfield 75, 3) := by decide +kernel
theorem dX9_likes_36 : decode cX9_likes 36 = .ok (.iload_n 1, 1) := by decide +kernel
theorem dX9_likes_37 : decode cX9_likes 37 = .ok (.iload 5, 2) := by decide +kernel
theorem dX9_likes_39 : decode cX9_likes 39 = .ok (.aload_n 0, 1) := by decide +kernel
theorem dX9_likes_40 : decode cX9_likes 40 = .ok (.getfield 33, 3) := by decide +kernel
theorem dX9_likes_43 : decode cX9_likes 43 = .ok (.getfield 108, 3) := by decide +kernel
theorem dX9_likes_46 : decode cX9_likes 46 = .ok (.invokevirtual 210, 3) := by decide +kernel
theorem dX9_likes_49 : decode cX9_likes 49 = .ok (.ifCond .eq 10, 3) := by decide +kernel
theorem dX9_likes_52 : decode cX9_likes 52 = .ok (.iinc 3 1, 3) := by decide +kernel
theorem dX9_likes_55 : decode cX9_likes 55 = .ok (.iload 5, 2) := by decide +kernel
theorem dX9_likes_57 : decode cX9_likes 57 = .ok (.istore 4, 2) := by decide +kernel
theorem dX9_likes_59 : decode cX9_likes 59 = .ok (.iinc 5 (-1), 3) := by decide +kernel
theorem dX9_likes_62 : decode cX9_likes 62 = .ok (.goto (-35), 3) := by decide +kernel
theorem dX9_likes_65 : decode cX9_likes 65 = .ok (.iload_n 2, 1) := by decide +kernel
theorem dX9_likes_66 : decode cX9_likes 66 = .ok (.ifCond .ne 7, 3) := by decide +kernel
theorem dX9_likes_69 : decode cX9_likes 69 = .ok (.iload_n 3, 1) := by decide +kernel
theorem dX9_likes_70 : decode cX9_likes 70 = .ok (.goto 5, 3) := by decide +kernel
theorem dX9_likes_73 : decode cX9_likes 73 = .ok (.iload 4, 2) := by decide +kernel
theorem dX9_likes_75 : decode cX9_likes 75 = .ok (.ireturn, 1) := by decide +kernel
theorem dX9_year_0 : decode cX9_year 0 = .ok (.iload_n 1, 1) := by decide +kernel
theorem dX9_year_1 : decode cX9_year 1 = .ok (.ifCond .lt 28, 3) := by decide +kernel
theorem dX9_year_4 : decode cX9_year 4 = .ok (.iload_n 1, 1) := by decide +kernel
theorem dX9_year_5 : decode cX9_year 5 = .ok (.sipush 9999, 3) := by decide +kernel
theorem dX9_year_8 : decode cX9_year 8 = .ok (.if_icmp .gt 21, 3) := by decide +kernel
theorem dX9_year_11 : decode cX9_year 11 = .ok (.iload_n 2, 1) := by decide +kernel
theorem dX9_year_12 : decode cX9_year 12 = .ok (.iconst 1, 1) := by decide +kernel
theorem dX9_year_13 : decode cX9_year 13 = .ok (.if_icmp .lt 16, 3) := by decide +kernel
theorem dX9_year_16 : decode cX9_year 16 = .ok (.iload_n 2, 1) := by decide +kernel
theorem dX9_year_17 : decode cX9_year 17 = .ok (.bipush 100, 2) := by decide +kernel
theorem dX9_year_19 : decode cX9_year 19 = .ok (.if_icmp .gt 10, 3) := by decide +kernel
theorem dX9_year_22 : decode cX9_year 22 = .ok (.iload_n 3, 1) := by decide +kernel
theorem dX9_year_23 : decode cX9_year 23 = .ok (.invokestatic 168, 3) := by decide +kernel
theorem dX9_year_26 : decode cX9_year 26 = .ok (.ifCond .ne 5, 3) := by decide +kernel
theorem dX9_year_29 : decode cX9_year 29 = .ok (.iconst (-1), 1) := by decide +kernel
theorem dX9_year_30 : decode cX9_year 30 = .ok (.ireturn, 1) := by decide +kernel
theorem dX9_year_31 : decode cX9_year 31 = .ok (.iload_n 3, 1) := by decide +kernel
theorem dX9_year_32 : decode cX9_year 32 = .ok (.ifCond .ne 22, 3) := by decide +kernel
theorem dX9_year_35 : decode cX9_year 35 = .ok (.aload_n 0, 1) := by decide +kernel
theorem dX9_year_36 : decode cX9_year 36 = .ok (.getfield 42, 3) := by decide +kernel
theorem dX9_year_39 : decode cX9_year 39 = .ok (.aload_n 0, 1) := by decide +kernel
theorem dX9_year_40 : decode cX9_year 40 = .ok (.getfield 56, 3) := by decide +kernel
theorem dX9_year_43 : decode cX9_year 43 = .ok (.getfield 135, 3) := by decide +kernel
theorem dX9_year_46 : decode cX9_year 46 = .ok (.iload_n 1, 1) := by decide +kernel
theorem dX9_year_47 : decode cX9_year 47 = .ok (.iload_n 2, 1) := by decide +kernel
theorem dX9_year_48 : decode cX9_year 48 = .ok (.invokevirtual 214, 3) := by decide +kernel
theorem dX9_year_51 : decode cX9_year 51 = .ok (.goto 19, 3) := by decide +kernel
theorem dX9_year_54 : decode cX9_year 54 = .ok (.aload_n 0, 1) := by decide +kernel
theorem dX9_year_55 : decode cX9_year 55 = .ok (.getfield 42, 3) := by decide +kernel
theorem dX9_year_58 : decode cX9_year 58 = .ok (.aload_n 0, 1) := by decide +kernel
theorem dX9_year_59 : decode cX9_year 59 = .ok (.getfield 56, 3) := by decide +kernel
theorem dX9_year_62 : decode cX9_year 62 = .ok (.getfield 135, 3) := by decide +kernel
theorem dX9_year_65 : decode cX9_year 65 = .ok (.iload_n 1, 1) := by decide +kernel
theorem dX9_year_66 : decode cX9_year 66 = .ok (.iload_n 2, 1) := by decide +kernel
theorem dX9_year_67 : decode cX9_year 67 = .ok (.invokevirtual 217, 3) := by decide +kernel
theorem dX9_year_70 : decode cX9_year 70 = .ok (.ireturn, 1) := by decide +kernel
theorem dX9_keep_0 : decode cX9_keep 0 = .ok (.aload_n 0, 1) := by decide +kernel
theorem dX9_keep_1 : decode cX9_keep 1 = .ok (.getfield 69, 3) := by decide +kernel
theorem dX9_keep_4 : decode cX9_keep 4 = .ok (.getfield 164, 3) := by decide +kernel
theorem dX9_keep_7 : decode cX9_keep 7 = .ok (.iconst 2, 1) := by decide +kernel
theorem dX9_keep_8 : decode cX9_keep 8 = .ok (.if_icmp .lt 6, 3) := by decide +kernel
theorem dX9_keep_11 : decode cX9_keep 11 = .ok (.bipush (-3), 2) := by decide +kernel
theorem dX9_keep_13 : decode cX9_keep 13 = .ok (.ireturn, 1) := by decide +kernel
theorem dX9_keep_14 : decode cX9_keep 14 = .ok (.aload_n 0, 1) := by decide +kernel
theorem dX9_keep_15 : decode cX9_keep 15 = .ok (.getfield 69, 3) := by decide +kernel
theorem dX9_keep_18 : decode cX9_keep 18 = .ok (.aload_n 0, 1) := by decide +kernel
theorem dX9_keep_19 : decode cX9_keep 19 = .ok (.getfield 56, 3) := by decide +kernel
theorem dX9_keep_22 : decode cX9_keep 22 = .ok (.invokevirtual 220, 3) := by decide +kernel
theorem dX9_keep_25 : decode cX9_keep 25 = .ok (.aload_n 0, 1) := by decide +kernel
theorem dX9_keep_26 : decode cX9_keep 26 = .ok (.getfield 69, 3) := by decide +kernel
theorem dX9_keep_29 : decode cX9_keep 29 = .ok (.getfield 164, 3) := by decide +kernel
theorem dX9_keep_32 : decode cX9_keep 32 = .ok (.ireturn, 1) := by decide +kernel
theorem dX9_back_0 : decode cX9_back 0 = .ok (.aload_n 0, 1) := by decide +kernel
theorem dX9_back_1 : decode cX9_back 1 = .ok (.getfield 69, 3) := by decide +kernel
theorem dX9_back_4 : decode cX9_back 4 = .ok (.getfield 164, 3) := by decide +kernel
theorem dX9_back_7 : decode cX9_back 7 = .ok (.ifCond .ne 6, 3) := by decide +kernel
theorem dX9_back_10 : decode cX9_back 10 = .ok (.bipush (-2), 2) := by decide +kernel
theorem dX9_back_12 : decode cX9_back 12 = .ok (.ireturn, 1) := by decide +kernel
theorem dX9_back_13 : decode cX9_back 13 = .ok (.aload_n 0, 1) := by decide +kernel
theorem dX9_back_14 : decode cX9_back 14 = .ok (.getfield 69, 3) := by decide +kernel
theorem dX9_back_17 : decode cX9_back 17 = .ok (.aload_n 0, 1) := by decide +kernel
theorem dX9_back_18 : decode cX9_back 18 = .ok (.getfield 56, 3) := by decide +kernel
theorem dX9_back_21 : decode cX9_back 21 = .ok (.invokevirtual 165, 3) := by decide +kernel
theorem dX9_back_24 : decode cX9_back 24 = .ok (.aload_n 0, 1) := by decide +kernel
theorem dX9_back_25 : decode cX9_back 25 = .ok (.getfield 65, 3) := by decide +kernel
theorem dX9_back_28 : decode cX9_back 28 = .ok (.iconst 0, 1) := by decide +kernel
theorem dX9_back_29 : decode cX9_back 29 = .ok (.putfield 164, 3) := by decide +kernel
theorem dX9_back_32 : decode cX9_back 32 = .ok (.aload_n 0, 1) := by decide +kernel
theorem dX9_back_33 : decode cX9_back 33 = .ok (.getfield 69, 3) := by decide +kernel
theorem dX9_back_36 : decode cX9_back 36 = .ok (.getfield 164, 3) := by decide +kernel
theorem dX9_back_39 : decode cX9_back 39 = .ok (.ireturn, 1) := by decide +kernel
theorem dX9_count_0 : decode cX9_count 0 = .ok (.iload_n 1, 1) := by decide +kernel
theorem dX9_count_1 : decode cX9_count 1 = .ok (.tableswitch 99 0 6 #[43, 54, 62, 67, 75, 83, 91], 43) := by decide +kernel
theorem dX9_count_44 : decode cX9_count 44 = .ok (.aload_n 0, 1) := by decide +kernel
theorem dX9_count_45 : decode cX9_count 45 = .ok (.getfield 33, 3) := by decide +kernel
theorem dX9_count_48 : decode cX9_count 48 = .ok (.getfield 108, 3) := by decide +kernel
theorem dX9_count_51 : decode cX9_count 51 = .ok (.getfield 105, 3) := by decide +kernel
theorem dX9_count_54 : decode cX9_count 54 = .ok (.ireturn, 1) := by decide +kernel
theorem dX9_count_55 : decode cX9_count 55 = .ok (.aload_n 0, 1) := by decide +kernel
theorem dX9_count_56 : decode cX9_count 56 = .ok (.getfield 56, 3) := by decide +kernel
theorem dX9_count_59 : decode cX9_count 59 = .ok (.getfield 135, 3) := by decide +kernel
theorem dX9_count_62 : decode cX9_count 62 = .ok (.ireturn, 1) := by decide +kernel
theorem dX9_count_63 : decode cX9_count 63 = .ok (.aload_n 0, 1) := by decide +kernel
theorem dX9_count_64 : decode cX9_count 64 = .ok (.invokevirtual 128, 3) := by decide +kernel
theorem dX9_count_67 : decode cX9_count 67 = .ok (.ireturn, 1) := by decide +kernel
theorem dX9_count_68 : decode cX9_count 68 = .ok (.aload_n 0, 1) := by decide +kernel
theorem dX9_count_69 : decode cX9_count 69 = .ok (.getfield 75, 3) := by decide +kernel
theorem dX9_count_72 : decode cX9_count 72 = .ok (.getfield 206, 3) := by decide +kernel
theorem dX9_count_75 : decode cX9_count 75 = .ok (.ireturn, 1) := by decide +kernel
theorem dX9_count_76 : decode cX9_count 76 = .ok (.aload_n 0, 1) := by decide +kernel
theorem dX9_count_77 : decode cX9_count 77 = .ok (.getfield 65, 3) := by decide +kernel
theorem dX9_count_80 : decode cX9_count 80 = .ok (.getfield 164, 3) := by decide +kernel
theorem dX9_count_83 : decode cX9_count 83 = .ok (.ireturn, 1) := by decide +kernel
end
section
theorem dX9_count_84 : decode cX9_count 84 = .ok (.aload_n 0, 1) := by decide +kernel
theorem dX9_count_85 : decode cX9_count 85 = .ok (.getfield 69, 3) := by decide +kernel
theorem dX9_count_88 : decode cX9_count 88 = .ok (.getfield 164, 3) := by decide +kernel
theorem dX9_count_91 : decode cX9_count 91 = .ok (.ireturn, 1) := by decide +kernel
theorem dX9_count_92 : decode cX9_count 92 = .ok (.aload_n 0, 1) := by decide +kernel
theorem dX9_count_93 : decode cX9_count 93 = .ok (.getfield 10, 3) := by decide +kernel
theorem dX9_count_96 : decode cX9_count 96 = .ok (.getfield 93, 3) := by decide +kernel
theorem dX9_count_99 : decode cX9_count 99 = .ok (.ireturn, 1) := by decide +kernel
theorem dX9_count_100 : decode cX9_count 100 = .ok (.iconst (-1), 1) := by decide +kernel
theorem dX9_count_101 : decode cX9_count 101 = .ok (.ireturn, 1) := by decide +kernel
theorem dX9_settle_0 : decode cX9_settle 0 = .ok (.aload_n 0, 1) := by decide +kernel
theorem dX9_settle_1 : decode cX9_settle 1 = .ok (.getfield 33, 3) := by decide +kernel
theorem dX9_settle_4 : decode cX9_settle 4 = .ok (.aload_n 0, 1) := by decide +kernel
theorem dX9_settle_5 : decode cX9_settle 5 = .ok (.getfield 26, 3) := by decide +kernel
theorem dX9_settle_8 : decode cX9_settle 8 = .ok (.invokevirtual 223, 3) := by decide +kernel
theorem dX9_settle_11 : decode cX9_settle 11 = .ok (.aload_n 0, 1) := by decide +kernel
theorem dX9_settle_12 : decode cX9_settle 12 = .ok (.getfield 56, 3) := by decide +kernel
theorem dX9_settle_15 : decode cX9_settle 15 = .ok (.aload_n 0, 1) := by decide +kernel
theorem dX9_settle_16 : decode cX9_settle 16 = .ok (.getfield 33, 3) := by decide +kernel
theorem dX9_settle_19 : decode cX9_settle 19 = .ok (.getfield 108, 3) := by decide +kernel
theorem dX9_settle_22 : decode cX9_settle 22 = .ok (.invokevirtual 227, 3) := by decide +kernel
theorem dX9_settle_25 : decode cX9_settle 25 = .ok (.aload_n 0, 1) := by decide +kernel
theorem dX9_settle_26 : decode cX9_settle 26 = .ok (.getfield 65, 3) := by decide +kernel
theorem dX9_settle_29 : decode cX9_settle 29 = .ok (.iconst 0, 1) := by decide +kernel
theorem dX9_settle_30 : decode cX9_settle 30 = .ok (.putfield 164, 3) := by decide +kernel
theorem dX9_settle_33 : decode cX9_settle 33 = .ok (.aload_n 0, 1) := by decide +kernel
theorem dX9_settle_34 : decode cX9_settle 34 = .ok (.getfield 69, 3) := by decide +kernel
theorem dX9_settle_37 : decode cX9_settle 37 = .ok (.iconst 0, 1) := by decide +kernel
theorem dX9_settle_38 : decode cX9_settle 38 = .ok (.putfield 164, 3) := by decide +kernel
theorem dX9_settle_41 : decode cX9_settle 41 = .ok (.aload_n 0, 1) := by decide +kernel
theorem dX9_settle_42 : decode cX9_settle 42 = .ok (.getfield 75, 3) := by decide +kernel
theorem dX9_settle_45 : decode cX9_settle 45 = .ok (.iconst 0, 1) := by decide +kernel
theorem dX9_settle_46 : decode cX9_settle 46 = .ok (.putfield 206, 3) := by decide +kernel
theorem dX9_settle_49 : decode cX9_settle 49 = .ok (.return_, 1) := by decide +kernel
theorem dX9_isPerson_0 : decode cX9_isPerson 0 = .ok (.iload_n 1, 1) := by decide +kernel
theorem dX9_isPerson_1 : decode cX9_isPerson 1 = .ok (.ifCond .lt 21, 3) := by decide +kernel
theorem dX9_isPerson_4 : decode cX9_isPerson 4 = .ok (.iload_n 1, 1) := by decide +kernel
theorem dX9_isPerson_5 : decode cX9_isPerson 5 = .ok (.aload_n 0, 1) := by decide +kernel
theorem dX9_isPerson_6 : decode cX9_isPerson 6 = .ok (.getfield 33, 3) := by decide +kernel
theorem dX9_isPerson_9 : decode cX9_isPerson 9 = .ok (.getfield 108, 3) := by decide +kernel
theorem dX9_isPerson_12 : decode cX9_isPerson 12 = .ok (.getfield 105, 3) := by decide +kernel
theorem dX9_isPerson_15 : decode cX9_isPerson 15 = .ok (.if_icmp .ge 7, 3) := by decide +kernel
theorem dX9_isPerson_18 : decode cX9_isPerson 18 = .ok (.iconst 1, 1) := by decide +kernel
theorem dX9_isPerson_19 : decode cX9_isPerson 19 = .ok (.goto 4, 3) := by decide +kernel
theorem dX9_isPerson_22 : decode cX9_isPerson 22 = .ok (.iconst 0, 1) := by decide +kernel
theorem dX9_isPerson_23 : decode cX9_isPerson 23 = .ok (.ireturn, 1) := by decide +kernel
theorem dX9_isSet_0 : decode cX9_isSet 0 = .ok (.iload_n 1, 1) := by decide +kernel
theorem dX9_isSet_1 : decode cX9_isSet 1 = .ok (.ifCond .lt 21, 3) := by decide +kernel
theorem dX9_isSet_4 : decode cX9_isSet 4 = .ok (.iload_n 1, 1) := by decide +kernel
theorem dX9_isSet_5 : decode cX9_isSet 5 = .ok (.aload_n 0, 1) := by decide +kernel
theorem dX9_isSet_6 : decode cX9_isSet 6 = .ok (.getfield 33, 3) := by decide +kernel
theorem dX9_isSet_9 : decode cX9_isSet 9 = .ok (.getfield 108, 3) := by decide +kernel
theorem dX9_isSet_12 : decode cX9_isSet 12 = .ok (.invokevirtual 230, 3) := by decide +kernel
theorem dX9_isSet_15 : decode cX9_isSet 15 = .ok (.if_icmp .ge 7, 3) := by decide +kernel
theorem dX9_isSet_18 : decode cX9_isSet 18 = .ok (.iconst 1, 1) := by decide +kernel
theorem dX9_isSet_19 : decode cX9_isSet 19 = .ok (.goto 4, 3) := by decide +kernel
theorem dX9_isSet_22 : decode cX9_isSet 22 = .ok (.iconst 0, 1) := by decide +kernel
theorem dX9_isSet_23 : decode cX9_isSet 23 = .ok (.ireturn, 1) := by decide +kernel
theorem dX9_season_0 : decode cX9_season 0 = .ok (.aload_n 0, 1) := by decide +kernel
theorem dX9_season_1 : decode cX9_season 1 = .ok (.getfield 33, 3) := by decide +kernel
theorem dX9_season_4 : decode cX9_season 4 = .ok (.getfield 108, 3) := by decide +kernel
theorem dX9_season_7 : decode cX9_season 7 = .ok (.getfield 233, 3) := by decide +kernel
theorem dX9_season_10 : decode cX9_season 10 = .ok (.ireturn, 1) := by decide +kernel
theorem dX9_canPay_0 : decode cX9_canPay 0 = .ok (.iconst 0, 1) := by decide +kernel
theorem dX9_canPay_1 : decode cX9_canPay 1 = .ok (.istore_n 2, 1) := by decide +kernel
theorem dX9_canPay_2 : decode cX9_canPay 2 = .ok (.iload_n 2, 1) := by decide +kernel
theorem dX9_canPay_3 : decode cX9_canPay 3 = .ok (.aload_n 0, 1) := by decide +kernel
theorem dX9_canPay_4 : decode cX9_canPay 4 = .ok (.getfield 33, 3) := by decide +kernel
theorem dX9_canPay_7 : decode cX9_canPay 7 = .ok (.getfield 108, 3) := by decide +kernel
theorem dX9_canPay_10 : decode cX9_canPay 10 = .ok (.getfield 105, 3) := by decide +kernel
theorem dX9_canPay_13 : decode cX9_canPay 13 = .ok (.if_icmp .ge 47, 3) := by decide +kernel
theorem dX9_canPay_16 : decode cX9_canPay 16 = .ok (.iload_n 1, 1) := by decide +kernel
theorem dX9_canPay_17 : decode cX9_canPay 17 = .ok (.iload_n 2, 1) := by decide +kernel
theorem dX9_canPay_18 : decode cX9_canPay 18 = .ok (.invokestatic 145, 3) := by decide +kernel
theorem dX9_canPay_21 : decode cX9_canPay 21 = .ok (.ifCond .eq 33, 3) := by decide +kernel
theorem dX9_canPay_24 : decode cX9_canPay 24 = .ok (.aload_n 0, 1) := by decide +kernel
theorem dX9_canPay_25 : decode cX9_canPay 25 = .ok (.getfield 56, 3) := by decide +kernel
theorem dX9_canPay_28 : decode cX9_canPay 28 = .ok (.iload_n 2, 1) := by decide +kernel
theorem dX9_canPay_29 : decode cX9_canPay 29 = .ok (.invokevirtual 114, 3) := by decide +kernel
theorem dX9_canPay_32 : decode cX9_canPay 32 = .ok (.aload_n 0, 1) := by decide +kernel
theorem dX9_canPay_33 : decode cX9_canPay 33 = .ok (.getfield 33, 3) := by decide +kernel
theorem dX9_canPay_36 : decode cX9_canPay 36 = .ok (.iload_n 2, 1) := by decide +kernel
theorem dX9_canPay_37 : decode cX9_canPay 37 = .ok (.aload_n 0, 1) := by decide +kernel
theorem dX9_canPay_38 : decode cX9_canPay 38 = .ok (.getfield 56, 3) := by decide +kernel
theorem dX9_canPay_41 : decode cX9_canPay 41 = .ok (.getfield 135, 3) := by decide +kernel
theorem dX9_canPay_44 : decode cX9_canPay 44 = .ok (.iload_n 1, 1) := by decide +kernel
theorem dX9_canPay_45 : decode cX9_canPay 45 = .ok (.ior, 1) := by decide +kernel
theorem dX9_canPay_46 : decode cX9_canPay 46 = .ok (.invokevirtual 149, 3) := by decide +kernel
theorem dX9_canPay_49 : decode cX9_canPay 49 = .ok (.if_icmp .ge 5, 3) := by decide +kernel
theorem dX9_canPay_52 : decode cX9_canPay 52 = .ok (.iconst 0, 1) := by decide +kernel
theorem dX9_canPay_53 : decode cX9_canPay 53 = .ok (.ireturn, 1) := by decide +kernel
theorem dX9_canPay_54 : decode cX9_canPay 54 = .ok (.iinc 2 1, 3) := by decide +kernel
theorem dX9_canPay_57 : decode cX9_canPay 57 = .ok (.goto (-55), 3) := by decide +kernel
theorem dX9_canPay_60 : decode cX9_canPay 60 = .ok (.iconst 1, 1) := by decide +kernel
theorem dX9_canPay_61 : decode cX9_canPay 61 = .ok (.ireturn, 1) := by decide +kernel
theorem dX9_isEither_0 : decode cX9_isEither 0 = .ok (.iload_n 0, 1) := by decide +kernel
theorem dX9_isEither_1 : decode cX9_isEither 1 = .ok (.ifCond .eq 8, 3) := by decide +kernel
theorem dX9_isEither_4 : decode cX9_isEither 4 = .ok (.iload_n 0, 1) := by decide +kernel
theorem dX9_isEither_5 : decode cX9_isEither 5 = .ok (.iconst 1, 1) := by decide +kernel
theorem dX9_isEither_6 : decode cX9_isEither 6 = .ok (.if_icmp .ne 7, 3) := by decide +kernel
theorem dX9_isEither_9 : decode cX9_isEither 9 = .ok (.iconst 1, 1) := by decide +kernel
theorem dX9_isEither_10 : decode cX9_isEither 10 = .ok (.goto 4, 3) := by decide +kernel
theorem dX9_isEither_13 : decode cX9_isEither 13 = .ok (.iconst 0, 1) := by decide +kernel
theorem dX9_isEither_14 : decode cX9_isEither 14 = .ok (.ireturn, 1) := by decide +kernel
theorem dX9_bit_0 : decode cX9_bit 0 = .ok (.iconst 1, 1) := by decide +kernel
theorem dX9_bit_1 : decode cX9_bit 1 = .ok (.iload_n 0, 1) := by decide +kernel
theorem dX9_bit_2 : decode cX9_bit 2 = .ok (.ishl, 1) := by decide +kernel
theorem dX9_bit_3 : decode cX9_bit 3 = .ok (.ireturn, 1) := by decide +kernel
theorem dX9_has_0 : decode cX9_has 0 = .ok (.iload_n 0, 1) := by decide +kernel
theorem dX9_has_1 : decode cX9_has 1 = .ok (.iload_n 1, 1) := by decide +kernel
theorem dX9_has_2 : decode cX9_has 2 = .ok (.invokestatic 156, 3) := by decide +kernel
theorem dX9_has_5 : decode cX9_has 5 = .ok (.iand, 1) := by decide +kernel
theorem dX9_has_6 : decode cX9_has 6 = .ok (.ifCond .eq 7, 3) := by decide +kernel
theorem dX9_has_9 : decode cX9_has 9 = .ok (.iconst 1, 1) := by decide +kernel
theorem dX9_has_10 : decode cX9_has 10 = .ok (.goto 4, 3) := by decide +kernel
theorem dX9_has_13 : decode cX9_has 13 = .ok (.iconst 0, 1) := by decide +kernel
theorem dX9_has_14 : decode cX9_has 14 = .ok (.ireturn, 1) := by decide +kernel
theorem dX9_at_0 : decode cX9_at 0 = .ok (.iload_n 1, 1) := by decide +kernel
theorem dX9_at_1 : decode cX9_at 1 = .ok (.ifCond .lt 15, 3) := by decide +kernel
theorem dX9_at_4 : decode cX9_at 4 = .ok (.iload_n 1, 1) := by decide +kernel
theorem dX9_at_5 : decode cX9_at 5 = .ok (.aload_n 0, 1) := by decide +kernel
theorem dX9_at_6 : decode cX9_at 6 = .ok (.arraylength, 1) := by decide +kernel
theorem dX9_at_7 : decode cX9_at 7 = .ok (.if_icmp .ge 9, 3) := by decide +kernel
theorem dX9_at_10 : decode cX9_at 10 = .ok (.aload_n 0, 1) := by decide +kernel
theorem dX9_at_11 : decode cX9_at 11 = .ok (.iload_n 1, 1) := by decide +kernel
theorem dX9_at_12 : decode cX9_at 12 = .ok (.iaload, 1) := by decide +kernel
theorem dX9_at_13 : decode cX9_at 13 = .ok (.goto 4, 3) := by decide +kernel
theorem dX9_at_16 : decode cX9_at 16 = .ok (.iconst 0, 1) := by decide +kernel
theorem dX9_at_17 : decode cX9_at 17 = .ok (.ireturn, 1) := by decide +kernel
theorem dX9_put_0 : decode cX9_put 0 = .ok (.iload_n 1, 1) := by decide +kernel
theorem dX9_put_1 : decode cX9_put 1 = .ok (.ifCond .lt 13, 3) := by decide +kernel
theorem dX9_put_4 : decode cX9_put 4 = .ok (.iload_n 1, 1) := by decide +kernel
theorem dX9_put_5 : decode cX9_put 5 = .ok (.aload_n 0, 1) := by decide +kernel
theorem dX9_put_6 : decode cX9_put 6 = .ok (.arraylength, 1) := by decide +kernel
theorem dX9_put_7 : decode cX9_put 7 = .ok (.if_icmp .ge 7, 3) := by decide +kernel
theorem dX9_put_10 : decode cX9_put 10 = .ok (.aload_n 0, 1) := by decide +kernel
theorem dX9_put_11 : decode cX9_put 11 = .ok (.iload_n 1, 1) := by decide +kernel
theorem dX9_put_12 : decode cX9_put 12 = .ok (.iload_n 2, 1) := by decide +kernel
theorem dX9_put_13 : decode cX9_put 13 = .ok (.iastore, 1) := by decide +kernel
theorem dX9_put_14 : decode cX9_put 14 = .ok (.return_, 1) := by decide +kernel
theorem dX9_valueOf_0 : decode cX9_valueOf 0 = .ok (.iload_n 0, 1) := by decide +kernel
theorem dX9_valueOf_1 : decode cX9_valueOf 1 = .ok (.iconst 1, 1) := by decide +kernel
theorem dX9_valueOf_2 : decode cX9_valueOf 2 = .ok (.if_icmp .ne 10, 3) := by decide +kernel
theorem dX9_valueOf_5 : decode cX9_valueOf 5 = .ok (.iload 4, 2) := by decide +kernel
theorem dX9_valueOf_7 : decode cX9_valueOf 7 = .ok (.ifCond .le 5, 3) := by decide +kernel
theorem dX9_valueOf_10 : decode cX9_valueOf 10 = .ok (.iconst 0, 1) := by decide +kernel
theorem dX9_valueOf_11 : decode cX9_valueOf 11 = .ok (.ireturn, 1) := by decide +kernel
theorem dX9_valueOf_12 : decode cX9_valueOf 12 = .ok (.iload_n 0, 1) := by decide +kernel
theorem dX9_valueOf_13 : decode cX9_valueOf 13 = .ok (.iconst 2, 1) := by decide +kernel
theorem dX9_valueOf_14 : decode cX9_valueOf 14 = .ok (.if_icmp .ne 10, 3) := by decide +kernel
theorem dX9_valueOf_17 : decode cX9_valueOf 17 = .ok (.iload 4, 2) := by decide +kernel
theorem dX9_valueOf_19 : decode cX9_valueOf 19 = .ok (.ifCond .le 5, 3) := by decide +kernel
theorem dX9_valueOf_22 : decode cX9_valueOf 22 = .ok (.iconst (-1), 1) := by decide +kernel
theorem dX9_valueOf_23 : decode cX9_valueOf 23 = .ok (.ireturn, 1) := by decide +kernel
theorem dX9_valueOf_24 : decode cX9_valueOf 24 = .ok (.iload_n 0, 1) := by decide +kernel
theorem dX9_valueOf_25 : decode cX9_valueOf 25 = .ok (.iconst 3, 1) := by decide +kernel
theorem dX9_valueOf_26 : decode cX9_valueOf 26 = .ok (.if_icmp .ne 11, 3) := by decide +kernel
theorem dX9_valueOf_29 : decode cX9_valueOf 29 = .ok (.iload 4, 2) := by decide +kernel
theorem dX9_valueOf_31 : decode cX9_valueOf 31 = .ok (.iconst 2, 1) := by decide +kernel
theorem dX9_valueOf_32 : decode cX9_valueOf 32 = .ok (.if_icmp .ge 5, 3) := by decide +kernel
theorem dX9_valueOf_35 : decode cX9_valueOf 35 = .ok (.iconst 0, 1) := by decide +kernel
theorem dX9_valueOf_36 : decode cX9_valueOf 36 = .ok (.ireturn, 1) := by decide +kernel
theorem dX9_valueOf_37 : decode cX9_valueOf 37 = .ok (.iload_n 1, 1) := by decide +kernel
theorem dX9_valueOf_38 : decode cX9_valueOf 38 = .ok (.iload_n 3, 1) := by decide +kernel
theorem dX9_valueOf_39 : decode cX9_valueOf 39 = .ok (.bipush 50, 2) := by decide +kernel
theorem dX9_valueOf_41 : decode cX9_valueOf 41 = .ok (.isub, 1) := by decide +kernel
theorem dX9_valueOf_42 : decode cX9_valueOf 42 = .ok (.iadd, 1) := by decide +kernel
theorem dX9_valueOf_43 : decode cX9_valueOf 43 = .ok (.iload_n 2, 1) := by decide +kernel
theorem dX9_valueOf_44 : decode cX9_valueOf 44 = .ok (.bipush 9, 2) := by decide +kernel
theorem dX9_valueOf_46 : decode cX9_valueOf 46 = .ok (.isub, 1) := by decide +kernel
theorem dX9_valueOf_47 : decode cX9_valueOf 47 = .ok (.iload 4, 2) := by decide +kernel
theorem dX9_valueOf_49 : decode cX9_valueOf 49 = .ok (.imul, 1) := by decide +kernel
theorem dX9_valueOf_50 : decode cX9_valueOf 50 = .ok (.iadd, 1) := by decide +kernel
theorem dX9_valueOf_51 : decode cX9_valueOf 51 = .ok (.ireturn, 1) := by decide +kernel
theorem dX10_init_0 : decode cX10_init 0 = .ok (.aload_n 0, 1) := by decide +kernel
theorem dX10_init_1 : decode cX10_init 1 = .ok (.invokespecial 1, 3) := by decide +kernel
theorem dX10_init_4 : decode cX10_init 4 = .ok (.aload_n 0, 1) := by decide +kernel
theorem dX10_init_5 : decode cX10_init 5 = .ok (.sipush 300, 3) := by decide +kernel
theorem dX10_init_8 : decode cX10_init 8 = .ok (.newarray .int, 2) := by decide +kernel
theorem dX10_init_10 : decode cX10_init 10 = .ok (.putfield 7, 3) := by decide +kernel
theorem dX10_init_13 : decode cX10_init 13 = .ok (.aload_n 0, 1) := by decide +kernel
theorem dX10_init_14 : decode cX10_init 14 = .ok (.iconst 3, 1) := by decide +kernel
theorem dX10_init_15 : decode cX10_init 15 = .ok (.putfield 13, 3) := by decide +kernel
theorem dX10_init_18 : decode cX10_init 18 = .ok (.aload_n 0, 1) := by decide +kernel
theorem dX10_init_19 : decode cX10_init 19 = .ok (.bipush 7, 2) := by decide +kernel
theorem dX10_init_21 : decode cX10_init 21 = .ok (.newarray .int, 2) := by decide +kernel
theorem dX10_init_23 : decode cX10_init 23 = .ok (.putfield 17, 3) := by decide +kernel
theorem dX10_init_26 : decode cX10_init 26 = .ok (.aload_n 0, 1) := by decide +kernel
theorem dX10_init_27 : decode cX10_init 27 = .ok (.bipush 7, 2) := by decide +kernel
theorem dX10_init_29 : decode cX10_init 29 = .ok (.newarray .int, 2) := by decide +kernel
theorem dX10_init_31 : decode cX10_init 31 = .ok (.putfield 20, 3) := by decide +kernel
theorem dX10_init_34 : decode cX10_init 34 = .ok (.aload_n 0, 1) := by decide +kernel
theorem dX10_init_35 : decode cX10_init 35 = .ok (.bipush 7, 2) := by decide +kernel
theorem dX10_init_37 : decode cX10_init 37 = .ok (.newarray .int, 2) := by decide +kernel
theorem dX10_init_39 : decode cX10_init 39 = .ok (.putfield 23, 3) := by decide +kernel
theorem dX10_init_42 : decode cX10_init 42 = .ok (.aload_n 0, 1) := by decide +kernel
theorem dX10_init_43 : decode cX10_init 43 = .ok (.bipush 7, 2) := by decide +kernel
theorem dX10_init_45 : decode cX10_init 45 = .ok (.newarray .int, 2) := by decide +kernel
theorem dX10_init_47 : decode cX10_init 47 = .ok (.putfield 26, 3) := by decide +kernel
theorem dX10_init_50 : decode cX10_init 50 = .ok (.aload_n 0, 1) := by decide +kernel
theorem dX10_init_51 : decode cX10_init 51 = .ok (.bipush 7, 2) := by decide +kernel
theorem dX10_init_53 : decode cX10_init 53 = .ok (.newarray .int, 2) := by decide +kernel
theorem dX10_init_55 : decode cX10_init 55 = .ok (.putfield 29, 3) := by decide +kernel
theorem dX10_init_58 : decode cX10_init 58 = .ok (.aload_n 0, 1) := by decide +kernel
theorem dX10_init_59 : decode cX10_init 59 = .ok (.bipush 50, 2) := by decide +kernel
theorem dX10_init_61 : decode cX10_init 61 = .ok (.putfield 32, 3) := by decide +kernel
theorem dX10_init_64 : decode cX10_init 64 = .ok (.aload_n 0, 1) := by decide +kernel
theorem dX10_init_65 : decode cX10_init 65 = .ok (.bipush 64, 2) := by decide +kernel
theorem dX10_init_67 : decode cX10_init 67 = .ok (.newarray .int, 2) := by decide +kernel
theorem dX10_init_69 : decode cX10_init 69 = .ok (.putfield 35, 3) := by decide +kernel
theorem dX10_init_72 : decode cX10_init 72 = .ok (.aload_n 0, 1) := by decide +kernel
theorem dX10_init_73 : decode cX10_init 73 = .ok (.bipush 16, 2) := by decide +kernel
theorem dX10_init_75 : decode cX10_init 75 = .ok (.newarray .int, 2) := by decide +kernel
theorem dX10_init_77 : decode cX10_init 77 = .ok (.putfield 38, 3) := by decide +kernel
theorem dX10_init_80 : decode cX10_init 80 = .ok (.aload_n 0, 1) := by decide +kernel
theorem dX10_init_81 : decode cX10_init 81 = .ok (.bipush 8, 2) := by decide +kernel
theorem dX10_init_83 : decode cX10_init 83 = .ok (.newarray .int, 2) := by decide +kernel
theorem dX10_init_85 : decode cX10_init 85 = .ok (.putfield 41, 3) := by decide +kernel
theorem dX10_init_88 : decode cX10_init 88 = .ok (.aload_n 0, 1) := by decide +kernel
theorem dX10_init_89 : decode cX10_init 89 = .ok (.bipush 8, 2) := by decide +kernel
theorem dX10_init_91 : decode cX10_init 91 = .ok (.newarray .int, 2) := by decide +kernel
theorem dX10_init_93 : decode cX10_init 93 = .ok (.putfield 44, 3) := by decide +kernel
theorem dX10_init_96 : decode cX10_init 96 = .ok (.aload_n 0, 1) := by decide +kernel
theorem dX10_init_97 : decode cX10_init 97 = .ok (.bipush 8, 2) := by decide +kernel
theorem dX10_init_99 : decode cX10_init 99 = .ok (.newarray .boolean, 2) := by decide +kernel
theorem dX10_init_101 : decode cX10_init 101 = .ok (.putfield 47, 3) := by decide +kernel
theorem dX10_init_104 : decode cX10_init 104 = .ok (.aload_n 0, 1) := by decide +kernel
theorem dX10_init_105 : decode cX10_init 105 = .ok (.bipush 35, 2) := by decide +kernel
theorem dX10_init_107 : decode cX10_init 107 = .ok (.newarray .int, 2) := by decide +kernel
theorem dX10_init_109 : decode cX10_init 109 = .ok (.putfield 51, 3) := by decide +kernel
theorem dX10_init_112 : decode cX10_init 112 = .ok (.aload_n 0, 1) := by decide +kernel
theorem dX10_init_113 : decode cX10_init 113 = .ok (.sipush 128, 3) := by decide +kernel
theorem dX10_init_116 : decode cX10_init 116 = .ok (.newarray .int, 2) := by decide +kernel
theorem dX10_init_118 : decode cX10_init 118 = .ok (.putfield 54, 3) := by decide +kernel
theorem dX10_init_121 : decode cX10_init 121 = .ok (.iconst 0, 1) := by decide +kernel
theorem dX10_init_122 : decode cX10_init 122 = .ok (.istore_n 1, 1) := by decide +kernel
theorem dX10_init_123 : decode cX10_init 123 = .ok (.iload_n 1, 1) := by decide +kernel
theorem dX10_init_124 : decode cX10_init 124 = .ok (.iconst 3, 1) := by decide +kernel
theorem dX10_init_125 : decode cX10_init 125 = .ok (.if_icmp .ge 52, 3) := by decide +kernel
theorem dX10_init_128 : decode cX10_init 128 = .ok (.aload_n 0, 1) := by decide +kernel
theorem dX10_init_129 : decode cX10_init 129 = .ok (.getfield 20, 3) := by decide +kernel
theorem dX10_init_132 : decode cX10_init 132 = .ok (.iload_n 1, 1) := by decide +kernel
theorem dX10_init_133 : decode cX10_init 133 = .ok (.bipush 9, 2) := by decide +kernel
theorem dX10_init_135 : decode cX10_init 135 = .ok (.iconst 4, 1) := by decide +kernel
theorem dX10_init_136 : decode cX10_init 136 = .ok (.iload_n 1, 1) := by decide +kernel
theorem dX10_init_137 : decode cX10_init 137 = .ok (.iconst 2, 1) := by decide +kernel
theorem dX10_init_138 : decode cX10_init 138 = .ok (.irem, 1) := by decide +kernel
theorem dX10_init_139 : decode cX10_init 139 = .ok (.imul, 1) := by decide +kernel
theorem dX10_init_140 : decode cX10_init 140 = .ok (.isub, 1) := by decide +kernel
theorem dX10_init_141 : decode cX10_init 141 = .ok (.iconst 2, 1) := by decide +kernel
theorem dX10_init_142 : decode cX10_init 142 = .ok (.iload_n 1, 1) := by decide +kernel
theorem dX10_init_143 : decode cX10_init 143 = .ok (.iconst 2, 1) := by decide +kernel
theorem dX10_init_144 : decode cX10_init 144 = .ok (.idiv, 1) := by decide +kernel
theorem dX10_init_145 : decode cX10_init 145 = .ok (.imul, 1) := by decide +kernel
theorem dX10_init_146 : decode cX10_init 146 = .ok (.isub, 1) := by decide +kernel
theorem dX10_init_147 : decode cX10_init 147 = .ok (.iastore, 1) := by decide +kernel
theorem dX10_init_148 : decode cX10_init 148 = .ok (.aload_n 0, 1) := by decide +kernel
theorem dX10_init_149 : decode cX10_init 149 = .ok (.getfield 23, 3) := by decide +kernel
theorem dX10_init_152 : decode cX10_init 152 = .ok (.iload_n 1, 1) := by decide +kernel
theorem dX10_init_153 : decode cX10_init 153 = .ok (.bipush 9, 2) := by decide +kernel
theorem dX10_init_155 : decode cX10_init 155 = .ok (.iastore, 1) := by decide +kernel
theorem dX10_init_156 : decode cX10_init 156 = .ok (.aload_n 0, 1) := by decide +kernel
theorem dX10_init_157 : decode cX10_init 157 = .ok (.getfield 26, 3) := by decide +kernel
theorem dX10_init_160 : decode cX10_init 160 = .ok (.iload_n 1, 1) := by decide +kernel
theorem dX10_init_161 : decode cX10_init 161 = .ok (.iload_n 1, 1) := by decide +kernel
theorem dX10_init_162 : decode cX10_init 162 = .ok (.iastore, 1) := by decide +kernel
theorem dX10_init_163 : decode cX10_init 163 = .ok (.aload_n 0, 1) := by decide +kernel
theorem dX10_init_164 : decode cX10_init 164 = .ok (.getfield 29, 3) := by decide +kernel
theorem dX10_init_167 : decode cX10_init 167 = .ok (.iload_n 1, 1) := by decide +kernel
theorem dX10_init_168 : decode cX10_init 168 = .ok (.bipush 9, 2) := by decide +kernel
theorem dX10_init_170 : decode cX10_init 170 = .ok (.iastore, 1) := by decide +kernel
theorem dX10_init_171 : decode cX10_init 171 = .ok (.iinc 1 1, 3) := by decide +kernel
theorem dX10_init_174 : decode cX10_init 174 = .ok (.goto (-51), 3) := by decide +kernel
theorem dX10_init_177 : decode cX10_init 177 = .ok (.aload_n 0, 1) := by decide +kernel
theorem dX10_init_178 : decode cX10_init 178 = .ok (.getfield 17, 3) := by decide +kernel
theorem dX10_init_181 : decode cX10_init 181 = .ok (.iconst 2, 1) := by decide +kernel
theorem dX10_init_182 : decode cX10_init 182 = .ok (.iconst 2, 1) := by decide +kernel
theorem dX10_init_183 : decode cX10_init 183 = .ok (.iastore, 1) := by decide +kernel
theorem dX10_init_184 : decode cX10_init 184 = .ok (.return_, 1) := by decide +kernel
theorem dX10_in_0 : decode cX10_in 0 = .ok (.lload_n 0, 1) := by decide +kernel
theorem dX10_in_1 : decode cX10_in 1 = .ok (.lload_n 2, 1) := by decide +kernel
theorem dX10_in_2 : decode cX10_in 2 = .ok (.lcmp, 1) := by decide +kernel
theorem dX10_in_3 : decode cX10_in 3 = .ok (.ifCond .lt 14, 3) := by decide +kernel
theorem dX10_in_6 : decode cX10_in 6 = .ok (.lload_n 0, 1) := by decide +kernel
theorem dX10_in_7 : decode cX10_in 7 = .ok (.lload 4, 2) := by decide +kernel
theorem dX10_in_9 : decode cX10_in 9 = .ok (.lcmp, 1) := by decide +kernel
theorem dX10_in_10 : decode cX10_in 10 = .ok (.ifCond .gt 7, 3) := by decide +kernel
theorem dX10_in_13 : decode cX10_in 13 = .ok (.iconst 1, 1) := by decide +kernel
theorem dX10_in_14 : decode cX10_in 14 = .ok (.goto 4, 3) := by decide +kernel
theorem dX10_in_17 : decode cX10_in 17 = .ok (.iconst 0, 1) := by decide +kernel
theorem dX10_in_18 : decode cX10_in 18 = .ok (.ireturn, 1) := by decide +kernel
theorem dX10_has_0 : decode cX10_has 0 = .ok (.iload_n 0, 1) := by decide +kernel
theorem dX10_has_1 : decode cX10_has 1 = .ok (.iload_n 1, 1) := by decide +kernel
theorem dX10_has_2 : decode cX10_has 2 = .ok (.ishr, 1) := by decide +kernel
theorem dX10_has_3 : decode cX10_has 3 = .ok (.iconst 1, 1) := by decide +kernel
theorem dX10_has_4 : decode cX10_has 4 = .ok (.iand, 1) := by decide +kernel
theorem dX10_has_5 : decode cX10_has 5 = .ok (.iconst 1, 1) := by decide +kernel
theorem dX10_has_6 : decode cX10_has 6 = .ok (.if_icmp .ne 7, 3) := by decide +kernel
theorem dX10_has_9 : decode cX10_has 9 = .ok (.iconst 1, 1) := by decide +kernel
theorem dX10_has_10 : decode cX10_has 10 = .ok (.goto 4, 3) := by decide +kernel
theorem dX10_has_13 : decode cX10_has 13 = .ok (.iconst 0, 1) := by decide +kernel
theorem dX10_has_14 : decode cX10_has 14 = .ok (.ireturn, 1) := by decide +kernel
theorem dX10_bits_0 : decode cX10_bits 0 = .ok (.iconst 0, 1) := by decide +kernel
theorem dX10_bits_1 : decode cX10_bits 1 = .ok (.istore_n 1, 1) := by decide +kernel
theorem dX10_bits_2 : decode cX10_bits 2 = .ok (.iload_n 0, 1) := by decide +kernel
theorem dX10_bits_3 : decode cX10_bits 3 = .ok (.istore_n 2, 1) := by decide +kernel
theorem dX10_bits_4 : decode cX10_bits 4 = .ok (.iload_n 2, 1) := by decide +kernel
theorem dX10_bits_5 : decode cX10_bits 5 = .ok (.ifCond .eq 15, 3) := by decide +kernel
theorem dX10_bits_8 : decode cX10_bits 8 = .ok (.iinc 1 1, 3) := by decide +kernel
theorem dX10_bits_11 : decode cX10_bits 11 = .ok (.iload_n 2, 1) := by decide +kernel
theorem dX10_bits_12 : decode cX10_bits 12 = .ok (.iload_n 2, 1) := by decide +kernel
theorem dX10_bits_13 : decode cX10_bits 13 = .ok (.iconst 1, 1) := by decide +kernel
theorem dX10_bits_14 : decode cX10_bits 14 = .ok (.isub, 1) := by decide +kernel
theorem dX10_bits_15 : decode cX10_bits 15 = .ok (.iand, 1) := by decide +kernel
theorem dX10_bits_16 : decode cX10_bits 16 = .ok (.istore_n 2, 1) := by decide +kernel
theorem dX10_bits_17 : decode cX10_bits 17 = .ok (.goto (-13), 3) := by decide +kernel
theorem dX10_bits_20 : decode cX10_bits 20 = .ok (.iload_n 1, 1) := by decide +kernel
theorem dX10_bits_21 : decode cX10_bits 21 = .ok (.ireturn, 1) := by decide +kernel
theorem dX10_isPerson_0 : decode cX10_isPerson 0 = .ok (.iload_n 1, 1) := by decide +kernel
theorem dX10_isPerson_1 : decode cX10_isPerson 1 = .ok (.i2l, 1) := by decide +kernel
theorem dX10_isPerson_2 : decode cX10_isPerson 2 = .ok (.lconst 0, 1) := by decide +kernel
theorem dX10_isPerson_3 : decode cX10_isPerson 3 = .ok (.aload_n 0, 1) := by decide +kernel
theorem dX10_isPerson_4 : decode cX10_isPerson 4 = .ok (.getfield 13, 3) := by decide +kernel
theorem dX10_isPerson_7 : decode cX10_isPerson 7 = .ok (.iconst 1, 1) := by decide +kernel
theorem dX10_isPerson_8 : decode cX10_isPerson 8 = .ok (.isub, 1) := by decide +kernel
theorem dX10_isPerson_9 : decode cX10_isPerson 9 = .ok (.i2l, 1) := by decide +kernel
theorem dX10_isPerson_10 : decode cX10_isPerson 10 = .ok (.invokestatic 57, 3) := by decide +kernel
theorem dX10_isPerson_13 : decode cX10_isPerson 13 = .ok (.ireturn, 1) := by decide +kernel
theorem dX10_all_0 : decode cX10_all 0 = .ok (.iconst 1, 1) := by decide +kernel
theorem dX10_all_1 : decode cX10_all 1 = .ok (.aload_n 0, 1) := by decide +kernel
theorem dX10_all_2 : decode cX10_all 2 = .ok (.getfield 13, 3) := by decide +kernel
theorem dX10_all_5 : decode cX10_all 5 = .ok (.ishl, 1) := by decide +kernel
theorem dX10_all_6 : decode cX10_all 6 = .ok (.iconst 1, 1) := by decide +kernel
theorem dX10_all_7 : decode cX10_all 7 = .ok (.isub, 1) := by decide +kernel
theorem dX10_all_8 : decode cX10_all 8 = .ok (.ireturn, 1) := by decide +kernel
theorem dX10_write_0 : decode cX10_write 0 = .ok (.iload_n 1, 1) := by decide +kernel
theorem dX10_write_1 : decode cX10_write 1 = .ok (.i2l, 1) := by decide +kernel
theorem dX10_write_2 : decode cX10_write 2 = .ok (.lconst 1, 1) := by decide +kernel
theorem dX10_write_3 : decode cX10_write 3 = .ok (.ldc2_w 61, 3) := by decide +kernel
theorem dX10_write_6 : decode cX10_write 6 = .ok (.invokestatic 57, 3) := by decide +kernel
theorem dX10_write_9 : decode cX10_write 9 = .ok (.ifCond .ne 5, 3) := by decide +kernel
theorem dX10_write_12 : decode cX10_write 12 = .ok (.iconst (-1), 1) := by decide +kernel
theorem dX10_write_13 : decode cX10_write 13 = .ok (.ireturn, 1) := by decide +kernel
theorem dX10_write_14 : decode cX10_write 14 = .ok (.aload_n 0, 1) := by decide +kernel
theorem dX10_write_15 : decode cX10_write 15 = .ok (.getfield 63, 3) := by decide +kernel
theorem dX10_write_18 : decode cX10_write 18 = .ok (.iload_n 1, 1) := by decide +kernel
theorem dX10_write_19 : decode cX10_write 19 = .ok (.iadd, 1) := by decide +kernel
theorem dX10_write_20 : decode cX10_write 20 = .ok (.sipush 300, 3) := by decide +kernel
theorem dX10_write_23 : decode cX10_write 23 = .ok (.if_icmp .le 6, 3) := by decide +kernel
theorem dX10_write_26 : decode cX10_write 26 = .ok (.bipush (-3), 2) := by decide +kernel
theorem dX10_write_28 : decode cX10_write 28 = .ok (.ireturn, 1) := by decide +kernel
theorem dX10_write_29 : decode cX10_write 29 = .ok (.iload_n 1, 1) := by decide +kernel
theorem dX10_write_30 : decode cX10_write 30 = .ok (.iconst 1, 1) := by decide +kernel
theorem dX10_write_31 : decode cX10_write 31 = .ok (.isub, 1) := by decide +kernel
theorem dX10_write_32 : decode cX10_write 32 = .ok (.istore 4, 2) := by decide +kernel
theorem dX10_write_34 : decode cX10_write 34 = .ok (.iload 4, 2) := by decide +kernel
theorem dX10_write_36 : decode cX10_write 36 = .ok (.ifCond .lt 40, 3) := by decide +kernel
theorem dX10_write_39 : decode cX10_write 39 = .ok (.aload_n 0, 1) := by decide +kernel
theorem dX10_write_40 : decode cX10_write 40 = .ok (.getfield 7, 3) := by decide +kernel
theorem dX10_write_43 : decode cX10_write 43 = .ok (.aload_n 0, 1) := by decide +kernel
theorem dX10_write_44 : decode cX10_write 44 = .ok (.getfield 63, 3) := by decide +kernel
theorem dX10_write_47 : decode cX10_write 47 = .ok (.lload_n 2, 1) := by decide +kernel
theorem dX10_write_48 : decode cX10_write 48 = .ok (.bipush 8, 2) := by decide +kernel
theorem dX10_write_50 : decode cX10_write 50 = .ok (.iload 4, 2) := by decide +kernel
theorem dX10_write_52 : decode cX10_write 52 = .ok (.imul, 1) := by decide +kernel
theorem dX10_write_53 : decode cX10_write 53 = .ok (.lshr, 1) := by decide +kernel
theorem dX10_write_54 : decode cX10_write 54 = .ok (.ldc2_w 66, 3) := by decide +kernel
theorem dX10_write_57 : decode cX10_write 57 = .ok (.land, 1) := by decide +kernel
theorem dX10_write_58 : decode cX10_write 58 = .ok (.l2i, 1) := by decide +kernel
theorem dX10_write_59 : decode cX10_write 59 = .ok (.iastore, 1) := by decide +kernel
theorem dX10_write_60 : decode cX10_write 60 = .ok (.aload_n 0, 1) := by decide +kernel
theorem dX10_write_61 : decode cX10_write 61 = .ok (.dup, 1) := by decide +kernel
theorem dX10_write_62 : decode cX10_write 62 = .ok (.getfield 63, 3) := by decide +kernel
theorem dX10_write_65 : decode cX10_write 65 = .ok (.iconst 1, 1) := by decide +kernel
theorem dX10_write_66 : decode cX10_write 66 = .ok (.iadd, 1) := by decide +kernel
theorem dX10_write_67 : decode cX10_write 67 = .ok (.putfield 63, 3) := by decide +kernel
theorem dX10_write_70 : decode cX10_write 70 = .ok (.iinc 4 (-1), 3) := by decide +kernel
theorem dX10_write_73 : decode cX10_write 73 = .ok (.goto (-39), 3) := by decide +kernel
theorem dX10_write_76 : decode cX10_write 76 = .ok (.aload_n 0, 1) := by decide +kernel
theorem dX10_write_77 : decode cX10_write 77 = .ok (.getfield 63, 3) := by decide +kernel
theorem dX10_write_80 : decode cX10_write 80 = .ok (.ireturn, 1) := by decide +kernel
theorem dX10_wipe_0 : decode cX10_wipe 0 = .ok (.aload_n 0, 1) := by decide +kernel
theorem dX10_wipe_1 : decode cX10_wipe 1 = .ok (.getfield 63, 3) := by decide +kernel
theorem dX10_wipe_4 : decode cX10_wipe 4 = .ok (.istore_n 1, 1) := by decide +kernel
theorem dX10_wipe_5 : decode cX10_wipe 5 = .ok (.aload_n 0, 1) := by decide +kernel
theorem dX10_wipe_6 : decode cX10_wipe 6 = .ok (.iconst 0, 1) := by decide +kernel
theorem dX10_wipe_7 : decode cX10_wipe 7 = .ok (.putfield 63, 3) := by decide +kernel
theorem dX10_wipe_10 : decode cX10_wipe 10 = .ok (.iload_n 1, 1) := by decide +kernel
theorem dX10_wipe_11 : decode cX10_wipe 11 = .ok (.ireturn, 1) := by decide +kernel
theorem dX10_isFigure_0 : decode cX10_isFigure 0 = .ok (.iload_n 1, 1) := by decide +kernel
theorem dX10_isFigure_1 : decode cX10_isFigure 1 = .ok (.aload_n 0, 1) := by decide +kernel
theorem dX10_isFigure_2 : decode cX10_isFigure 2 = .ok (.getfield 63, 3) := by decide +kernel
theorem dX10_isFigure_5 : decode cX10_isFigure 5 = .ok (.if_icmp .ge 26, 3) := by decide +kernel
theorem dX10_isFigure_8 : decode cX10_isFigure 8 = .ok (.aload_n 0, 1) := by decide +kernel
theorem dX10_isFigure_9 : decode cX10_isFigure 9 = .ok (.getfield 7, 3) := by decide +kernel
theorem dX10_isFigure_12 : decode cX10_isFigure 12 = .ok (.iload_n 1, 1) := by decide +kernel
theorem dX10_isFigure_13 : decode cX10_isFigure 13 = .ok (.iaload, 1) := by decide +kernel
theorem dX10_isFigure_14 : decode cX10_isFigure 14 = .ok (.i2l, 1) := by decide +kernel
theorem dX10_isFigure_15 : decode cX10_isFigure 15 = .ok (.ldc2_w 68, 3) := by decide +kernel
theorem dX10_isFigure_18 : decode cX10_isFigure 18 = .ok (.ldc2_w 70, 3) := by decide +kernel
theorem dX10_isFigure_21 : decode cX10_isFigure 21 = .ok (.invokestatic 57, 3) := by decide +kernel
theorem dX10_isFigure_24 : decode cX10_isFigure 24 = .ok (.ifCond .eq 7, 3) := by decide +kernel
theorem dX10_isFigure_27 : decode cX10_isFigure 27 = .ok (.iconst 1, 1) := by decide +kernel
theorem dX10_isFigure_28 : decode cX10_isFigure 28 = .ok (.goto 4, 3) := by decide +kernel
theorem dX10_isFigure_31 : decode cX10_isFigure 31 = .ok (.iconst 0, 1) := by decide +kernel
theorem dX10_isFigure_32 : decode cX10_isFigure 32 = .ok (.ireturn, 1) := by decide +kernel
theorem dX10_number_0 : decode cX10_number 0 = .ok (.iconst 0, 1) := by decide +kernel
theorem dX10_number_1 : decode cX10_number 1 = .ok (.istore_n 3, 1) := by decide +kernel
theorem dX10_number_2 : decode cX10_number 2 = .ok (.iconst 0, 1) := by decide +kernel
theorem dX10_number_3 : decode cX10_number 3 = .ok (.istore 4, 2) := by decide +kernel
theorem dX10_number_5 : decode cX10_number 5 = .ok (.iload 4, 2) := by decide +kernel
theorem dX10_number_7 : decode cX10_number 7 = .ok (.iconst 2, 1) := by decide +kernel
theorem dX10_number_8 : decode cX10_number 8 = .ok (.if_icmp .ge 48, 3) := by decide +kernel
theorem dX10_number_11 : decode cX10_number 11 = .ok (.aload_n 0, 1) := by decide +kernel
theorem dX10_number_12 : decode cX10_number 12 = .ok (.aload_n 0, 1) := by decide +kernel
theorem dX10_number_13 : decode cX10_number 13 = .ok (.getfield 72, 3) := by decide +kernel
theorem dX10_number_16 : decode cX10_number 16 = .ok (.invokevirtual 75, 3) := by decide +kernel
theorem dX10_number_19 : decode cX10_number 19 = .ok (.ifCond .eq 37, 3) := by decide +kernel
theorem dX10_number_22 : decode cX10_number 22 = .ok (.bipush 10, 2) := by decide +kernel
theorem dX10_number_24 : decode cX10_number 24 = .ok (.iload_n 3, 1) := by decide +kernel
theorem dX10_number_25 : decode cX10_number 25 = .ok (.imul, 1) := by decide +kernel
theorem dX10_number_26 : decode cX10_number 26 = .ok (.aload_n 0, 1) := by decide +kernel
theorem dX10_number_27 : decode cX10_number 27 = .ok (.getfield 7, 3) := by decide +kernel
theorem dX10_number_30 : decode cX10_number 30 = .ok (.aload_n 0, 1) := by decide +kernel
theorem dX10_number_31 : decode cX10_number 31 = .ok (.getfield 72, 3) := by decide +kernel
theorem dX10_number_34 : decode cX10_number 34 = .ok (.iaload, 1) := by decide +kernel
theorem dX10_number_35 : decode cX10_number 35 = .ok (.iadd, 1) := by decide +kernel
theorem dX10_number_36 : decode cX10_number 36 = .ok (.bipush 48, 2) := by decide +kernel
theorem dX10_number_38 : decode cX10_number 38 = .ok (.isub, 1) := by decide +kernel
theorem dX10_number_39 : decode cX10_number 39 = .ok (.istore_n 3, 1) := by decide +kernel
theorem dX10_number_40 : decode cX10_number 40 = .ok (.iinc 4 1, 3) := by decide +kernel
theorem dX10_number_43 : decode cX10_number 43 = .ok (.aload_n 0, 1) := by decide +kernel
theorem dX10_number_44 : decode cX10_number 44 = .ok (.dup, 1) := by decide +kernel
theorem dX10_number_45 : decode cX10_number 45 = .ok (.getfield 72, 3) := by decide +kernel
theorem dX10_number_48 : decode cX10_number 48 = .ok (.iconst 1, 1) := by decide +kernel
theorem dX10_number_49 : decode cX10_number 49 = .ok (.iadd, 1) := by decide +kernel
theorem dX10_number_50 : decode cX10_number 50 = .ok (.putfield 72, 3) := by decide +kernel
theorem dX10_number_53 : decode cX10_number 53 = .ok (.goto (-48), 3) := by decide +kernel
theorem dX10_number_56 : decode cX10_number 56 = .ok (.iload 4, 2) := by decide +kernel
theorem dX10_number_58 : decode cX10_number 58 = .ok (.ifCond .eq 32, 3) := by decide +kernel
theorem dX10_number_61 : decode cX10_number 61 = .ok (.iload_n 3, 1) := by decide +kernel
theorem dX10_number_62 : decode cX10_number 62 = .ok (.iload_n 1, 1) := by decide +kernel
theorem dX10_number_63 : decode cX10_number 63 = .ok (.if_icmp .gt 27, 3) := by decide +kernel
theorem dX10_number_66 : decode cX10_number 66 = .ok (.aload_n 0, 1) := by decide +kernel
theorem dX10_number_67 : decode cX10_number 67 = .ok (.getfield 72, 3) := by decide +kernel
theorem dX10_number_70 : decode cX10_number 70 = .ok (.aload_n 0, 1) := by decide +kernel
theorem dX10_number_71 : decode cX10_number 71 = .ok (.getfield 63, 3) := by decide +kernel
theorem dX10_number_74 : decode cX10_number 74 = .ok (.if_icmp .ge 16, 3) := by decide +kernel
theorem dX10_number_77 : decode cX10_number 77 = .ok (.aload_n 0, 1) := by decide +kernel
theorem dX10_number_78 : decode cX10_number 78 = .ok (.getfield 7, 3) := by decide +kernel
theorem dX10_number_81 : decode cX10_number 81 = .ok (.aload_n 0, 1) := by decide +kernel
theorem dX10_number_82 : decode cX10_number 82 = .ok (.getfield 72, 3) := by decide +kernel
theorem dX10_number_85 : decode cX10_number 85 = .ok (.iaload, 1) := by decide +kernel
theorem dX10_number_86 : decode cX10_number 86 = .ok (.iload_n 2, 1) := by decide +kernel
theorem dX10_number_87 : decode cX10_number 87 = .ok (.if_icmp .eq 6, 3) := by decide +kernel
theorem dX10_number_90 : decode cX10_number 90 = .ok (.bipush (-4), 2) := by decide +kernel
theorem dX10_number_92 : decode cX10_number 92 = .ok (.ireturn, 1) := by decide +kernel
theorem dX10_number_93 : decode cX10_number 93 = .ok (.aload_n 0, 1) := by decide +kernel
theorem dX10_number_94 : decode cX10_number 94 = .ok (.dup, 1) := by decide +kernel
theorem dX10_number_95 : decode cX10_number 95 = .ok (.getfield 72, 3) := by decide +kernel
theorem dX10_number_98 : decode cX10_number 98 = .ok (.iconst 1, 1) := by decide +kernel
theorem dX10_number_99 : decode cX10_number 99 = .ok (.iadd, 1) := by decide +kernel
theorem dX10_number_100 : decode cX10_number 100 = .ok (.putfield 72, 3) := by decide +kernel
theorem dX10_number_103 : decode cX10_number 103 = .ok (.iload_n 3, 1) := by decide +kernel
theorem dX10_number_104 : decode cX10_number 104 = .ok (.ireturn, 1) := by decide +kernel
theorem dX10_mostOf_0 : decode cX10_mostOf 0 = .ok (.iload_n 0, 1) := by decide +kernel
theorem dX10_mostOf_1 : decode cX10_mostOf 1 = .ok (.ifCond .ne 7, 3) := by decide +kernel
theorem dX10_mostOf_4 : decode cX10_mostOf 4 = .ok (.iconst 3, 1) := by decide +kernel
theorem dX10_mostOf_5 : decode cX10_mostOf 5 = .ok (.goto 25, 3) := by decide +kernel
theorem dX10_mostOf_8 : decode cX10_mostOf 8 = .ok (.iload_n 0, 1) := by decide +kernel
theorem dX10_mostOf_9 : decode cX10_mostOf 9 = .ok (.iconst 2, 1) := by decide +kernel
theorem dX10_mostOf_10 : decode cX10_mostOf 10 = .ok (.if_icmp .ne 8, 3) := by decide +kernel
theorem dX10_mostOf_13 : decode cX10_mostOf 13 = .ok (.bipush 18, 2) := by decide +kernel
theorem dX10_mostOf_15 : decode cX10_mostOf 15 = .ok (.goto 15, 3) := by decide +kernel
theorem dX10_mostOf_18 : decode cX10_mostOf 18 = .ok (.iload_n 0, 1) := by decide +kernel
theorem dX10_mostOf_19 : decode cX10_mostOf 19 = .ok (.iconst 3, 1) := by decide +kernel
theorem dX10_mostOf_20 : decode cX10_mostOf 20 = .ok (.if_icmp .ne 8, 3) := by decide +kernel
theorem dX10_mostOf_23 : decode cX10_mostOf 23 = .ok (.bipush 7, 2) := by decide +kernel
theorem dX10_mostOf_25 : decode cX10_mostOf 25 = .ok (.goto 5, 3) := by decide +kernel
theorem dX10_mostOf_28 : decode cX10_mostOf 28 = .ok (.bipush 99, 2) := by decide +kernel
theorem dX10_mostOf_30 : decode cX10_mostOf 30 = .ok (.ireturn, 1) := by decide +kernel
theorem dX10_takesPerson_0 : decode cX10_takesPerson 0 = .ok (.aload_n 0, 1) := by decide +kernel
theorem dX10_takesPerson_1 : decode cX10_takesPerson 1 = .ok (.getfield 79, 3) := by decide +kernel
theorem dX10_takesPerson_4 : decode cX10_takesPerson 4 = .ok (.bipush 7, 2) := by decide +kernel
theorem dX10_takesPerson_6 : decode cX10_takesPerson 6 = .ok (.if_icmp .ne 5, 3) := by decide +kernel
theorem dX10_takesPerson_9 : decode cX10_takesPerson 9 = .ok (.iconst 0, 1) := by decide +kernel
theorem dX10_takesPerson_10 : decode cX10_takesPerson 10 = .ok (.ireturn, 1) := by decide +kernel
theorem dX10_takesPerson_11 : decode cX10_takesPerson 11 = .ok (.iconst 0, 1) := by decide +kernel
theorem dX10_takesPerson_12 : decode cX10_takesPerson 12 = .ok (.istore_n 1, 1) := by decide +kernel
theorem dX10_takesPerson_13 : decode cX10_takesPerson 13 = .ok (.iload_n 1, 1) := by decide +kernel
theorem dX10_takesPerson_14 : decode cX10_takesPerson 14 = .ok (.iconst 5, 1) := by decide +kernel
theorem dX10_takesPerson_15 : decode cX10_takesPerson 15 = .ok (.if_icmp .ge 52, 3) := by decide +kernel
theorem dX10_takesPerson_18 : decode cX10_takesPerson 18 = .ok (.aload_n 0, 1) := by decide +kernel
theorem dX10_takesPerson_19 : decode cX10_takesPerson 19 = .ok (.iload_n 1, 1) := by decide +kernel
theorem dX10_takesPerson_20 : decode cX10_takesPerson 20 = .ok (.invokestatic 82, 3) := by decide +kernel
theorem dX10_takesPerson_23 : decode cX10_takesPerson 23 = .ok (.iload_n 1, 1) := by decide +kernel
theorem dX10_takesPerson_24 : decode cX10_takesPerson 24 = .ok (.iconst 4, 1) := by decide +kernel
theorem dX10_takesPerson_25 : decode cX10_takesPerson 25 = .ok (.if_icmp .ge 8, 3) := by decide +kernel
theorem dX10_takesPerson_28 : decode cX10_takesPerson 28 = .ok (.bipush 44, 2) := by decide +kernel
theorem dX10_takesPerson_30 : decode cX10_takesPerson 30 = .ok (.goto 5, 3) := by decide +kernel
theorem dX10_takesPerson_33 : decode cX10_takesPerson 33 = .ok (.bipush 59, 2) := by decide +kernel
theorem dX10_takesPerson_35 : decode cX10_takesPerson 35 = .ok (.invokevirtual 86, 3) := by decide +kernel
theorem dX10_takesPerson_38 : decode cX10_takesPerson 38 = .ok (.istore_n 2, 1) := by decide +kernel
theorem dX10_takesPerson_39 : decode cX10_takesPerson 39 = .ok (.iload_n 2, 1) := by decide +kernel
theorem dX10_takesPerson_40 : decode cX10_takesPerson 40 = .ok (.bipush (-4), 2) := by decide +kernel
theorem dX10_takesPerson_42 : decode cX10_takesPerson 42 = .ok (.if_icmp .ne 5, 3) := by decide +kernel
theorem dX10_takesPerson_45 : decode cX10_takesPerson 45 = .ok (.iconst 0, 1) := by decide +kernel
theorem dX10_takesPerson_46 : decode cX10_takesPerson 46 = .ok (.ireturn, 1) := by decide +kernel
theorem dX10_takesPerson_47 : decode cX10_takesPerson 47 = .ok (.aload_n 0, 1) := by decide +kernel
theorem dX10_takesPerson_48 : decode cX10_takesPerson 48 = .ok (.getfield 51, 3) := by decide +kernel
theorem dX10_takesPerson_51 : decode cX10_takesPerson 51 = .ok (.iconst 5, 1) := by decide +kernel
theorem dX10_takesPerson_52 : decode cX10_takesPerson 52 = .ok (.aload_n 0, 1) := by decide +kernel
theorem dX10_takesPerson_53 : decode cX10_takesPerson 53 = .ok (.getfield 79, 3) := by decide +kernel
theorem dX10_takesPerson_56 : decode cX10_takesPerson 56 = .ok (.imul, 1) := by decide +kernel
theorem dX10_takesPerson_57 : decode cX10_takesPerson 57 = .ok (.iload_n 1, 1) := by decide +kernel
theorem dX10_takesPerson_58 : decode cX10_takesPerson 58 = .ok (.iadd, 1) := by decide +kernel
theorem dX10_takesPerson_59 : decode cX10_takesPerson 59 = .ok (.iload_n 2, 1) := by decide +kernel
theorem dX10_takesPerson_60 : decode cX10_takesPerson 60 = .ok (.iastore, 1) := by decide +kernel
theorem dX10_takesPerson_61 : decode cX10_takesPerson 61 = .ok (.iinc 1 1, 3) := by decide +kernel
theorem dX10_takesPerson_64 : decode cX10_takesPerson 64 = .ok (.goto (-51), 3) := by decide +kernel
theorem dX10_takesPerson_67 : decode cX10_takesPerson 67 = .ok (.aload_n 0, 1) := by decide +kernel
theorem dX10_takesPerson_68 : decode cX10_takesPerson 68 = .ok (.dup, 1) := by decide +kernel
theorem dX10_takesPerson_69 : decode cX10_takesPerson 69 = .ok (.getfield 79, 3) := by decide +kernel
theorem dX10_takesPerson_72 : decode cX10_takesPerson 72 = .ok (.iconst 1, 1) := by decide +kernel
theorem dX10_takesPerson_73 : decode cX10_takesPerson 73 = .ok (.iadd, 1) := by decide +kernel
theorem dX10_takesPerson_74 : decode cX10_takesPerson 74 = .ok (.putfield 79, 3) := by decide +kernel
theorem dX10_takesPerson_77 : decode cX10_takesPerson 77 = .ok (.iconst 1, 1) := by decide +kernel
theorem dX10_takesPerson_78 : decode cX10_takesPerson 78 = .ok (.ireturn, 1) := by decide +kernel
theorem dX10_takesItem_0 : decode cX10_takesItem 0 = .ok (.aload_n 0, 1) := by decide +kernel
theorem dX10_takesItem_1 : decode cX10_takesItem 1 = .ok (.getfield 7, 3) := by decide +kernel
theorem dX10_takesItem_4 : decode cX10_takesItem 4 = .ok (.aload_n 0, 1) := by decide +kernel
theorem dX10_takesItem_5 : decode cX10_takesItem 5 = .ok (.getfield 72, 3) := by decide +kernel
theorem dX10_takesItem_8 : decode cX10_takesItem 8 = .ok (.iaload, 1) := by decide +kernel
theorem dX10_takesItem_9 : decode cX10_takesItem 9 = .ok (.istore_n 1, 1) := by decide +kernel
theorem dX10_takesItem_10 : decode cX10_takesItem 10 = .ok (.aload_n 0, 1) := by decide +kernel
theorem dX10_takesItem_11 : decode cX10_takesItem 11 = .ok (.dup, 1) := by decide +kernel
theorem dX10_takesItem_12 : decode cX10_takesItem 12 = .ok (.getfield 72, 3) := by decide +kernel
theorem dX10_takesItem_15 : decode cX10_takesItem 15 = .ok (.iconst 1, 1) := by decide +kernel
theorem dX10_takesItem_16 : decode cX10_takesItem 16 = .ok (.iadd, 1) := by decide +kernel
theorem dX10_takesItem_17 : decode cX10_takesItem 17 = .ok (.putfield 72, 3) := by decide +kernel
theorem dX10_takesItem_20 : decode cX10_takesItem 20 = .ok (.iload_n 1, 1) := by decide +kernel
theorem dX10_takesItem_21 : decode cX10_takesItem 21 = .ok (.bipush 112, 2) := by decide +kernel
theorem dX10_takesItem_23 : decode cX10_takesItem 23 = .ok (.if_icmp .ne 8, 3) := by decide +kernel
theorem dX10_takesItem_26 : decode cX10_takesItem 26 = .ok (.aload_n 0, 1) := by decide +kernel
theorem dX10_takesItem_27 : decode cX10_takesItem 27 = .ok (.invokevirtual 90, 3) := by decide +kernel
theorem dX10_takesItem_30 : decode cX10_takesItem 30 = .ok (.ireturn, 1) := by decide +kernel
theorem dX10_takesItem_31 : decode cX10_takesItem 31 = .ok (.iload_n 1, 1) := by decide +kernel
theorem dX10_takesItem_32 : decode cX10_takesItem 32 = .ok (.bipush 111, 2) := by decide +kernel
theorem dX10_takesItem_34 : decode cX10_takesItem 34 = .ok (.if_icmp .eq 11, 3) := by decide +kernel
theorem dX10_takesItem_37 : decode cX10_takesItem 37 = .ok (.iload_n 1, 1) := by decide +kernel
theorem dX10_takesItem_38 : decode cX10_takesItem 38 = .ok (.bipush 115, 2) := by decide +kernel
theorem dX10_takesItem_40 : decode cX10_takesItem 40 = .ok (.if_icmp .eq 5, 3) := by decide +kernel
theorem dX10_takesItem_43 : decode cX10_takesItem 43 = .ok (.iconst 0, 1) := by decide +kernel
theorem dX10_takesItem_44 : decode cX10_takesItem 44 = .ok (.ireturn, 1) := by decide +kernel
theorem dX10_takesItem_45 : decode cX10_takesItem 45 = .ok (.aload_n 0, 1) := by decide +kernel
theorem dX10_takesItem_46 : decode cX10_takesItem 46 = .ok (.iload_n 1, 1) := by decide +kernel
theorem dX10_takesItem_47 : decode cX10_takesItem 47 = .ok (.bipush 111, 2) := by decide +kernel
theorem dX10_takesItem_49 : decode cX10_takesItem 49 = .ok (.if_icmp .ne 12, 3) := by decide +kernel
theorem dX10_takesItem_52 : decode cX10_takesItem 52 = .ok (.aload_n 0, 1) := by decide +kernel
theorem dX10_takesItem_53 : decode cX10_takesItem 53 = .ok (.getfield 79, 3) := by decide +kernel
theorem dX10_takesItem_56 : decode cX10_takesItem 56 = .ok (.iconst 1, 1) := by decide +kernel
theorem dX10_takesItem_57 : decode cX10_takesItem 57 = .ok (.isub, 1) := by decide +kernel
theorem dX10_takesItem_58 : decode cX10_takesItem 58 = .ok (.goto 5, 3) := by decide +kernel
theorem dX10_takesItem_61 : decode cX10_takesItem 61 = .ok (.bipush 99, 2) := by decide +kernel
theorem dX10_takesItem_63 : decode cX10_takesItem 63 = .ok (.bipush 59, 2) := by decide +kernel
theorem dX10_takesItem_65 : decode cX10_takesItem 65 = .ok (.invokevirtual 86, 3) := by decide +kernel
theorem dX10_takesItem_68 : decode cX10_takesItem 68 = .ok (.istore_n 2, 1) := by decide +kernel
theorem dX10_takesItem_69 : decode cX10_takesItem 69 = .ok (.iload_n 2, 1) := by decide +kernel
theorem dX10_takesItem_70 : decode cX10_takesItem 70 = .ok (.bipush (-4), 2) := by decide +kernel
theorem dX10_takesItem_72 : decode cX10_takesItem 72 = .ok (.if_icmp .ne 5, 3) := by decide +kernel
theorem dX10_takesItem_75 : decode cX10_takesItem 75 = .ok (.iconst 0, 1) := by decide +kernel
theorem dX10_takesItem_76 : decode cX10_takesItem 76 = .ok (.ireturn, 1) := by decide +kernel
theorem dX10_takesItem_77 : decode cX10_takesItem 77 = .ok (.iload_n 1, 1) := by decide +kernel
theorem dX10_takesItem_78 : decode cX10_takesItem 78 = .ok (.bipush 111, 2) := by decide +kernel
theorem dX10_takesItem_80 : decode cX10_takesItem 80 = .ok (.if_icmp .ne 18, 3) := by decide +kernel
theorem dX10_takesItem_83 : decode cX10_takesItem 83 = .ok (.aload_n 0, 1) := by decide +kernel
theorem dX10_takesItem_84 : decode cX10_takesItem 84 = .ok (.dup, 1) := by decide +kernel
theorem dX10_takesItem_85 : decode cX10_takesItem 85 = .ok (.getfield 94, 3) := by decide +kernel
theorem dX10_takesItem_88 : decode cX10_takesItem 88 = .ok (.iconst 1, 1) := by decide +kernel
theorem dX10_takesItem_89 : decode cX10_takesItem 89 = .ok (.iload_n 2, 1) := by decide +kernel
theorem dX10_takesItem_90 : decode cX10_takesItem 90 = .ok (.ishl, 1) := by decide +kernel
theorem dX10_takesItem_91 : decode cX10_takesItem 91 = .ok (.ior, 1) := by decide +kernel
theorem dX10_takesItem_92 : decode cX10_takesItem 92 = .ok (.putfield 94, 3) := by decide +kernel
theorem dX10_takesItem_95 : decode cX10_takesItem 95 = .ok (.goto 8, 3) := by decide +kernel
theorem dX10_takesItem_98 : decode cX10_takesItem 98 = .ok (.aload_n 0, 1) := by decide +kernel
theorem dX10_takesItem_99 : decode cX10_takesItem 99 = .ok (.iload_n 2, 1) := by decide +kernel
theorem dX10_takesItem_100 : decode cX10_takesItem 100 = .ok (.putfield 97, 3) := by decide +kernel
theorem dX10_takesItem_103 : decode cX10_takesItem 103 = .ok (.iconst 1, 1) := by decide +kernel
theorem dX10_takesItem_104 : decode cX10_takesItem 104 = .ok (.ireturn, 1) := by decide +kernel
theorem dX10_fault_0 : decode cX10_fault 0 = .ok (.aload_n 0, 1) := by decide +kernel
theorem dX10_fault_1 : decode cX10_fault 1 = .ok (.iconst 0, 1) := by decide +kernel
theorem dX10_fault_2 : decode cX10_fault 2 = .ok (.putfield 72, 3) := by decide +kernel
theorem dX10_fault_5 : decode cX10_fault 5 = .ok (.aload_n 0, 1) := by decide +kernel
theorem dX10_fault_6 : decode cX10_fault 6 = .ok (.iconst 0, 1) := by decide +kernel
theorem dX10_fault_7 : decode cX10_fault 7 = .ok (.putfield 79, 3) := by decide +kernel
theorem dX10_fault_10 : decode cX10_fault 10 = .ok (.aload_n 0, 1) := by decide +kernel
theorem dX10_fault_11 : decode cX10_fault 11 = .ok (.iconst 0, 1) := by decide +kernel
theorem dX10_fault_12 : decode cX10_fault 12 = .ok (.putfield 94, 3) := by decide +kernel
theorem dX10_fault_15 : decode cX10_fault 15 = .ok (.aload_n 0, 1) := by decide +kernel
theorem dX10_fault_16 : decode cX10_fault 16 = .ok (.bipush 50, 2) := by decide +kernel
theorem dX10_fault_18 : decode cX10_fault 18 = .ok (.putfield 97, 3) := by decide +kernel
theorem dX10_fault_21 : decode cX10_fault 21 = .ok (.aload_n 0, 1) := by decide +kernel
theorem dX10_fault_22 : decode cX10_fault 22 = .ok (.getfield 72, 3) := by decide +kernel
theorem dX10_fault_25 : decode cX10_fault 25 = .ok (.aload_n 0, 1) := by decide +kernel
theorem dX10_fault_26 : decode cX10_fault 26 = .ok (.getfield 63, 3) := by decide +kernel
theorem dX10_fault_29 : decode cX10_fault 29 = .ok (.if_icmp .ge 20, 3) := by decide +kernel
theorem dX10_fault_32 : decode cX10_fault 32 = .ok (.aload_n 0, 1) := by decide +kernel
theorem dX10_fault_33 : decode cX10_fault 33 = .ok (.getfield 72, 3) := by decide +kernel
theorem dX10_fault_36 : decode cX10_fault 36 = .ok (.istore_n 1, 1) := by decide +kernel
theorem dX10_fault_37 : decode cX10_fault 37 = .ok (.aload_n 0, 1) := by decide +kernel
theorem dX10_fault_38 : decode cX10_fault 38 = .ok (.invokevirtual 100, 3) := by decide +kernel
theorem dX10_fault_41 : decode cX10_fault 41 = .ok (.ifCond .ne 5, 3) := by decide +kernel
theorem dX10_fault_44 : decode cX10_fault 44 = .ok (.iload_n 1, 1) := by decide +kernel
theorem dX10_fault_45 : decode cX10_fault 45 = .ok (.ireturn, 1) := by decide +kernel
theorem dX10_fault_46 : decode cX10_fault 46 = .ok (.goto (-25), 3) := by decide +kernel
theorem dX10_fault_49 : decode cX10_fault 49 = .ok (.bipush (-4), 2) := by decide +kernel
theorem dX10_fault_51 : decode cX10_fault 51 = .ok (.ireturn, 1) := by decide +kernel
theorem dX10_lay_0 : decode cX10_lay 0 = .ok (.aload_n 0, 1) := by decide +kernel
theorem dX10_lay_1 : decode cX10_lay 1 = .ok (.invokevirtual 103, 3) := by decide +kernel
theorem dX10_lay_4 : decode cX10_lay 4 = .ok (.bipush (-4), 2) := by decide +kernel
theorem dX10_lay_6 : decode cX10_lay 6 = .ok (.if_icmp .ne 10, 3) := by decide +kernel
theorem dX10_lay_9 : decode cX10_lay 9 = .ok (.aload_n 0, 1) := by decide +kernel
theorem dX10_lay_10 : decode cX10_lay 10 = .ok (.getfield 79, 3) := by decide +kernel
theorem dX10_lay_13 : decode cX10_lay 13 = .ok (.ifCond .ne 6, 3) := by decide +kernel
theorem dX10_lay_16 : decode cX10_lay 16 = .ok (.bipush (-2), 2) := by decide +kernel
theorem dX10_lay_18 : decode cX10_lay 18 = .ok (.ireturn, 1) := by decide +kernel
theorem dX10_lay_19 : decode cX10_lay 19 = .ok (.aload_n 0, 1) := by decide +kernel
theorem dX10_lay_20 : decode cX10_lay 20 = .ok (.aload_n 0, 1) := by decide +kernel
theorem dX10_lay_21 : decode cX10_lay 21 = .ok (.getfield 79, 3) := by decide +kernel
theorem dX10_lay_24 : decode cX10_lay 24 = .ok (.putfield 13, 3) := by decide +kernel
theorem dX10_lay_27 : decode cX10_lay 27 = .ok (.iconst 0, 1) := by decide +kernel
theorem dX10_lay_28 : decode cX10_lay 28 = .ok (.istore_n 1, 1) := by decide +kernel
theorem dX10_lay_29 : decode cX10_lay 29 = .ok (.iload_n 1, 1) := by decide +kernel
theorem dX10_lay_30 : decode cX10_lay 30 = .ok (.aload_n 0, 1) := by decide +kernel
theorem dX10_lay_31 : decode cX10_lay 31 = .ok (.getfield 13, 3) := by decide +kernel
theorem dX10_lay_34 : decode cX10_lay 34 = .ok (.if_icmp .ge 87, 3) := by decide +kernel
theorem dX10_lay_37 : decode cX10_lay 37 = .ok (.aload_n 0, 1) := by decide +kernel
theorem dX10_lay_38 : decode cX10_lay 38 = .ok (.getfield 17, 3) := by decide +kernel
theorem dX10_lay_41 : decode cX10_lay 41 = .ok (.iload_n 1, 1) := by decide +kernel
theorem dX10_lay_42 : decode cX10_lay 42 = .ok (.aload_n 0, 1) := by decide +kernel
theorem dX10_lay_43 : decode cX10_lay 43 = .ok (.getfield 51, 3) := by decide +kernel
theorem dX10_lay_46 : decode cX10_lay 46 = .ok (.iconst 5, 1) := by decide +kernel
theorem dX10_lay_47 : decode cX10_lay 47 = .ok (.iload_n 1, 1) := by decide +kernel
theorem dX10_lay_48 : decode cX10_lay 48 = .ok (.imul, 1) := by decide +kernel
theorem dX10_lay_49 : decode cX10_lay 49 = .ok (.iaload, 1) := by decide +kernel
theorem dX10_lay_50 : decode cX10_lay 50 = .ok (.iastore, 1) := by decide +kernel
theorem dX10_lay_51 : decode cX10_lay 51 = .ok (.aload_n 0, 1) := by decide +kernel
theorem dX10_lay_52 : decode cX10_lay 52 = .ok (.getfield 20, 3) := by decide +kernel
theorem dX10_lay_55 : decode cX10_lay 55 = .ok (.iload_n 1, 1) := by decide +kernel
theorem dX10_lay_56 : decode cX10_lay 56 = .ok (.aload_n 0, 1) := by decide +kernel
theorem dX10_lay_57 : decode cX10_lay 57 = .ok (.getfield 51, 3) := by decide +kernel
theorem dX10_lay_60 : decode cX10_lay 60 = .ok (.iconst 5, 1) := by decide +kernel
theorem dX10_lay_61 : decode cX10_lay 61 = .ok (.iload_n 1, 1) := by decide +kernel
theorem dX10_lay_62 : decode cX10_lay 62 = .ok (.imul, 1) := by decide +kernel
theorem dX10_lay_63 : decode cX10_lay 63 = .ok (.iconst 1, 1) := by decide +kernel
theorem dX10_lay_64 : decode cX10_lay 64 = .ok (.iadd, 1) := by decide +kernel
theorem dX10_lay_65 : decode cX10_lay 65 = .ok (.iaload, 1) := by decide +kernel
theorem dX10_lay_66 : decode cX10_lay 66 = .ok (.iastore, 1) := by decide +kernel
theorem dX10_lay_67 : decode cX10_lay 67 = .ok (.aload_n 0, 1) := by decide +kernel
theorem dX10_lay_68 : decode cX10_lay 68 = .ok (.getfield 23, 3) := by decide +kernel
theorem dX10_lay_71 : decode cX10_lay 71 = .ok (.iload_n 1, 1) := by decide +kernel
theorem dX10_lay_72 : decode cX10_lay 72 = .ok (.aload_n 0, 1) := by decide +kernel
theorem dX10_lay_73 : decode cX10_lay 73 = .ok (.getfield 51, 3) := by decide +kernel
theorem dX10_lay_76 : decode cX10_lay 76 = .ok (.iconst 5, 1) := by decide +kernel
theorem dX10_lay_77 : decode cX10_lay 77 = .ok (.iload_n 1, 1) := by decide +kernel
theorem dX10_lay_78 : decode cX10_lay 78 = .ok (.imul, 1) := by decide +kernel
theorem dX10_lay_79 : decode cX10_lay 79 = .ok (.iconst 2, 1) := by decide +kernel
theorem dX10_lay_80 : decode cX10_lay 80 = .ok (.iadd, 1) := by decide +kernel
theorem dX10_lay_81 : decode cX10_lay 81 = .ok (.iaload, 1) := by decide +kernel
theorem dX10_lay_82 : decode cX10_lay 82 = .ok (.iastore, 1) := by decide +kernel
theorem dX10_lay_83 : decode cX10_lay 83 = .ok (.aload_n 0, 1) := by decide +kernel
theorem dX10_lay_84 : decode cX10_lay 84 = .ok (.getfield 26, 3) := by decide +kernel
theorem dX10_lay_87 : decode cX10_lay 87 = .ok (.iload_n 1, 1) := by decide +kernel
theorem dX10_lay_88 : decode cX10_lay 88 = .ok (.aload_n 0, 1) := by decide +kernel
theorem dX10_lay_89 : decode cX10_lay 89 = .ok (.getfield 51, 3) := by decide +kernel
theorem dX10_lay_92 : decode cX10_lay 92 = .ok (.iconst 5, 1) := by decide +kernel
theorem dX10_lay_93 : decode cX10_lay 93 = .ok (.iload_n 1, 1) := by decide +kernel
theorem dX10_lay_94 : decode cX10_lay 94 = .ok (.imul, 1) := by decide +kernel
theorem dX10_lay_95 : decode cX10_lay 95 = .ok (.iconst 3, 1) := by decide +kernel
theorem dX10_lay_96 : decode cX10_lay 96 = .ok (.iadd, 1) := by decide +kernel
theorem dX10_lay_97 : decode cX10_lay 97 = .ok (.iaload, 1) := by decide +kernel
theorem dX10_lay_98 : decode cX10_lay 98 = .ok (.iastore, 1) := by decide +kernel
theorem dX10_lay_99 : decode cX10_lay 99 = .ok (.aload_n 0, 1) := by decide +kernel
theorem dX10_lay_100 : decode cX10_lay 100 = .ok (.getfield 29, 3) := by decide +kernel
theorem dX10_lay_103 : decode cX10_lay 103 = .ok (.iload_n 1, 1) := by decide +kernel
theorem dX10_lay_104 : decode cX10_lay 104 = .ok (.aload_n 0, 1) := by decide +kernel
theorem dX10_lay_105 : decode cX10_lay 105 = .ok (.getfield 51, 3) := by decide +kernel
theorem dX10_lay_108 : decode cX10_lay 108 = .ok (.iconst 5, 1) := by decide +kernel
theorem dX10_lay_109 : decode cX10_lay 109 = .ok (.iload_n 1, 1) := by decide +kernel
theorem dX10_lay_110 : decode cX10_lay 110 = .ok (.imul, 1) := by decide +kernel
theorem dX10_lay_111 : decode cX10_lay 111 = .ok (.iconst 4, 1) := by decide +kernel
theorem dX10_lay_112 : decode cX10_lay 112 = .ok (.iadd, 1) := by decide +kernel
theorem dX10_lay_113 : decode cX10_lay 113 = .ok (.iaload, 1) := by decide +kernel
theorem dX10_lay_114 : decode cX10_lay 114 = .ok (.iastore, 1) := by decide +kernel
theorem dX10_lay_115 : decode cX10_lay 115 = .ok (.iinc 1 1, 3) := by decide +kernel
theorem dX10_lay_118 : decode cX10_lay 118 = .ok (.goto (-89), 3) := by decide +kernel
theorem dX10_lay_121 : decode cX10_lay 121 = .ok (.aload_n 0, 1) := by decide +kernel
theorem dX10_lay_122 : decode cX10_lay 122 = .ok (.aload_n 0, 1) := by decide +kernel
theorem dX10_lay_123 : decode cX10_lay 123 = .ok (.getfield 94, 3) := by decide +kernel
theorem dX10_lay_126 : decode cX10_lay 126 = .ok (.putfield 107, 3) := by decide +kernel
theorem dX10_lay_129 : decode cX10_lay 129 = .ok (.aload_n 0, 1) := by decide +kernel
theorem dX10_lay_130 : decode cX10_lay 130 = .ok (.aload_n 0, 1) := by decide +kernel
theorem dX10_lay_131 : decode cX10_lay 131 = .ok (.getfield 97, 3) := by decide +kernel
theorem dX10_lay_134 : decode cX10_lay 134 = .ok (.putfield 32, 3) := by decide +kernel
theorem dX10_lay_137 : decode cX10_lay 137 = .ok (.aload_n 0, 1) := by decide +kernel
theorem dX10_lay_138 : decode cX10_lay 138 = .ok (.iconst 0, 1) := by decide +kernel
theorem dX10_lay_139 : decode cX10_lay 139 = .ok (.putfield 110, 3) := by decide +kernel
theorem dX10_lay_142 : decode cX10_lay 142 = .ok (.aload_n 0, 1) := by decide +kernel
theorem dX10_lay_143 : decode cX10_lay 143 = .ok (.iconst 0, 1) := by decide +kernel
theorem dX10_lay_144 : decode cX10_lay 144 = .ok (.putfield 113, 3) := by decide +kernel
theorem dX10_lay_147 : decode cX10_lay 147 = .ok (.aload_n 0, 1) := by decide +kernel
theorem dX10_lay_148 : decode cX10_lay 148 = .ok (.iconst 0, 1) := by decide +kernel
theorem dX10_lay_149 : decode cX10_lay 149 = .ok (.putfield 116, 3) := by decide +kernel
theorem dX10_lay_152 : decode cX10_lay 152 = .ok (.aload_n 0, 1) := by decide +kernel
theorem dX10_lay_153 : decode cX10_lay 153 = .ok (.getfield 13, 3) := by decide +kernel
theorem dX10_lay_156 : decode cX10_lay 156 = .ok (.ireturn, 1) := by decide +kernel
theorem dX10_person_0 : decode cX10_person 0 = .ok (.aload_n 0, 1) := by decide +kernel
theorem dX10_person_1 : decode cX10_person 1 = .ok (.iload_n 1, 1) := by decide +kernel
theorem dX10_person_2 : decode cX10_person 2 = .ok (.invokevirtual 119, 3) := by decide +kernel
theorem dX10_person_5 : decode cX10_person 5 = .ok (.ifCond .eq 15, 3) := by decide +kernel
theorem dX10_person_8 : decode cX10_person 8 = .ok (.iload_n 2, 1) := by decide +kernel
theorem dX10_person_9 : decode cX10_person 9 = .ok (.i2l, 1) := by decide +kernel
theorem dX10_person_10 : decode cX10_person 10 = .ok (.lconst 0, 1) := by decide +kernel
theorem dX10_person_11 : decode cX10_person 11 = .ok (.ldc2_w 122, 3) := by decide +kernel
theorem dX10_person_14 : decode cX10_person 14 = .ok (.invokestatic 57, 3) := by decide +kernel
theorem dX10_person_17 : decode cX10_person 17 = .ok (.ifCond .ne 5, 3) := by decide +kernel
theorem dX10_person_20 : decode cX10_person 20 = .ok (.iconst (-1), 1) := by decide +kernel
theorem dX10_person_21 : decode cX10_person 21 = .ok (.ireturn, 1) := by decide +kernel
theorem dX10_person_22 : decode cX10_person 22 = .ok (.iload_n 2, 1) := by decide +kernel
theorem dX10_person_23 : decode cX10_person 23 = .ok (.ifCond .ne 12, 3) := by decide +kernel
theorem dX10_person_26 : decode cX10_person 26 = .ok (.aload_n 0, 1) := by decide +kernel
theorem dX10_person_27 : decode cX10_person 27 = .ok (.getfield 17, 3) := by decide +kernel
theorem dX10_person_30 : decode cX10_person 30 = .ok (.iload_n 1, 1) := by decide +kernel
theorem dX10_person_31 : decode cX10_person 31 = .ok (.iaload, 1) := by decide +kernel
theorem dX10_person_32 : decode cX10_person 32 = .ok (.goto 79, 3) := by decide +kernel
theorem dX10_person_35 : decode cX10_person 35 = .ok (.iload_n 2, 1) := by decide +kernel
theorem dX10_person_36 : decode cX10_person 36 = .ok (.iconst 1, 1) := by decide +kernel
theorem dX10_person_37 : decode cX10_person 37 = .ok (.if_icmp .ne 12, 3) := by decide +kernel
theorem dX10_person_40 : decode cX10_person 40 = .ok (.aload_n 0, 1) := by decide +kernel
theorem dX10_person_41 : decode cX10_person 41 = .ok (.getfield 20, 3) := by decide +kernel
theorem dX10_person_44 : decode cX10_person 44 = .ok (.iload_n 1, 1) := by decide +kernel
theorem dX10_person_45 : decode cX10_person 45 = .ok (.iaload, 1) := by decide +kernel
theorem dX10_person_46 : decode cX10_person 46 = .ok (.goto 65, 3) := by decide +kernel
theorem dX10_person_49 : decode cX10_person 49 = .ok (.iload_n 2, 1) := by decide +kernel
theorem dX10_person_50 : decode cX10_person 50 = .ok (.iconst 2, 1) := by decide +kernel
theorem dX10_person_51 : decode cX10_person 51 = .ok (.if_icmp .ne 12, 3) := by decide +kernel
theorem dX10_person_54 : decode cX10_person 54 = .ok (.aload_n 0, 1) := by decide +kernel
theorem dX10_person_55 : decode cX10_person 55 = .ok (.getfield 23, 3) := by decide +kernel
theorem dX10_person_58 : decode cX10_person 58 = .ok (.iload_n 1, 1) := by decide +kernel
theorem dX10_person_59 : decode cX10_person 59 = .ok (.iaload, 1) := by decide +kernel
theorem dX10_person_60 : decode cX10_person 60 = .ok (.goto 51, 3) := by decide +kernel
theorem dX10_person_63 : decode cX10_person 63 = .ok (.iload_n 2, 1) := by decide +kernel
theorem dX10_person_64 : decode cX10_person 64 = .ok (.iconst 3, 1) := by decide +kernel
theorem dX10_person_65 : decode cX10_person 65 = .ok (.if_icmp .ne 12, 3) := by decide +kernel
theorem dX10_person_68 : decode cX10_person 68 = .ok (.aload_n 0, 1) := by decide +kernel
theorem dX10_person_69 : decode cX10_person 69 = .ok (.getfield 26, 3) := by decide +kernel
theorem dX10_person_72 : decode cX10_person 72 = .ok (.iload_n 1, 1) := by decide +kernel
theorem dX10_person_73 : decode cX10_person 73 = .ok (.iaload, 1) := by decide +kernel
theorem dX10_person_74 : decode cX10_person 74 = .ok (.goto 37, 3) := by decide +kernel
theorem dX10_person_77 : decode cX10_person 77 = .ok (.iload_n 2, 1) := by decide +kernel
theorem dX10_person_78 : decode cX10_person 78 = .ok (.iconst 4, 1) := by decide +kernel
theorem dX10_person_79 : decode cX10_person 79 = .ok (.if_icmp .ne 16, 3) := by decide +kernel
theorem dX10_person_82 : decode cX10_person 82 = .ok (.aload_n 0, 1) := by decide +kernel
theorem dX10_person_83 : decode cX10_person 83 = .ok (.getfield 29, 3) := by decide +kernel
theorem dX10_person_86 : decode cX10_person 86 = .ok (.iload_n 1, 1) := by decide +kernel
theorem dX10_person_87 : decode cX10_person 87 = .ok (.iaload, 1) := by decide +kernel
theorem dX10_person_88 : decode cX10_person 88 = .ok (.sipush 1000, 3) := by decide +kernel
theorem dX10_person_91 : decode cX10_person 91 = .ok (.iadd, 1) := by decide +kernel
theorem dX10_person_92 : decode cX10_person 92 = .ok (.goto 19, 3) := by decide +kernel
theorem dX10_person_95 : decode cX10_person 95 = .ok (.aload_n 0, 1) := by decide +kernel
theorem dX10_person_96 : decode cX10_person 96 = .ok (.getfield 107, 3) := by decide +kernel
theorem dX10_person_99 : decode cX10_person 99 = .ok (.iload_n 1, 1) := by decide +kernel
theorem dX10_person_100 : decode cX10_person 100 = .ok (.invokestatic 124, 3) := by decide +kernel
theorem dX10_person_103 : decode cX10_person 103 = .ok (.ifCond .eq 7, 3) := by decide +kernel
theorem dX10_person_106 : decode cX10_person 106 = .ok (.iconst 1, 1) := by decide +kernel
theorem dX10_person_107 : decode cX10_person 107 = .ok (.goto 4, 3) := by decide +kernel
theorem dX10_person_110 : decode cX10_person 110 = .ok (.iconst 0, 1) := by decide +kernel
theorem dX10_person_111 : decode cX10_person 111 = .ok (.ireturn, 1) := by decide +kernel
theorem dX10_othersThan_0 : decode cX10_othersThan 0 = .ok (.iconst 0, 1) := by decide +kernel
theorem dX10_othersThan_1 : decode cX10_othersThan 1 = .ok (.istore_n 3, 1) := by decide +kernel
theorem dX10_othersThan_2 : decode cX10_othersThan 2 = .ok (.iconst 0, 1) := by decide +kernel
theorem dX10_othersThan_3 : decode cX10_othersThan 3 = .ok (.istore 4, 2) := by decide +kernel
theorem dX10_othersThan_5 : decode cX10_othersThan 5 = .ok (.iload 4, 2) := by decide +kernel
theorem dX10_othersThan_7 : decode cX10_othersThan 7 = .ok (.aload_n 0, 1) := by decide +kernel
theorem dX10_othersThan_8 : decode cX10_othersThan 8 = .ok (.getfield 13, 3) := by decide +kernel
theorem dX10_othersThan_11 : decode cX10_othersThan 11 = .ok (.if_icmp .ge 45, 3) := by decide +kernel
theorem dX10_othersThan_14 : decode cX10_othersThan 14 = .ok (.iload_n 3, 1) := by decide +kernel
theorem dX10_othersThan_15 : decode cX10_othersThan 15 = .ok (.iload_n 2, 1) := by decide +kernel
theorem dX10_othersThan_16 : decode cX10_othersThan 16 = .ok (.iload 4, 2) := by decide +kernel
theorem dX10_othersThan_18 : decode cX10_othersThan 18 = .ok (.invokestatic 124, 3) := by decide +kernel
theorem dX10_othersThan_21 : decode cX10_othersThan 21 = .ok (.ifCond .eq 26, 3) := by decide +kernel
theorem dX10_othersThan_24 : decode cX10_othersThan 24 = .ok (.aload_n 0, 1) := by decide +kernel
theorem dX10_othersThan_25 : decode cX10_othersThan 25 = .ok (.getfield 26, 3) := by decide +kernel
theorem dX10_othersThan_28 : decode cX10_othersThan 28 = .ok (.iload 4, 2) := by decide +kernel
theorem dX10_othersThan_30 : decode cX10_othersThan 30 = .ok (.iaload, 1) := by decide +kernel
theorem dX10_othersThan_31 : decode cX10_othersThan 31 = .ok (.iload_n 1, 1) := by decide +kernel
theorem dX10_othersThan_32 : decode cX10_othersThan 32 = .ok (.if_icmp .eq 15, 3) := by decide +kernel
theorem dX10_othersThan_35 : decode cX10_othersThan 35 = .ok (.iconst 1, 1) := by decide +kernel
theorem dX10_othersThan_36 : decode cX10_othersThan 36 = .ok (.aload_n 0, 1) := by decide +kernel
theorem dX10_othersThan_37 : decode cX10_othersThan 37 = .ok (.getfield 26, 3) := by decide +kernel
theorem dX10_othersThan_40 : decode cX10_othersThan 40 = .ok (.iload 4, 2) := by decide +kernel
theorem dX10_othersThan_42 : decode cX10_othersThan 42 = .ok (.iaload, 1) := by decide +kernel
theorem dX10_othersThan_43 : decode cX10_othersThan 43 = .ok (.ishl, 1) := by decide +kernel
theorem dX10_othersThan_44 : decode cX10_othersThan 44 = .ok (.goto 4, 3) := by decide +kernel
theorem dX10_othersThan_47 : decode cX10_othersThan 47 = .ok (.iconst 0, 1) := by decide +kernel
theorem dX10_othersThan_48 : decode cX10_othersThan 48 = .ok (.ior, 1) := by decide +kernel
theorem dX10_othersThan_49 : decode cX10_othersThan 49 = .ok (.istore_n 3, 1) := by decide +kernel
theorem dX10_othersThan_50 : decode cX10_othersThan 50 = .ok (.iinc 4 1, 3) := by decide +kernel
theorem dX10_othersThan_53 : decode cX10_othersThan 53 = .ok (.goto (-48), 3) := by decide +kernel
theorem dX10_othersThan_56 : decode cX10_othersThan 56 = .ok (.iload_n 3, 1) := by decide +kernel
theorem dX10_othersThan_57 : decode cX10_othersThan 57 = .ok (.invokestatic 128, 3) := by decide +kernel
theorem dX10_othersThan_60 : decode cX10_othersThan 60 = .ok (.ireturn, 1) := by decide +kernel
theorem dX10_others_0 : decode cX10_others 0 = .ok (.aload_n 0, 1) := by decide +kernel
theorem dX10_others_1 : decode cX10_others 1 = .ok (.aload_n 0, 1) := by decide +kernel
theorem dX10_others_2 : decode cX10_others 2 = .ok (.getfield 26, 3) := by decide +kernel
theorem dX10_others_5 : decode cX10_others 5 = .ok (.iload_n 1, 1) := by decide +kernel
theorem dX10_others_6 : decode cX10_others 6 = .ok (.iaload, 1) := by decide +kernel
theorem dX10_others_7 : decode cX10_others 7 = .ok (.iload_n 2, 1) := by decide +kernel
theorem dX10_others_8 : decode cX10_others 8 = .ok (.invokevirtual 131, 3) := by decide +kernel
theorem dX10_others_11 : decode cX10_others 11 = .ok (.ireturn, 1) := by decide +kernel
theorem dX10_worthBy_0 : decode cX10_worthBy 0 = .ok (.iload_n 3, 1) := by decide +kernel
theorem dX10_worthBy_1 : decode cX10_worthBy 1 = .ok (.ifCond .le 10, 3) := by decide +kernel
theorem dX10_worthBy_4 : decode cX10_worthBy 4 = .ok (.iload_n 0, 1) := by decide +kernel
theorem dX10_worthBy_5 : decode cX10_worthBy 5 = .ok (.iconst 1, 1) := by decide +kernel
theorem dX10_worthBy_6 : decode cX10_worthBy 6 = .ok (.if_icmp .ne 5, 3) := by decide +kernel
theorem dX10_worthBy_9 : decode cX10_worthBy 9 = .ok (.iconst 0, 1) := by decide +kernel
theorem dX10_worthBy_10 : decode cX10_worthBy 10 = .ok (.ireturn, 1) := by decide +kernel
theorem dX10_worthBy_11 : decode cX10_worthBy 11 = .ok (.iload_n 3, 1) := by decide +kernel
theorem dX10_worthBy_12 : decode cX10_worthBy 12 = .ok (.ifCond .le 10, 3) := by decide +kernel
theorem dX10_worthBy_15 : decode cX10_worthBy 15 = .ok (.iload_n 0, 1) := by decide +kernel
theorem dX10_worthBy_16 : decode cX10_worthBy 16 = .ok (.iconst 2, 1) := by decide +kernel
theorem dX10_worthBy_17 : decode cX10_worthBy 17 = .ok (.if_icmp .ne 5, 3) := by decide +kernel
theorem dX10_worthBy_20 : decode cX10_worthBy 20 = .ok (.iconst (-1), 1) := by decide +kernel
theorem dX10_worthBy_21 : decode cX10_worthBy 21 = .ok (.ireturn, 1) := by decide +kernel
theorem dX10_worthBy_22 : decode cX10_worthBy 22 = .ok (.iload_n 0, 1) := by decide +kernel
theorem dX10_worthBy_23 : decode cX10_worthBy 23 = .ok (.iconst 3, 1) := by decide +kernel
theorem dX10_worthBy_24 : decode cX10_worthBy 24 = .ok (.if_icmp .ne 12, 3) := by decide +kernel
theorem dX10_worthBy_27 : decode cX10_worthBy 27 = .ok (.iload_n 3, 1) := by decide +kernel
theorem dX10_worthBy_28 : decode cX10_worthBy 28 = .ok (.iconst 2, 1) := by decide +kernel
theorem dX10_worthBy_29 : decode cX10_worthBy 29 = .ok (.if_icmp .ge 7, 3) := by decide +kernel
theorem dX10_worthBy_32 : decode cX10_worthBy 32 = .ok (.iconst 0, 1) := by decide +kernel
theorem dX10_worthBy_33 : decode cX10_worthBy 33 = .ok (.goto 11, 3) := by decide +kernel
theorem dX10_worthBy_36 : decode cX10_worthBy 36 = .ok (.iload_n 1, 1) := by decide +kernel
theorem dX10_worthBy_37 : decode cX10_worthBy 37 = .ok (.iload_n 2, 1) := by decide +kernel
theorem dX10_worthBy_38 : decode cX10_worthBy 38 = .ok (.bipush 9, 2) := by decide +kernel
theorem dX10_worthBy_40 : decode cX10_worthBy 40 = .ok (.isub, 1) := by decide +kernel
theorem dX10_worthBy_41 : decode cX10_worthBy 41 = .ok (.iload_n 3, 1) := by decide +kernel
theorem dX10_worthBy_42 : decode cX10_worthBy 42 = .ok (.imul, 1) := by decide +kernel
theorem dX10_worthBy_43 : decode cX10_worthBy 43 = .ok (.iadd, 1) := by decide +kernel
theorem dX10_worthBy_44 : decode cX10_worthBy 44 = .ok (.ireturn, 1) := by decide +kernel
theorem dX10_worthOf_0 : decode cX10_worthOf 0 = .ok (.aload_n 0, 1) := by decide +kernel
theorem dX10_worthOf_1 : decode cX10_worthOf 1 = .ok (.getfield 17, 3) := by decide +kernel
theorem dX10_worthOf_4 : decode cX10_worthOf 4 = .ok (.iload_n 1, 1) := by decide +kernel
theorem dX10_worthOf_5 : decode cX10_worthOf 5 = .ok (.iaload, 1) := by decide +kernel
theorem dX10_worthOf_6 : decode cX10_worthOf 6 = .ok (.aload_n 0, 1) := by decide +kernel
theorem dX10_worthOf_7 : decode cX10_worthOf 7 = .ok (.getfield 20, 3) := by decide +kernel
theorem dX10_worthOf_10 : decode cX10_worthOf 10 = .ok (.iload_n 1, 1) := by decide +kernel
theorem dX10_worthOf_11 : decode cX10_worthOf 11 = .ok (.iaload, 1) := by decide +kernel
theorem dX10_worthOf_12 : decode cX10_worthOf 12 = .ok (.aload_n 0, 1) := by decide +kernel
theorem dX10_worthOf_13 : decode cX10_worthOf 13 = .ok (.getfield 32, 3) := by decide +kernel
theorem dX10_worthOf_16 : decode cX10_worthOf 16 = .ok (.iadd, 1) := by decide +kernel
theorem dX10_worthOf_17 : decode cX10_worthOf 17 = .ok (.bipush 50, 2) := by decide +kernel
theorem dX10_worthOf_19 : decode cX10_worthOf 19 = .ok (.isub, 1) := by decide +kernel
theorem dX10_worthOf_20 : decode cX10_worthOf 20 = .ok (.aload_n 0, 1) := by decide +kernel
theorem dX10_worthOf_21 : decode cX10_worthOf 21 = .ok (.getfield 23, 3) := by decide +kernel
theorem dX10_worthOf_24 : decode cX10_worthOf 24 = .ok (.iload_n 1, 1) := by decide +kernel
theorem dX10_worthOf_25 : decode cX10_worthOf 25 = .ok (.iaload, 1) := by decide +kernel
theorem dX10_worthOf_26 : decode cX10_worthOf 26 = .ok (.aload_n 0, 1) := by decide +kernel
theorem dX10_worthOf_27 : decode cX10_worthOf 27 = .ok (.iload_n 1, 1) := by decide +kernel
theorem dX10_worthOf_28 : decode cX10_worthOf 28 = .ok (.iload_n 2, 1) := by decide +kernel
theorem dX10_worthOf_29 : decode cX10_worthOf 29 = .ok (.invokevirtual 134, 3) := by decide +kernel
theorem dX10_worthOf_32 : decode cX10_worthOf 32 = .ok (.invokestatic 137, 3) := by decide +kernel
theorem dX10_worthOf_35 : decode cX10_worthOf 35 = .ok (.ireturn, 1) := by decide +kernel
theorem dX10_worth_0 : decode cX10_worth 0 = .ok (.aload_n 0, 1) := by decide +kernel
theorem dX10_worth_1 : decode cX10_worth 1 = .ok (.iload_n 1, 1) := by decide +kernel
theorem dX10_worth_2 : decode cX10_worth 2 = .ok (.invokevirtual 119, 3) := by decide +kernel
theorem dX10_worth_5 : decode cX10_worth 5 = .ok (.ifCond .eq 30, 3) := by decide +kernel
theorem dX10_worth_8 : decode cX10_worth 8 = .ok (.iload_n 2, 1) := by decide +kernel
theorem dX10_worth_9 : decode cX10_worth 9 = .ok (.i2l, 1) := by decide +kernel
theorem dX10_worth_10 : decode cX10_worth 10 = .ok (.lconst 0, 1) := by decide +kernel
theorem dX10_worth_11 : decode cX10_worth 11 = .ok (.aload_n 0, 1) := by decide +kernel
theorem dX10_worth_12 : decode cX10_worth 12 = .ok (.invokevirtual 141, 3) := by decide +kernel
theorem dX10_worth_15 : decode cX10_worth 15 = .ok (.i2l, 1) := by decide +kernel
theorem dX10_worth_16 : decode cX10_worth 16 = .ok (.invokestatic 57, 3) := by decide +kernel
theorem dX10_worth_19 : decode cX10_worth 19 = .ok (.ifCond .eq 16, 3) := by decide +kernel
theorem dX10_worth_22 : decode cX10_worth 22 = .ok (.aload_n 0, 1) := by decide +kernel
theorem dX10_worth_23 : decode cX10_worth 23 = .ok (.iload_n 1, 1) := by decide +kernel
theorem dX10_worth_24 : decode cX10_worth 24 = .ok (.iload_n 2, 1) := by decide +kernel
theorem dX10_worth_25 : decode cX10_worth 25 = .ok (.invokevirtual 144, 3) := by decide +kernel
theorem dX10_worth_28 : decode cX10_worth 28 = .ok (.sipush 1000, 3) := by decide +kernel
theorem dX10_worth_31 : decode cX10_worth 31 = .ok (.iadd, 1) := by decide +kernel
theorem dX10_worth_32 : decode cX10_worth 32 = .ok (.goto 4, 3) := by decide +kernel
theorem dX10_worth_35 : decode cX10_worth 35 = .ok (.iconst (-1), 1) := by decide +kernel
theorem dX10_worth_36 : decode cX10_worth 36 = .ok (.ireturn, 1) := by decide +kernel
theorem dX10_remember_0 : decode cX10_remember 0 = .ok (.aload_n 0, 1) := by decide +kernel
theorem dX10_remember_1 : decode cX10_remember 1 = .ok (.getfield 113, 3) := by decide +kernel
theorem dX10_remember_4 : decode cX10_remember 4 = .ok (.bipush 8, 2) := by decide +kernel
theorem dX10_remember_6 : decode cX10_remember 6 = .ok (.if_icmp .ne 42, 3) := by decide +kernel
theorem dX10_remember_9 : decode cX10_remember 9 = .ok (.iconst 0, 1) := by decide +kernel
theorem dX10_remember_10 : decode cX10_remember 10 = .ok (.istore_n 1, 1) := by decide +kernel
theorem dX10_remember_11 : decode cX10_remember 11 = .ok (.iload_n 1, 1) := by decide +kernel
theorem dX10_remember_12 : decode cX10_remember 12 = .ok (.bipush 56, 2) := by decide +kernel
theorem dX10_remember_14 : decode cX10_remember 14 = .ok (.if_icmp .ge 24, 3) := by decide +kernel
theorem dX10_remember_17 : decode cX10_remember 17 = .ok (.aload_n 0, 1) := by decide +kernel
theorem dX10_remember_18 : decode cX10_remember 18 = .ok (.getfield 35, 3) := by decide +kernel
theorem dX10_remember_21 : decode cX10_remember 21 = .ok (.iload_n 1, 1) := by decide +kernel
theorem dX10_remember_22 : decode cX10_remember 22 = .ok (.aload_n 0, 1) := by decide +kernel
theorem dX10_remember_23 : decode cX10_remember 23 = .ok (.getfield 35, 3) := by decide +kernel
theorem dX10_remember_26 : decode cX10_remember 26 = .ok (.iload_n 1, 1) := by decide +kernel
theorem dX10_remember_27 : decode cX10_remember 27 = .ok (.bipush 8, 2) := by decide +kernel
theorem dX10_remember_29 : decode cX10_remember 29 = .ok (.iadd, 1) := by decide +kernel
theorem dX10_remember_30 : decode cX10_remember 30 = .ok (.iaload, 1) := by decide +kernel
theorem dX10_remember_31 : decode cX10_remember 31 = .ok (.iastore, 1) := by decide +kernel
theorem dX10_remember_32 : decode cX10_remember 32 = .ok (.iinc 1 1, 3) := by decide +kernel
theorem dX10_remember_35 : decode cX10_remember 35 = .ok (.goto (-24), 3) := by decide +kernel
theorem dX10_remember_38 : decode cX10_remember 38 = .ok (.aload_n 0, 1) := by decide +kernel
theorem dX10_remember_39 : decode cX10_remember 39 = .ok (.dup, 1) := by decide +kernel
theorem dX10_remember_40 : decode cX10_remember 40 = .ok (.getfield 113, 3) := by decide +kernel
theorem dX10_remember_43 : decode cX10_remember 43 = .ok (.iconst 1, 1) := by decide +kernel
theorem dX10_remember_44 : decode cX10_remember 44 = .ok (.isub, 1) := by decide +kernel
theorem dX10_remember_45 : decode cX10_remember 45 = .ok (.putfield 113, 3) := by decide +kernel
theorem dX10_remember_48 : decode cX10_remember 48 = .ok (.aload_n 0, 1) := by decide +kernel
theorem dX10_remember_49 : decode cX10_remember 49 = .ok (.getfield 35, 3) := by decide +kernel
theorem dX10_remember_52 : decode cX10_remember 52 = .ok (.bipush 8, 2) := by decide +kernel
theorem dX10_remember_54 : decode cX10_remember 54 = .ok (.aload_n 0, 1) := by decide +kernel
theorem dX10_remember_55 : decode cX10_remember 55 = .ok (.getfield 113, 3) := by decide +kernel
theorem dX10_remember_58 : decode cX10_remember 58 = .ok (.imul, 1) := by decide +kernel
theorem dX10_remember_59 : decode cX10_remember 59 = .ok (.aload_n 0, 1) := by decide +kernel
theorem dX10_remember_60 : decode cX10_remember 60 = .ok (.getfield 107, 3) := by decide +kernel
theorem dX10_remember_63 : decode cX10_remember 63 = .ok (.iastore, 1) := by decide +kernel
theorem dX10_remember_64 : decode cX10_remember 64 = .ok (.iconst 0, 1) := by decide +kernel
theorem dX10_remember_65 : decode cX10_remember 65 = .ok (.istore_n 1, 1) := by decide +kernel
theorem dX10_remember_66 : decode cX10_remember 66 = .ok (.iload_n 1, 1) := by decide +kernel
theorem dX10_remember_67 : decode cX10_remember 67 = .ok (.bipush 7, 2) := by decide +kernel
theorem dX10_remember_69 : decode cX10_remember 69 = .ok (.if_icmp .ge 31, 3) := by decide +kernel
theorem dX10_remember_72 : decode cX10_remember 72 = .ok (.aload_n 0, 1) := by decide +kernel
theorem dX10_remember_73 : decode cX10_remember 73 = .ok (.getfield 35, 3) := by decide +kernel
theorem dX10_remember_76 : decode cX10_remember 76 = .ok (.bipush 8, 2) := by decide +kernel
theorem dX10_remember_78 : decode cX10_remember 78 = .ok (.aload_n 0, 1) := by decide +kernel
theorem dX10_remember_79 : decode cX10_remember 79 = .ok (.getfield 113, 3) := by decide +kernel
theorem dX10_remember_82 : decode cX10_remember 82 = .ok (.imul, 1) := by decide +kernel
theorem dX10_remember_83 : decode cX10_remember 83 = .ok (.iconst 1, 1) := by decide +kernel
theorem dX10_remember_84 : decode cX10_remember 84 = .ok (.iadd, 1) := by decide +kernel
theorem dX10_remember_85 : decode cX10_remember 85 = .ok (.iload_n 1, 1) := by decide +kernel
theorem dX10_remember_86 : decode cX10_remember 86 = .ok (.iadd, 1) := by decide +kernel
theorem dX10_remember_87 : decode cX10_remember 87 = .ok (.aload_n 0, 1) := by decide +kernel
theorem dX10_remember_88 : decode cX10_remember 88 = .ok (.getfield 29, 3) := by decide +kernel
theorem dX10_remember_91 : decode cX10_remember 91 = .ok (.iload_n 1, 1) := by decide +kernel
theorem dX10_remember_92 : decode cX10_remember 92 = .ok (.iaload, 1) := by decide +kernel
theorem dX10_remember_93 : decode cX10_remember 93 = .ok (.iastore, 1) := by decide +kernel
theorem dX10_remember_94 : decode cX10_remember 94 = .ok (.iinc 1 1, 3) := by decide +kernel
theorem dX10_remember_97 : decode cX10_remember 97 = .ok (.goto (-31), 3) := by decide +kernel
theorem dX10_remember_100 : decode cX10_remember 100 = .ok (.aload_n 0, 1) := by decide +kernel
theorem dX10_remember_101 : decode cX10_remember 101 = .ok (.dup, 1) := by decide +kernel
theorem dX10_remember_102 : decode cX10_remember 102 = .ok (.getfield 113, 3) := by decide +kernel
theorem dX10_remember_105 : decode cX10_remember 105 = .ok (.iconst 1, 1) := by decide +kernel
theorem dX10_remember_106 : decode cX10_remember 106 = .ok (.iadd, 1) := by decide +kernel
theorem dX10_remember_107 : decode cX10_remember 107 = .ok (.putfield 113, 3) := by decide +kernel
theorem dX10_remember_110 : decode cX10_remember 110 = .ok (.return_, 1) := by decide +kernel
theorem dX10_buy_0 : decode cX10_buy 0 = .ok (.iload_n 1, 1) := by decide +kernel
theorem dX10_buy_1 : decode cX10_buy 1 = .ok (.i2l, 1) := by decide +kernel
theorem dX10_buy_2 : decode cX10_buy 2 = .ok (.lconst 1, 1) := by decide +kernel
theorem dX10_buy_3 : decode cX10_buy 3 = .ok (.aload_n 0, 1) := by decide +kernel
theorem dX10_buy_4 : decode cX10_buy 4 = .ok (.invokevirtual 141, 3) := by decide +kernel
theorem dX10_buy_7 : decode cX10_buy 7 = .ok (.i2l, 1) := by decide +kernel
theorem dX10_buy_8 : decode cX10_buy 8 = .ok (.invokestatic 57, 3) := by decide +kernel
theorem dX10_buy_11 : decode cX10_buy 11 = .ok (.ifCond .ne 5, 3) := by decide +kernel
theorem dX10_buy_14 : decode cX10_buy 14 = .ok (.iconst (-1), 1) := by decide +kernel
theorem dX10_buy_15 : decode cX10_buy 15 = .ok (.ireturn, 1) := by decide +kernel
theorem dX10_buy_16 : decode cX10_buy 16 = .ok (.iconst 0, 1) := by decide +kernel
theorem dX10_buy_17 : decode cX10_buy 17 = .ok (.istore_n 2, 1) := by decide +kernel
theorem dX10_buy_18 : decode cX10_buy 18 = .ok (.iload_n 1, 1) := by decide +kernel
theorem dX10_buy_19 : decode cX10_buy 19 = .ok (.aload_n 0, 1) := by decide +kernel
theorem dX10_buy_20 : decode cX10_buy 20 = .ok (.getfield 107, 3) := by decide +kernel
theorem dX10_buy_23 : decode cX10_buy 23 = .ok (.iand, 1) := by decide +kernel
theorem dX10_buy_24 : decode cX10_buy 24 = .ok (.ifCond .ne 7, 3) := by decide +kernel
theorem dX10_buy_27 : decode cX10_buy 27 = .ok (.iconst 1, 1) := by decide +kernel
theorem dX10_buy_28 : decode cX10_buy 28 = .ok (.goto 4, 3) := by decide +kernel
theorem dX10_buy_31 : decode cX10_buy 31 = .ok (.iconst 0, 1) := by decide +kernel
theorem dX10_buy_32 : decode cX10_buy 32 = .ok (.istore_n 3, 1) := by decide +kernel
theorem dX10_buy_33 : decode cX10_buy 33 = .ok (.iconst 0, 1) := by decide +kernel
theorem dX10_buy_34 : decode cX10_buy 34 = .ok (.istore 4, 2) := by decide +kernel
theorem dX10_buy_36 : decode cX10_buy 36 = .ok (.iload 4, 2) := by decide +kernel
theorem dX10_buy_38 : decode cX10_buy 38 = .ok (.aload_n 0, 1) := by decide +kernel
theorem dX10_buy_39 : decode cX10_buy 39 = .ok (.getfield 13, 3) := by decide +kernel
theorem dX10_buy_42 : decode cX10_buy 42 = .ok (.if_icmp .ge 63, 3) := by decide +kernel
theorem dX10_buy_45 : decode cX10_buy 45 = .ok (.iload_n 1, 1) := by decide +kernel
theorem dX10_buy_46 : decode cX10_buy 46 = .ok (.iload 4, 2) := by decide +kernel
theorem dX10_buy_48 : decode cX10_buy 48 = .ok (.invokestatic 124, 3) := by decide +kernel
theorem dX10_buy_51 : decode cX10_buy 51 = .ok (.ifCond .eq 18, 3) := by decide +kernel
theorem dX10_buy_54 : decode cX10_buy 54 = .ok (.aload_n 0, 1) := by decide +kernel
theorem dX10_buy_55 : decode cX10_buy 55 = .ok (.iload 4, 2) := by decide +kernel
theorem dX10_buy_57 : decode cX10_buy 57 = .ok (.aload_n 0, 1) := by decide +kernel
theorem dX10_buy_58 : decode cX10_buy 58 = .ok (.getfield 107, 3) := by decide +kernel
theorem dX10_buy_61 : decode cX10_buy 61 = .ok (.iload_n 1, 1) := by decide +kernel
theorem dX10_buy_62 : decode cX10_buy 62 = .ok (.ior, 1) := by decide +kernel
theorem dX10_buy_63 : decode cX10_buy 63 = .ok (.invokevirtual 134, 3) := by decide +kernel
theorem dX10_buy_66 : decode cX10_buy 66 = .ok (.goto 4, 3) := by decide +kernel
theorem dX10_buy_69 : decode cX10_buy 69 = .ok (.iconst 0, 1) := by decide +kernel
theorem dX10_buy_70 : decode cX10_buy 70 = .ok (.istore 5, 2) := by decide +kernel
theorem dX10_buy_72 : decode cX10_buy 72 = .ok (.iload_n 3, 1) := by decide +kernel
theorem dX10_buy_73 : decode cX10_buy 73 = .ok (.ifCond .eq 19, 3) := by decide +kernel
theorem dX10_buy_76 : decode cX10_buy 76 = .ok (.iload 5, 2) := by decide +kernel
theorem dX10_buy_78 : decode cX10_buy 78 = .ok (.aload_n 0, 1) := by decide +kernel
theorem dX10_buy_79 : decode cX10_buy 79 = .ok (.getfield 29, 3) := by decide +kernel
theorem dX10_buy_82 : decode cX10_buy 82 = .ok (.iload 4, 2) := by decide +kernel
theorem dX10_buy_84 : decode cX10_buy 84 = .ok (.iaload, 1) := by decide +kernel
theorem dX10_buy_85 : decode cX10_buy 85 = .ok (.if_icmp .gt 7, 3) := by decide +kernel
theorem dX10_buy_88 : decode cX10_buy 88 = .ok (.iconst 1, 1) := by decide +kernel
theorem dX10_buy_89 : decode cX10_buy 89 = .ok (.goto 4, 3) := by decide +kernel
theorem dX10_buy_92 : decode cX10_buy 92 = .ok (.iconst 0, 1) := by decide +kernel
theorem dX10_buy_93 : decode cX10_buy 93 = .ok (.istore_n 3, 1) := by decide +kernel
theorem dX10_buy_94 : decode cX10_buy 94 = .ok (.iload_n 2, 1) := by decide +kernel
theorem dX10_buy_95 : decode cX10_buy 95 = .ok (.iload 5, 2) := by decide +kernel
theorem dX10_buy_97 : decode cX10_buy 97 = .ok (.iadd, 1) := by decide +kernel
theorem dX10_buy_98 : decode cX10_buy 98 = .ok (.istore_n 2, 1) := by decide +kernel
theorem dX10_buy_99 : decode cX10_buy 99 = .ok (.iinc 4 1, 3) := by decide +kernel
theorem dX10_buy_102 : decode cX10_buy 102 = .ok (.goto (-66), 3) := by decide +kernel
theorem dX10_buy_105 : decode cX10_buy 105 = .ok (.iload_n 3, 1) := by decide +kernel
theorem dX10_buy_106 : decode cX10_buy 106 = .ok (.ifCond .ne 6, 3) := by decide +kernel
theorem dX10_buy_109 : decode cX10_buy 109 = .ok (.bipush (-2), 2) := by decide +kernel
theorem dX10_buy_111 : decode cX10_buy 111 = .ok (.ireturn, 1) := by decide +kernel
theorem dX10_buy_112 : decode cX10_buy 112 = .ok (.aload_n 0, 1) := by decide +kernel
theorem dX10_buy_113 : decode cX10_buy 113 = .ok (.invokevirtual 147, 3) := by decide +kernel
theorem dX10_buy_116 : decode cX10_buy 116 = .ok (.iconst 0, 1) := by decide +kernel
theorem dX10_buy_117 : decode cX10_buy 117 = .ok (.istore 4, 2) := by decide +kernel
theorem dX10_buy_119 : decode cX10_buy 119 = .ok (.iload 4, 2) := by decide +kernel
theorem dX10_buy_121 : decode cX10_buy 121 = .ok (.aload_n 0, 1) := by decide +kernel
theorem dX10_buy_122 : decode cX10_buy 122 = .ok (.getfield 13, 3) := by decide +kernel
theorem dX10_buy_125 : decode cX10_buy 125 = .ok (.if_icmp .ge 44, 3) := by decide +kernel
theorem dX10_buy_128 : decode cX10_buy 128 = .ok (.aload_n 0, 1) := by decide +kernel
theorem dX10_buy_129 : decode cX10_buy 129 = .ok (.getfield 29, 3) := by decide +kernel
theorem dX10_buy_132 : decode cX10_buy 132 = .ok (.iload 4, 2) := by decide +kernel
theorem dX10_buy_134 : decode cX10_buy 134 = .ok (.dup2, 1) := by decide +kernel
theorem dX10_buy_135 : decode cX10_buy 135 = .ok (.iaload, 1) := by decide +kernel
theorem dX10_buy_136 : decode cX10_buy 136 = .ok (.iload_n 1, 1) := by decide +kernel
theorem dX10_buy_137 : decode cX10_buy 137 = .ok (.iload 4, 2) := by decide +kernel
theorem dX10_buy_139 : decode cX10_buy 139 = .ok (.invokestatic 124, 3) := by decide +kernel
theorem dX10_buy_142 : decode cX10_buy 142 = .ok (.ifCond .eq 18, 3) := by decide +kernel
theorem dX10_buy_145 : decode cX10_buy 145 = .ok (.aload_n 0, 1) := by decide +kernel
theorem dX10_buy_146 : decode cX10_buy 146 = .ok (.iload 4, 2) := by decide +kernel
theorem dX10_buy_148 : decode cX10_buy 148 = .ok (.aload_n 0, 1) := by decide +kernel
theorem dX10_buy_149 : decode cX10_buy 149 = .ok (.getfield 107, 3) := by decide +kernel
theorem dX10_buy_152 : decode cX10_buy 152 = .ok (.iload_n 1, 1) := by decide +kernel
theorem dX10_buy_153 : decode cX10_buy 153 = .ok (.ior, 1) := by decide +kernel
theorem dX10_buy_154 : decode cX10_buy 154 = .ok (.invokevirtual 134, 3) := by decide +kernel
theorem dX10_buy_157 : decode cX10_buy 157 = .ok (.goto 4, 3) := by decide +kernel
theorem dX10_buy_160 : decode cX10_buy 160 = .ok (.iconst 0, 1) := by decide +kernel
theorem dX10_buy_161 : decode cX10_buy 161 = .ok (.isub, 1) := by decide +kernel
theorem dX10_buy_162 : decode cX10_buy 162 = .ok (.iastore, 1) := by decide +kernel
theorem dX10_buy_163 : decode cX10_buy 163 = .ok (.iinc 4 1, 3) := by decide +kernel
theorem dX10_buy_166 : decode cX10_buy 166 = .ok (.goto (-47), 3) := by decide +kernel
theorem dX10_buy_169 : decode cX10_buy 169 = .ok (.aload_n 0, 1) := by decide +kernel
theorem dX10_buy_170 : decode cX10_buy 170 = .ok (.dup, 1) := by decide +kernel
theorem dX10_buy_171 : decode cX10_buy 171 = .ok (.getfield 107, 3) := by decide +kernel
theorem dX10_buy_174 : decode cX10_buy 174 = .ok (.iload_n 1, 1) := by decide +kernel
theorem dX10_buy_175 : decode cX10_buy 175 = .ok (.ior, 1) := by decide +kernel
theorem dX10_buy_176 : decode cX10_buy 176 = .ok (.putfield 107, 3) := by decide +kernel
theorem dX10_buy_179 : decode cX10_buy 179 = .ok (.iload_n 2, 1) := by decide +kernel
theorem dX10_buy_180 : decode cX10_buy 180 = .ok (.ireturn, 1) := by decide +kernel
theorem dX10_toss_0 : decode cX10_toss 0 = .ok (.aload_n 0, 1) := by decide +kernel
theorem dX10_toss_1 : decode cX10_toss 1 = .ok (.iload_n 1, 1) := by decide +kernel
theorem dX10_toss_2 : decode cX10_toss 2 = .ok (.invokevirtual 119, 3) := by decide +kernel
theorem dX10_toss_5 : decode cX10_toss 5 = .ok (.ifCond .ne 5, 3) := by decide +kernel
theorem dX10_toss_8 : decode cX10_toss 8 = .ok (.iconst (-1), 1) := by decide +kernel
theorem dX10_toss_9 : decode cX10_toss 9 = .ok (.ireturn, 1) := by decide +kernel
theorem dX10_toss_10 : decode cX10_toss 10 = .ok (.aload_n 0, 1) := by decide +kernel
theorem dX10_toss_11 : decode cX10_toss 11 = .ok (.getfield 107, 3) := by decide +kernel
theorem dX10_toss_14 : decode cX10_toss 14 = .ok (.iload_n 1, 1) := by decide +kernel
theorem dX10_toss_15 : decode cX10_toss 15 = .ok (.invokestatic 124, 3) := by decide +kernel
theorem dX10_toss_18 : decode cX10_toss 18 = .ok (.ifCond .ne 6, 3) := by decide +kernel
theorem dX10_toss_21 : decode cX10_toss 21 = .ok (.bipush (-2), 2) := by decide +kernel
theorem dX10_toss_23 : decode cX10_toss 23 = .ok (.ireturn, 1) := by decide +kernel
theorem dX10_toss_24 : decode cX10_toss 24 = .ok (.aload_n 0, 1) := by decide +kernel
theorem dX10_toss_25 : decode cX10_toss 25 = .ok (.invokevirtual 147, 3) := by decide +kernel
theorem dX10_toss_28 : decode cX10_toss 28 = .ok (.aload_n 0, 1) := by decide +kernel
theorem dX10_toss_29 : decode cX10_toss 29 = .ok (.dup, 1) := by decide +kernel
theorem dX10_toss_30 : decode cX10_toss 30 = .ok (.getfield 107, 3) := by decide +kernel
theorem dX10_toss_33 : decode cX10_toss 33 = .ok (.iconst 1, 1) := by decide +kernel
theorem dX10_toss_34 : decode cX10_toss 34 = .ok (.iload_n 1, 1) := by decide +kernel
theorem dX10_toss_35 : decode cX10_toss 35 = .ok (.ishl, 1) := by decide +kernel
theorem dX10_toss_36 : decode cX10_toss 36 = .ok (.ixor, 1) := by decide +kernel
theorem dX10_toss_37 : decode cX10_toss 37 = .ok (.putfield 107, 3) := by decide +kernel
theorem dX10_toss_40 : decode cX10_toss 40 = .ok (.aload_n 0, 1) := by decide +kernel
theorem dX10_toss_41 : decode cX10_toss 41 = .ok (.getfield 107, 3) := by decide +kernel
theorem dX10_toss_44 : decode cX10_toss 44 = .ok (.invokestatic 128, 3) := by decide +kernel
theorem dX10_toss_47 : decode cX10_toss 47 = .ok (.ireturn, 1) := by decide +kernel
theorem dX10_sell_0 : decode cX10_sell 0 = .ok (.aload_n 0, 1) := by decide +kernel
theorem dX10_sell_1 : decode cX10_sell 1 = .ok (.iload_n 1, 1) := by decide +kernel
theorem dX10_sell_2 : decode cX10_sell 2 = .ok (.invokevirtual 119, 3) := by decide +kernel
theorem dX10_sell_5 : decode cX10_sell 5 = .ok (.ifCond .eq 16, 3) := by decide +kernel
theorem dX10_sell_8 : decode cX10_sell 8 = .ok (.aload_n 0, 1) := by decide +kernel
theorem dX10_sell_9 : decode cX10_sell 9 = .ok (.iload_n 2, 1) := by decide +kernel
theorem dX10_sell_10 : decode cX10_sell 10 = .ok (.invokevirtual 119, 3) := by decide +kernel
theorem dX10_sell_13 : decode cX10_sell 13 = .ok (.ifCond .eq 8, 3) := by decide +kernel
theorem dX10_sell_16 : decode cX10_sell 16 = .ok (.iload_n 1, 1) := by decide +kernel
theorem dX10_sell_17 : decode cX10_sell 17 = .ok (.iload_n 2, 1) := by decide +kernel
theorem dX10_sell_18 : decode cX10_sell 18 = .ok (.if_icmp .ne 5, 3) := by decide +kernel
theorem dX10_sell_21 : decode cX10_sell 21 = .ok (.iconst (-1), 1) := by decide +kernel
theorem dX10_sell_22 : decode cX10_sell 22 = .ok (.ireturn, 1) := by decide +kernel
theorem dX10_sell_23 : decode cX10_sell 23 = .ok (.aload_n 0, 1) := by decide +kernel
theorem dX10_sell_24 : decode cX10_sell 24 = .ok (.iload_n 2, 1) := by decide +kernel
theorem dX10_sell_25 : decode cX10_sell 25 = .ok (.aload_n 0, 1) := by decide +kernel
theorem dX10_sell_26 : decode cX10_sell 26 = .ok (.getfield 107, 3) := by decide +kernel
theorem dX10_sell_29 : decode cX10_sell 29 = .ok (.iconst 1, 1) := by decide +kernel
theorem dX10_sell_30 : decode cX10_sell 30 = .ok (.iload_n 1, 1) := by decide +kernel
theorem dX10_sell_31 : decode cX10_sell 31 = .ok (.ishl, 1) := by decide +kernel
theorem dX10_sell_32 : decode cX10_sell 32 = .ok (.iconst (-1), 1) := by decide +kernel
theorem dX10_sell_33 : decode cX10_sell 33 = .ok (.ixor, 1) := by decide +kernel
theorem dX10_sell_34 : decode cX10_sell 34 = .ok (.iand, 1) := by decide +kernel
theorem dX10_sell_35 : decode cX10_sell 35 = .ok (.invokevirtual 134, 3) := by decide +kernel
theorem dX10_sell_38 : decode cX10_sell 38 = .ok (.istore_n 3, 1) := by decide +kernel
theorem dX10_sell_39 : decode cX10_sell 39 = .ok (.aload_n 0, 1) := by decide +kernel
theorem dX10_sell_40 : decode cX10_sell 40 = .ok (.getfield 107, 3) := by decide +kernel
theorem dX10_sell_43 : decode cX10_sell 43 = .ok (.iload_n 1, 1) := by decide +kernel
theorem dX10_sell_44 : decode cX10_sell 44 = .ok (.invokestatic 124, 3) := by decide +kernel
theorem dX10_sell_47 : decode cX10_sell 47 = .ok (.ifCond .eq 24, 3) := by decide +kernel
theorem dX10_sell_50 : decode cX10_sell 50 = .ok (.aload_n 0, 1) := by decide +kernel
theorem dX10_sell_51 : decode cX10_sell 51 = .ok (.getfield 107, 3) := by decide +kernel
theorem dX10_sell_54 : decode cX10_sell 54 = .ok (.iload_n 2, 1) := by decide +kernel
theorem dX10_sell_55 : decode cX10_sell 55 = .ok (.invokestatic 124, 3) := by decide +kernel
theorem dX10_sell_58 : decode cX10_sell 58 = .ok (.ifCond .ne 13, 3) := by decide +kernel
theorem dX10_sell_61 : decode cX10_sell 61 = .ok (.aload_n 0, 1) := by decide +kernel
theorem dX10_sell_62 : decode cX10_sell 62 = .ok (.getfield 29, 3) := by decide +kernel
theorem dX10_sell_65 : decode cX10_sell 65 = .ok (.iload_n 2, 1) := by decide +kernel
theorem dX10_sell_66 : decode cX10_sell 66 = .ok (.iaload, 1) := by decide +kernel
theorem dX10_sell_67 : decode cX10_sell 67 = .ok (.iload_n 3, 1) := by decide +kernel
theorem dX10_sell_68 : decode cX10_sell 68 = .ok (.if_icmp .ge 6, 3) := by decide +kernel
theorem dX10_sell_71 : decode cX10_sell 71 = .ok (.bipush (-2), 2) := by decide +kernel
theorem dX10_sell_73 : decode cX10_sell 73 = .ok (.ireturn, 1) := by decide +kernel
theorem dX10_sell_74 : decode cX10_sell 74 = .ok (.aload_n 0, 1) := by decide +kernel
theorem dX10_sell_75 : decode cX10_sell 75 = .ok (.invokevirtual 147, 3) := by decide +kernel
theorem dX10_sell_78 : decode cX10_sell 78 = .ok (.aload_n 0, 1) := by decide +kernel
theorem dX10_sell_79 : decode cX10_sell 79 = .ok (.getfield 29, 3) := by decide +kernel
theorem dX10_sell_82 : decode cX10_sell 82 = .ok (.iload_n 1, 1) := by decide +kernel
theorem dX10_sell_83 : decode cX10_sell 83 = .ok (.dup2, 1) := by decide +kernel
theorem dX10_sell_84 : decode cX10_sell 84 = .ok (.iaload, 1) := by decide +kernel
theorem dX10_sell_85 : decode cX10_sell 85 = .ok (.iload_n 3, 1) := by decide +kernel
theorem dX10_sell_86 : decode cX10_sell 86 = .ok (.iadd, 1) := by decide +kernel
theorem dX10_sell_87 : decode cX10_sell 87 = .ok (.iastore, 1) := by decide +kernel
theorem dX10_sell_88 : decode cX10_sell 88 = .ok (.aload_n 0, 1) := by decide +kernel
theorem dX10_sell_89 : decode cX10_sell 89 = .ok (.getfield 29, 3) := by decide +kernel
theorem dX10_sell_92 : decode cX10_sell 92 = .ok (.iload_n 2, 1) := by decide +kernel
theorem dX10_sell_93 : decode cX10_sell 93 = .ok (.dup2, 1) := by decide +kernel
theorem dX10_sell_94 : decode cX10_sell 94 = .ok (.iaload, 1) := by decide +kernel
theorem dX10_sell_95 : decode cX10_sell 95 = .ok (.iload_n 3, 1) := by decide +kernel
theorem dX10_sell_96 : decode cX10_sell 96 = .ok (.isub, 1) := by decide +kernel
theorem dX10_sell_97 : decode cX10_sell 97 = .ok (.iastore, 1) := by decide +kernel
theorem dX10_sell_98 : decode cX10_sell 98 = .ok (.aload_n 0, 1) := by decide +kernel
theorem dX10_sell_99 : decode cX10_sell 99 = .ok (.dup, 1) := by decide +kernel
theorem dX10_sell_100 : decode cX10_sell 100 = .ok (.getfield 107, 3) := by decide +kernel
theorem dX10_sell_103 : decode cX10_sell 103 = .ok (.iconst 1, 1) := by decide +kernel
theorem dX10_sell_104 : decode cX10_sell 104 = .ok (.iload_n 1, 1) := by decide +kernel
theorem dX10_sell_105 : decode cX10_sell 105 = .ok (.ishl, 1) := by decide +kernel
theorem dX10_sell_106 : decode cX10_sell 106 = .ok (.iconst 1, 1) := by decide +kernel
theorem dX10_sell_107 : decode cX10_sell 107 = .ok (.iload_n 2, 1) := by decide +kernel
theorem dX10_sell_108 : decode cX10_sell 108 = .ok (.ishl, 1) := by decide +kernel
theorem dX10_sell_109 : decode cX10_sell 109 = .ok (.ior, 1) := by decide +kernel
theorem dX10_sell_110 : decode cX10_sell 110 = .ok (.ixor, 1) := by decide +kernel
theorem dX10_sell_111 : decode cX10_sell 111 = .ok (.putfield 107, 3) := by decide +kernel
theorem dX10_sell_114 : decode cX10_sell 114 = .ok (.iload_n 3, 1) := by decide +kernel
theorem dX10_sell_115 : decode cX10_sell 115 = .ok (.ireturn, 1) := by decide +kernel
theorem dX10_undo_0 : decode cX10_undo 0 = .ok (.aload_n 0, 1) := by decide +kernel
theorem dX10_undo_1 : decode cX10_undo 1 = .ok (.getfield 113, 3) := by decide +kernel
theorem dX10_undo_4 : decode cX10_undo 4 = .ok (.ifCond .ne 6, 3) := by decide +kernel
theorem dX10_undo_7 : decode cX10_undo 7 = .ok (.bipush (-2), 2) := by decide +kernel
theorem dX10_undo_9 : decode cX10_undo 9 = .ok (.ireturn, 1) := by decide +kernel
theorem dX10_undo_10 : decode cX10_undo 10 = .ok (.aload_n 0, 1) := by decide +kernel
theorem dX10_undo_11 : decode cX10_undo 11 = .ok (.dup, 1) := by decide +kernel
theorem dX10_undo_12 : decode cX10_undo 12 = .ok (.getfield 113, 3) := by decide +kernel
theorem dX10_undo_15 : decode cX10_undo 15 = .ok (.iconst 1, 1) := by decide +kernel
theorem dX10_undo_16 : decode cX10_undo 16 = .ok (.isub, 1) := by decide +kernel
theorem dX10_undo_17 : decode cX10_undo 17 = .ok (.putfield 113, 3) := by decide +kernel
theorem dX10_undo_20 : decode cX10_undo 20 = .ok (.aload_n 0, 1) := by decide +kernel
theorem dX10_undo_21 : decode cX10_undo 21 = .ok (.aload_n 0, 1) := by decide +kernel
theorem dX10_undo_22 : decode cX10_undo 22 = .ok (.getfield 35, 3) := by decide +kernel
theorem dX10_undo_25 : decode cX10_undo 25 = .ok (.bipush 8, 2) := by decide +kernel
theorem dX10_undo_27 : decode cX10_undo 27 = .ok (.aload_n 0, 1) := by decide +kernel
theorem dX10_undo_28 : decode cX10_undo 28 = .ok (.getfield 113, 3) := by decide +kernel
theorem dX10_undo_31 : decode cX10_undo 31 = .ok (.imul, 1) := by decide +kernel
theorem dX10_undo_32 : decode cX10_undo 32 = .ok (.iaload, 1) := by decide +kernel
theorem dX10_undo_33 : decode cX10_undo 33 = .ok (.putfield 107, 3) := by decide +kernel
theorem dX10_undo_36 : decode cX10_undo 36 = .ok (.iconst 0, 1) := by decide +kernel
theorem dX10_undo_37 : decode cX10_undo 37 = .ok (.istore_n 1, 1) := by decide +kernel
theorem dX10_undo_38 : decode cX10_undo 38 = .ok (.iload_n 1, 1) := by decide +kernel
theorem dX10_undo_39 : decode cX10_undo 39 = .ok (.bipush 7, 2) := by decide +kernel
theorem dX10_undo_41 : decode cX10_undo 41 = .ok (.if_icmp .ge 31, 3) := by decide +kernel
theorem dX10_undo_44 : decode cX10_undo 44 = .ok (.aload_n 0, 1) := by decide +kernel
theorem dX10_undo_45 : decode cX10_undo 45 = .ok (.getfield 29, 3) := by decide +kernel
theorem dX10_undo_48 : decode cX10_undo 48 = .ok (.iload_n 1, 1) := by decide +kernel
theorem dX10_undo_49 : decode cX10_undo 49 = .ok (.aload_n 0, 1) := by decide +kernel
theorem dX10_undo_50 : decode cX10_undo 50 = .ok (.getfield 35, 3) := by decide +kernel
theorem dX10_undo_53 : decode cX10_undo 53 = .ok (.bipush 8, 2) := by decide +kernel
theorem dX10_undo_55 : decode cX10_undo 55 = .ok (.aload_n 0, 1) := by decide +kernel
theorem dX10_undo_56 : decode cX10_undo 56 = .ok (.getfield 113, 3) := by decide +kernel
theorem dX10_undo_59 : decode cX10_undo 59 = .ok (.imul, 1) := by decide +kernel
theorem dX10_undo_60 : decode cX10_undo 60 = .ok (.iconst 1, 1) := by decide +kernel
theorem dX10_undo_61 : decode cX10_undo 61 = .ok (.iadd, 1) := by decide +kernel
theorem dX10_undo_62 : decode cX10_undo 62 = .ok (.iload_n 1, 1) := by decide +kernel
theorem dX10_undo_63 : decode cX10_undo 63 = .ok (.iadd, 1) := by decide +kernel
theorem dX10_undo_64 : decode cX10_undo 64 = .ok (.iaload, 1) := by decide +kernel
theorem dX10_undo_65 : decode cX10_undo 65 = .ok (.iastore, 1) := by decide +kernel
theorem dX10_undo_66 : decode cX10_undo 66 = .ok (.iinc 1 1, 3) := by decide +kernel
theorem dX10_undo_69 : decode cX10_undo 69 = .ok (.goto (-31), 3) := by decide +kernel
theorem dX10_undo_72 : decode cX10_undo 72 = .ok (.aload_n 0, 1) := by decide +kernel
theorem dX10_undo_73 : decode cX10_undo 73 = .ok (.getfield 113, 3) := by decide +kernel
theorem dX10_undo_76 : decode cX10_undo 76 = .ok (.ireturn, 1) := by decide +kernel
theorem dX10_price_0 : decode cX10_price 0 = .ok (.aload_n 0, 1) := by decide +kernel
theorem dX10_price_1 : decode cX10_price 1 = .ok (.iload_n 1, 1) := by decide +kernel
theorem dX10_price_2 : decode cX10_price 2 = .ok (.invokevirtual 119, 3) := by decide +kernel
theorem dX10_price_5 : decode cX10_price 5 = .ok (.ifCond .ne 5, 3) := by decide +kernel
theorem dX10_price_8 : decode cX10_price 8 = .ok (.iconst (-1), 1) := by decide +kernel
theorem dX10_price_9 : decode cX10_price 9 = .ok (.ireturn, 1) := by decide +kernel
theorem dX10_price_10 : decode cX10_price 10 = .ok (.aload_n 0, 1) := by decide +kernel
theorem dX10_price_11 : decode cX10_price 11 = .ok (.getfield 107, 3) := by decide +kernel
theorem dX10_price_14 : decode cX10_price 14 = .ok (.iload_n 1, 1) := by decide +kernel
theorem dX10_price_15 : decode cX10_price 15 = .ok (.invokestatic 124, 3) := by decide +kernel
theorem dX10_price_18 : decode cX10_price 18 = .ok (.ifCond .eq 8, 3) := by decide +kernel
theorem dX10_price_21 : decode cX10_price 21 = .ok (.bipush (-2), 2) := by decide +kernel
theorem dX10_price_23 : decode cX10_price 23 = .ok (.goto 12, 3) := by decide +kernel
theorem dX10_price_26 : decode cX10_price 26 = .ok (.aload_n 0, 1) := by decide +kernel
theorem dX10_price_27 : decode cX10_price 27 = .ok (.iload_n 1, 1) := by decide +kernel
theorem dX10_price_28 : decode cX10_price 28 = .ok (.aload_n 0, 1) := by decide +kernel
theorem dX10_price_29 : decode cX10_price 29 = .ok (.getfield 107, 3) := by decide +kernel
theorem dX10_price_32 : decode cX10_price 32 = .ok (.invokevirtual 134, 3) := by decide +kernel
theorem dX10_price_35 : decode cX10_price 35 = .ok (.ireturn, 1) := by decide +kernel
theorem dX10_wouldBuy_0 : decode cX10_wouldBuy 0 = .ok (.iload_n 2, 1) := by decide +kernel
theorem dX10_wouldBuy_1 : decode cX10_wouldBuy 1 = .ok (.iload_n 1, 1) := by decide +kernel
theorem dX10_wouldBuy_2 : decode cX10_wouldBuy 2 = .ok (.invokestatic 124, 3) := by decide +kernel
theorem dX10_wouldBuy_5 : decode cX10_wouldBuy 5 = .ok (.ifCond .ne 22, 3) := by decide +kernel
theorem dX10_wouldBuy_8 : decode cX10_wouldBuy 8 = .ok (.aload_n 0, 1) := by decide +kernel
theorem dX10_wouldBuy_9 : decode cX10_wouldBuy 9 = .ok (.iload_n 1, 1) := by decide +kernel
theorem dX10_wouldBuy_10 : decode cX10_wouldBuy 10 = .ok (.iload_n 2, 1) := by decide +kernel
theorem dX10_wouldBuy_11 : decode cX10_wouldBuy 11 = .ok (.invokevirtual 144, 3) := by decide +kernel
theorem dX10_wouldBuy_14 : decode cX10_wouldBuy 14 = .ok (.aload_n 0, 1) := by decide +kernel
theorem dX10_wouldBuy_15 : decode cX10_wouldBuy 15 = .ok (.iload_n 1, 1) := by decide +kernel
theorem dX10_wouldBuy_16 : decode cX10_wouldBuy 16 = .ok (.iload_n 2, 1) := by decide +kernel
theorem dX10_wouldBuy_17 : decode cX10_wouldBuy 17 = .ok (.invokevirtual 134, 3) := by decide +kernel
theorem dX10_wouldBuy_20 : decode cX10_wouldBuy 20 = .ok (.if_icmp .le 7, 3) := by decide +kernel
theorem dX10_wouldBuy_23 : decode cX10_wouldBuy 23 = .ok (.iconst 1, 1) := by decide +kernel
theorem dX10_wouldBuy_24 : decode cX10_wouldBuy 24 = .ok (.goto 4, 3) := by decide +kernel
theorem dX10_wouldBuy_27 : decode cX10_wouldBuy 27 = .ok (.iconst 0, 1) := by decide +kernel
theorem dX10_wouldBuy_28 : decode cX10_wouldBuy 28 = .ok (.ireturn, 1) := by decide +kernel
theorem dX10_wouldThrow_0 : decode cX10_wouldThrow 0 = .ok (.iload_n 2, 1) := by decide +kernel
theorem dX10_wouldThrow_1 : decode cX10_wouldThrow 1 = .ok (.iload_n 1, 1) := by decide +kernel
theorem dX10_wouldThrow_2 : decode cX10_wouldThrow 2 = .ok (.invokestatic 124, 3) := by decide +kernel
theorem dX10_wouldThrow_5 : decode cX10_wouldThrow 5 = .ok (.ifCond .eq 16, 3) := by decide +kernel
theorem dX10_wouldThrow_8 : decode cX10_wouldThrow 8 = .ok (.aload_n 0, 1) := by decide +kernel
theorem dX10_wouldThrow_9 : decode cX10_wouldThrow 9 = .ok (.iload_n 1, 1) := by decide +kernel
theorem dX10_wouldThrow_10 : decode cX10_wouldThrow 10 = .ok (.iload_n 2, 1) := by decide +kernel
theorem dX10_wouldThrow_11 : decode cX10_wouldThrow 11 = .ok (.invokevirtual 144, 3) := by decide +kernel
theorem dX10_wouldThrow_14 : decode cX10_wouldThrow 14 = .ok (.ifCond .ge 7, 3) := by decide +kernel
theorem dX10_wouldThrow_17 : decode cX10_wouldThrow 17 = .ok (.iconst 1, 1) := by decide +kernel
theorem dX10_wouldThrow_18 : decode cX10_wouldThrow 18 = .ok (.goto 4, 3) := by decide +kernel
theorem dX10_wouldThrow_21 : decode cX10_wouldThrow 21 = .ok (.iconst 0, 1) := by decide +kernel
theorem dX10_wouldThrow_22 : decode cX10_wouldThrow 22 = .ok (.ireturn, 1) := by decide +kernel
theorem dX10_would_0 : decode cX10_would 0 = .ok (.iload_n 1, 1) := by decide +kernel
theorem dX10_would_1 : decode cX10_would 1 = .ok (.i2l, 1) := by decide +kernel
theorem dX10_would_2 : decode cX10_would 2 = .ok (.lconst 0, 1) := by decide +kernel
theorem dX10_would_3 : decode cX10_would 3 = .ok (.lconst 1, 1) := by decide +kernel
theorem dX10_would_4 : decode cX10_would 4 = .ok (.invokestatic 57, 3) := by decide +kernel
theorem dX10_would_7 : decode cX10_would 7 = .ok (.ifCond .ne 5, 3) := by decide +kernel
theorem dX10_would_10 : decode cX10_would 10 = .ok (.iconst (-1), 1) := by decide +kernel
theorem dX10_would_11 : decode cX10_would 11 = .ok (.ireturn, 1) := by decide +kernel
theorem dX10_would_12 : decode cX10_would 12 = .ok (.iconst 0, 1) := by decide +kernel
theorem dX10_would_13 : decode cX10_would 13 = .ok (.istore_n 2, 1) := by decide +kernel
theorem dX10_would_14 : decode cX10_would 14 = .ok (.iconst 0, 1) := by decide +kernel
theorem dX10_would_15 : decode cX10_would 15 = .ok (.istore_n 3, 1) := by decide +kernel
theorem dX10_would_16 : decode cX10_would 16 = .ok (.iload_n 3, 1) := by decide +kernel
theorem dX10_would_17 : decode cX10_would 17 = .ok (.aload_n 0, 1) := by decide +kernel
theorem dX10_would_18 : decode cX10_would 18 = .ok (.getfield 13, 3) := by decide +kernel
theorem dX10_would_21 : decode cX10_would 21 = .ok (.if_icmp .ge 50, 3) := by decide +kernel
theorem dX10_would_24 : decode cX10_would 24 = .ok (.iload_n 2, 1) := by decide +kernel
theorem dX10_would_25 : decode cX10_would 25 = .ok (.iload_n 1, 1) := by decide +kernel
theorem dX10_would_26 : decode cX10_would 26 = .ok (.ifCond .ne 18, 3) := by decide +kernel
theorem dX10_would_29 : decode cX10_would 29 = .ok (.aload_n 0, 1) := by decide +kernel
theorem dX10_would_30 : decode cX10_would 30 = .ok (.iload_n 3, 1) := by decide +kernel
theorem dX10_would_31 : decode cX10_would 31 = .ok (.aload_n 0, 1) := by decide +kernel
theorem dX10_would_32 : decode cX10_would 32 = .ok (.getfield 107, 3) := by decide +kernel
theorem dX10_would_35 : decode cX10_would 35 = .ok (.invokevirtual 150, 3) := by decide +kernel
theorem dX10_would_38 : decode cX10_would 38 = .ok (.ifCond .eq 24, 3) := by decide +kernel
theorem dX10_would_41 : decode cX10_would 41 = .ok (.goto 15, 3) := by decide +kernel
theorem dX10_would_44 : decode cX10_would 44 = .ok (.aload_n 0, 1) := by decide +kernel
theorem dX10_would_45 : decode cX10_would 45 = .ok (.iload_n 3, 1) := by decide +kernel
theorem dX10_would_46 : decode cX10_would 46 = .ok (.aload_n 0, 1) := by decide +kernel
theorem dX10_would_47 : decode cX10_would 47 = .ok (.getfield 107, 3) := by decide +kernel
theorem dX10_would_50 : decode cX10_would 50 = .ok (.invokevirtual 153, 3) := by decide +kernel
theorem dX10_would_53 : decode cX10_would 53 = .ok (.ifCond .eq 9, 3) := by decide +kernel
theorem dX10_would_56 : decode cX10_would 56 = .ok (.iconst 1, 1) := by decide +kernel
theorem dX10_would_57 : decode cX10_would 57 = .ok (.iload_n 3, 1) := by decide +kernel
theorem dX10_would_58 : decode cX10_would 58 = .ok (.ishl, 1) := by decide +kernel
theorem dX10_would_59 : decode cX10_would 59 = .ok (.goto 4, 3) := by decide +kernel
theorem dX10_would_62 : decode cX10_would 62 = .ok (.iconst 0, 1) := by decide +kernel
theorem dX10_would_63 : decode cX10_would 63 = .ok (.ior, 1) := by decide +kernel
theorem dX10_would_64 : decode cX10_would 64 = .ok (.istore_n 2, 1) := by decide +kernel
theorem dX10_would_65 : decode cX10_would 65 = .ok (.iinc 3 1, 3) := by decide +kernel
theorem dX10_would_68 : decode cX10_would 68 = .ok (.goto (-52), 3) := by decide +kernel
theorem dX10_would_71 : decode cX10_would 71 = .ok (.iload_n 2, 1) := by decide +kernel
theorem dX10_would_72 : decode cX10_would 72 = .ok (.ireturn, 1) := by decide +kernel
theorem dX10_round_0 : decode cX10_round 0 = .ok (.iload_n 1, 1) := by decide +kernel
theorem dX10_round_1 : decode cX10_round 1 = .ok (.istore_n 3, 1) := by decide +kernel
theorem dX10_round_2 : decode cX10_round 2 = .ok (.iconst 0, 1) := by decide +kernel
theorem dX10_round_3 : decode cX10_round 3 = .ok (.istore 4, 2) := by decide +kernel
theorem dX10_round_5 : decode cX10_round 5 = .ok (.iload 4, 2) := by decide +kernel
theorem dX10_round_7 : decode cX10_round 7 = .ok (.aload_n 0, 1) := by decide +kernel
theorem dX10_round_8 : decode cX10_round 8 = .ok (.getfield 13, 3) := by decide +kernel
theorem dX10_round_11 : decode cX10_round 11 = .ok (.if_icmp .ge 53, 3) := by decide +kernel
theorem dX10_round_14 : decode cX10_round 14 = .ok (.iload_n 2, 1) := by decide +kernel
theorem dX10_round_15 : decode cX10_round 15 = .ok (.ifCond .eq 7, 3) := by decide +kernel
theorem dX10_round_18 : decode cX10_round 18 = .ok (.iload_n 3, 1) := by decide +kernel
theorem dX10_round_19 : decode cX10_round 19 = .ok (.goto 4, 3) := by decide +kernel
theorem dX10_round_22 : decode cX10_round 22 = .ok (.iload_n 1, 1) := by decide +kernel
theorem dX10_round_23 : decode cX10_round 23 = .ok (.istore 5, 2) := by decide +kernel
theorem dX10_round_25 : decode cX10_round 25 = .ok (.iload_n 3, 1) := by decide +kernel
theorem dX10_round_26 : decode cX10_round 26 = .ok (.aload_n 0, 1) := by decide +kernel
theorem dX10_round_27 : decode cX10_round 27 = .ok (.iload 4, 2) := by decide +kernel
theorem dX10_round_29 : decode cX10_round 29 = .ok (.iload 5, 2) := by decide +kernel
theorem dX10_round_31 : decode cX10_round 31 = .ok (.invokevirtual 150, 3) := by decide +kernel
theorem dX10_round_34 : decode cX10_round 34 = .ok (.ifCond .ne 14, 3) := by decide +kernel
theorem dX10_round_37 : decode cX10_round 37 = .ok (.aload_n 0, 1) := by decide +kernel
theorem dX10_round_38 : decode cX10_round 38 = .ok (.iload 4, 2) := by decide +kernel
theorem dX10_round_40 : decode cX10_round 40 = .ok (.iload 5, 2) := by decide +kernel
theorem dX10_round_42 : decode cX10_round 42 = .ok (.invokevirtual 153, 3) := by decide +kernel
theorem dX10_round_45 : decode cX10_round 45 = .ok (.ifCond .eq 10, 3) := by decide +kernel
theorem dX10_round_48 : decode cX10_round 48 = .ok (.iconst 1, 1) := by decide +kernel
theorem dX10_round_49 : decode cX10_round 49 = .ok (.iload 4, 2) := by decide +kernel
theorem dX10_round_51 : decode cX10_round 51 = .ok (.ishl, 1) := by decide +kernel
theorem dX10_round_52 : decode cX10_round 52 = .ok (.goto 4, 3) := by decide +kernel
theorem dX10_round_55 : decode cX10_round 55 = .ok (.iconst 0, 1) := by decide +kernel
theorem dX10_round_56 : decode cX10_round 56 = .ok (.ixor, 1) := by decide +kernel
theorem dX10_round_57 : decode cX10_round 57 = .ok (.istore_n 3, 1) := by decide +kernel
theorem dX10_round_58 : decode cX10_round 58 = .ok (.iinc 4 1, 3) := by decide +kernel
theorem dX10_round_61 : decode cX10_round 61 = .ok (.goto (-56), 3) := by decide +kernel
theorem dX10_round_64 : decode cX10_round 64 = .ok (.iload_n 3, 1) := by decide +kernel
theorem dX10_round_65 : decode cX10_round 65 = .ok (.ireturn, 1) := by decide +kernel
theorem dX10_tells_0 : decode cX10_tells 0 = .ok (.iconst 0, 1) := by decide +kernel
theorem dX10_tells_1 : decode cX10_tells 1 = .ok (.istore_n 2, 1) := by decide +kernel
theorem dX10_tells_2 : decode cX10_tells 2 = .ok (.iload_n 2, 1) := by decide +kernel
theorem dX10_tells_3 : decode cX10_tells 3 = .ok (.aload_n 0, 1) := by decide +kernel
theorem dX10_tells_4 : decode cX10_tells 4 = .ok (.invokevirtual 141, 3) := by decide +kernel
theorem dX10_tells_7 : decode cX10_tells 7 = .ok (.if_icmp .gt 21, 3) := by decide +kernel
theorem dX10_tells_10 : decode cX10_tells 10 = .ok (.aload_n 0, 1) := by decide +kernel
theorem dX10_tells_11 : decode cX10_tells 11 = .ok (.getfield 54, 3) := by decide +kernel
theorem dX10_tells_14 : decode cX10_tells 14 = .ok (.iload_n 2, 1) := by decide +kernel
theorem dX10_tells_15 : decode cX10_tells 15 = .ok (.aload_n 0, 1) := by decide +kernel
theorem dX10_tells_16 : decode cX10_tells 16 = .ok (.iload_n 2, 1) := by decide +kernel
theorem dX10_tells_17 : decode cX10_tells 17 = .ok (.iload_n 1, 1) := by decide +kernel
theorem dX10_tells_18 : decode cX10_tells 18 = .ok (.invokevirtual 156, 3) := by decide +kernel
theorem dX10_tells_21 : decode cX10_tells 21 = .ok (.iastore, 1) := by decide +kernel
theorem dX10_tells_22 : decode cX10_tells 22 = .ok (.iinc 2 1, 3) := by decide +kernel
theorem dX10_tells_25 : decode cX10_tells 25 = .ok (.goto (-23), 3) := by decide +kernel
theorem dX10_tells_28 : decode cX10_tells 28 = .ok (.return_, 1) := by decide +kernel
theorem dX10_behind_0 : decode cX10_behind 0 = .ok (.iload_n 1, 1) := by decide +kernel
theorem dX10_behind_1 : decode cX10_behind 1 = .ok (.i2l, 1) := by decide +kernel
theorem dX10_behind_2 : decode cX10_behind 2 = .ok (.lconst 0, 1) := by decide +kernel
theorem dX10_behind_3 : decode cX10_behind 3 = .ok (.ldc2_w 160, 3) := by decide +kernel
theorem dX10_behind_6 : decode cX10_behind 6 = .ok (.invokestatic 57, 3) := by decide +kernel
theorem dX10_behind_9 : decode cX10_behind 9 = .ok (.ifCond .ne 5, 3) := by decide +kernel
theorem dX10_behind_12 : decode cX10_behind 12 = .ok (.iconst (-1), 1) := by decide +kernel
theorem dX10_behind_13 : decode cX10_behind 13 = .ok (.ireturn, 1) := by decide +kernel
theorem dX10_behind_14 : decode cX10_behind 14 = .ok (.aload_n 0, 1) := by decide +kernel
theorem dX10_behind_15 : decode cX10_behind 15 = .ok (.getfield 107, 3) := by decide +kernel
theorem dX10_behind_18 : decode cX10_behind 18 = .ok (.istore_n 3, 1) := by decide +kernel
theorem dX10_behind_19 : decode cX10_behind 19 = .ok (.iconst 0, 1) := by decide +kernel
theorem dX10_behind_20 : decode cX10_behind 20 = .ok (.istore 4, 2) := by decide +kernel
theorem dX10_behind_22 : decode cX10_behind 22 = .ok (.iload 4, 2) := by decide +kernel
theorem dX10_behind_24 : decode cX10_behind 24 = .ok (.iload_n 1, 1) := by decide +kernel
theorem dX10_behind_25 : decode cX10_behind 25 = .ok (.if_icmp .ge 16, 3) := by decide +kernel
theorem dX10_behind_28 : decode cX10_behind 28 = .ok (.aload_n 0, 1) := by decide +kernel
theorem dX10_behind_29 : decode cX10_behind 29 = .ok (.iload_n 3, 1) := by decide +kernel
theorem dX10_behind_30 : decode cX10_behind 30 = .ok (.iload_n 2, 1) := by decide +kernel
theorem dX10_behind_31 : decode cX10_behind 31 = .ok (.invokevirtual 156, 3) := by decide +kernel
theorem dX10_behind_34 : decode cX10_behind 34 = .ok (.istore_n 3, 1) := by decide +kernel
theorem dX10_behind_35 : decode cX10_behind 35 = .ok (.iinc 4 1, 3) := by decide +kernel
theorem dX10_behind_38 : decode cX10_behind 38 = .ok (.goto (-16), 3) := by decide +kernel
theorem dX10_behind_41 : decode cX10_behind 41 = .ok (.iload_n 3, 1) := by decide +kernel
theorem dX10_behind_42 : decode cX10_behind 42 = .ok (.ireturn, 1) := by decide +kernel
theorem dX10_rest_0 : decode cX10_rest 0 = .ok (.iload_n 2, 1) := by decide +kernel
theorem dX10_rest_1 : decode cX10_rest 1 = .ok (.i2l, 1) := by decide +kernel
theorem dX10_rest_2 : decode cX10_rest 2 = .ok (.lconst 0, 1) := by decide +kernel
theorem dX10_rest_3 : decode cX10_rest 3 = .ok (.lconst 1, 1) := by decide +kernel
theorem dX10_rest_4 : decode cX10_rest 4 = .ok (.invokestatic 57, 3) := by decide +kernel
theorem dX10_rest_7 : decode cX10_rest 7 = .ok (.ifCond .ne 5, 3) := by decide +kernel
theorem dX10_rest_10 : decode cX10_rest 10 = .ok (.iconst (-1), 1) := by decide +kernel
theorem dX10_rest_11 : decode cX10_rest 11 = .ok (.ireturn, 1) := by decide +kernel
theorem dX10_rest_12 : decode cX10_rest 12 = .ok (.aload_n 0, 1) := by decide +kernel
theorem dX10_rest_13 : decode cX10_rest 13 = .ok (.iload_n 1, 1) := by decide +kernel
theorem dX10_rest_14 : decode cX10_rest 14 = .ok (.invokevirtual 162, 3) := by decide +kernel
theorem dX10_rest_17 : decode cX10_rest 17 = .ok (.aload_n 0, 1) := by decide +kernel
theorem dX10_rest_18 : decode cX10_rest 18 = .ok (.getfield 107, 3) := by decide +kernel
theorem dX10_rest_21 : decode cX10_rest 21 = .ok (.istore_n 3, 1) := by decide +kernel
theorem dX10_rest_22 : decode cX10_rest 22 = .ok (.iconst 0, 1) := by decide +kernel
theorem dX10_rest_23 : decode cX10_rest 23 = .ok (.istore 4, 2) := by decide +kernel
theorem dX10_rest_25 : decode cX10_rest 25 = .ok (.aload_n 0, 1) := by decide +kernel
theorem dX10_rest_26 : decode cX10_rest 26 = .ok (.getfield 54, 3) := by decide +kernel
theorem dX10_rest_29 : decode cX10_rest 29 = .ok (.iload_n 3, 1) := by decide +kernel
theorem dX10_rest_30 : decode cX10_rest 30 = .ok (.iaload, 1) := by decide +kernel
theorem dX10_rest_31 : decode cX10_rest 31 = .ok (.iload_n 3, 1) := by decide +kernel
theorem dX10_rest_32 : decode cX10_rest 32 = .ok (.if_icmp .eq 24, 3) := by decide +kernel
theorem dX10_rest_35 : decode cX10_rest 35 = .ok (.iload 4, 2) := by decide +kernel
theorem dX10_rest_37 : decode cX10_rest 37 = .ok (.sipush 128, 3) := by decide +kernel
theorem dX10_rest_40 : decode cX10_rest 40 = .ok (.if_icmp .ge 16, 3) := by decide +kernel
theorem dX10_rest_43 : decode cX10_rest 43 = .ok (.aload_n 0, 1) := by decide +kernel
theorem dX10_rest_44 : decode cX10_rest 44 = .ok (.getfield 54, 3) := by decide +kernel
theorem dX10_rest_47 : decode cX10_rest 47 = .ok (.iload_n 3, 1) := by decide +kernel
theorem dX10_rest_48 : decode cX10_rest 48 = .ok (.iaload, 1) := by decide +kernel
theorem dX10_rest_49 : decode cX10_rest 49 = .ok (.istore_n 3, 1) := by decide +kernel
theorem dX10_rest_50 : decode cX10_rest 50 = .ok (.iinc 4 1, 3) := by decide +kernel
theorem dX10_rest_53 : decode cX10_rest 53 = .ok (.goto (-28), 3) := by decide +kernel
theorem dX10_rest_56 : decode cX10_rest 56 = .ok (.iload_n 2, 1) := by decide +kernel
theorem dX10_rest_57 : decode cX10_rest 57 = .ok (.ifCond .ne 21, 3) := by decide +kernel
theorem dX10_rest_60 : decode cX10_rest 60 = .ok (.aload_n 0, 1) := by decide +kernel
theorem dX10_rest_61 : decode cX10_rest 61 = .ok (.getfield 54, 3) := by decide +kernel
theorem dX10_rest_64 : decode cX10_rest 64 = .ok (.iload_n 3, 1) := by decide +kernel
theorem dX10_rest_65 : decode cX10_rest 65 = .ok (.iaload, 1) := by decide +kernel
theorem dX10_rest_66 : decode cX10_rest 66 = .ok (.iload_n 3, 1) := by decide +kernel
theorem dX10_rest_67 : decode cX10_rest 67 = .ok (.if_icmp .ne 8, 3) := by decide +kernel
theorem dX10_rest_70 : decode cX10_rest 70 = .ok (.iload 4, 2) := by decide +kernel
theorem dX10_rest_72 : decode cX10_rest 72 = .ok (.goto 5, 3) := by decide +kernel
theorem dX10_rest_75 : decode cX10_rest 75 = .ok (.bipush (-4), 2) := by decide +kernel
theorem dX10_rest_77 : decode cX10_rest 77 = .ok (.ireturn, 1) := by decide +kernel
theorem dX10_rest_78 : decode cX10_rest 78 = .ok (.iconst 1, 1) := by decide +kernel
theorem dX10_rest_79 : decode cX10_rest 79 = .ok (.istore 5, 2) := by decide +kernel
theorem dX10_rest_81 : decode cX10_rest 81 = .ok (.aload_n 0, 1) := by decide +kernel
theorem dX10_rest_82 : decode cX10_rest 82 = .ok (.getfield 54, 3) := by decide +kernel
theorem dX10_rest_85 : decode cX10_rest 85 = .ok (.iload_n 3, 1) := by decide +kernel
theorem dX10_rest_86 : decode cX10_rest 86 = .ok (.iaload, 1) := by decide +kernel
theorem dX10_rest_87 : decode cX10_rest 87 = .ok (.istore 6, 2) := by decide +kernel
theorem dX10_rest_89 : decode cX10_rest 89 = .ok (.iload 6, 2) := by decide +kernel
theorem dX10_rest_91 : decode cX10_rest 91 = .ok (.iload_n 3, 1) := by decide +kernel
theorem dX10_rest_92 : decode cX10_rest 92 = .ok (.if_icmp .eq 18, 3) := by decide +kernel
theorem dX10_rest_95 : decode cX10_rest 95 = .ok (.iinc 5 1, 3) := by decide +kernel
theorem dX10_rest_98 : decode cX10_rest 98 = .ok (.aload_n 0, 1) := by decide +kernel
theorem dX10_rest_99 : decode cX10_rest 99 = .ok (.getfield 54, 3) := by decide +kernel
theorem dX10_rest_102 : decode cX10_rest 102 = .ok (.iload 6, 2) := by decide +kernel
theorem dX10_rest_104 : decode cX10_rest 104 = .ok (.iaload, 1) := by decide +kernel
theorem dX10_rest_105 : decode cX10_rest 105 = .ok (.istore 6, 2) := by decide +kernel
theorem dX10_rest_107 : decode cX10_rest 107 = .ok (.goto (-18), 3) := by decide +kernel
theorem dX10_rest_110 : decode cX10_rest 110 = .ok (.iload 5, 2) := by decide +kernel
theorem dX10_rest_112 : decode cX10_rest 112 = .ok (.ireturn, 1) := by decide +kernel
theorem dX10_rests_0 : decode cX10_rests 0 = .ok (.iload_n 1, 1) := by decide +kernel
theorem dX10_rests_1 : decode cX10_rests 1 = .ok (.iconst (-1), 1) := by decide +kernel
theorem dX10_rests_2 : decode cX10_rests 2 = .ok (.if_icmp .ge 5, 3) := by decide +kernel
theorem dX10_rests_5 : decode cX10_rests 5 = .ok (.iconst (-1), 1) := by decide +kernel
theorem dX10_rests_6 : decode cX10_rests 6 = .ok (.ireturn, 1) := by decide +kernel
theorem dX10_rests_7 : decode cX10_rests 7 = .ok (.aload_n 0, 1) := by decide +kernel
theorem dX10_rests_8 : decode cX10_rests 8 = .ok (.iconst 0, 1) := by decide +kernel
theorem dX10_rests_9 : decode cX10_rests 9 = .ok (.invokevirtual 162, 3) := by decide +kernel
theorem dX10_rests_12 : decode cX10_rests 12 = .ok (.iconst 0, 1) := by decide +kernel
theorem dX10_rests_13 : decode cX10_rests 13 = .ok (.istore_n 2, 1) := by decide +kernel
theorem dX10_rests_14 : decode cX10_rests 14 = .ok (.iconst 0, 1) := by decide +kernel
theorem dX10_rests_15 : decode cX10_rests 15 = .ok (.istore_n 3, 1) := by decide +kernel
theorem dX10_rests_16 : decode cX10_rests 16 = .ok (.iload_n 3, 1) := by decide +kernel
theorem dX10_rests_17 : decode cX10_rests 17 = .ok (.aload_n 0, 1) := by decide +kernel
theorem dX10_rests_18 : decode cX10_rests 18 = .ok (.invokevirtual 141, 3) := by decide +kernel
theorem dX10_rests_21 : decode cX10_rests 21 = .ok (.if_icmp .gt 29, 3) := by decide +kernel
theorem dX10_rests_24 : decode cX10_rests 24 = .ok (.aload_n 0, 1) := by decide +kernel
theorem dX10_rests_25 : decode cX10_rests 25 = .ok (.getfield 54, 3) := by decide +kernel
theorem dX10_rests_28 : decode cX10_rests 28 = .ok (.iload_n 3, 1) := by decide +kernel
theorem dX10_rests_29 : decode cX10_rests 29 = .ok (.iaload, 1) := by decide +kernel
theorem dX10_rests_30 : decode cX10_rests 30 = .ok (.iload_n 3, 1) := by decide +kernel
theorem dX10_rests_31 : decode cX10_rests 31 = .ok (.if_icmp .ne 13, 3) := by decide +kernel
theorem dX10_rests_34 : decode cX10_rests 34 = .ok (.iload_n 2, 1) := by decide +kernel
theorem dX10_rests_35 : decode cX10_rests 35 = .ok (.iload_n 1, 1) := by decide +kernel
theorem dX10_rests_36 : decode cX10_rests 36 = .ok (.if_icmp .ne 5, 3) := by decide +kernel
theorem dX10_rests_39 : decode cX10_rests 39 = .ok (.iload_n 3, 1) := by decide +kernel
theorem dX10_rests_40 : decode cX10_rests 40 = .ok (.ireturn, 1) := by decide +kernel
theorem dX10_rests_41 : decode cX10_rests 41 = .ok (.iinc 2 1, 3) := by decide +kernel
theorem dX10_rests_44 : decode cX10_rests 44 = .ok (.iinc 3 1, 3) := by decide +kernel
theorem dX10_rests_47 : decode cX10_rests 47 = .ok (.goto (-31), 3) := by decide +kernel
theorem dX10_rests_50 : decode cX10_rests 50 = .ok (.iload_n 1, 1) := by decide +kernel
theorem dX10_rests_51 : decode cX10_rests 51 = .ok (.ifCond .ge 7, 3) := by decide +kernel
theorem dX10_rests_54 : decode cX10_rests 54 = .ok (.iload_n 2, 1) := by decide +kernel
theorem dX10_rests_55 : decode cX10_rests 55 = .ok (.goto 5, 3) := by decide +kernel
theorem dX10_rests_58 : decode cX10_rests 58 = .ok (.bipush (-4), 2) := by decide +kernel
theorem dX10_rests_60 : decode cX10_rests 60 = .ok (.ireturn, 1) := by decide +kernel
theorem dX10_tip_0 : decode cX10_tip 0 = .ok (.iload_n 1, 1) := by decide +kernel
theorem dX10_tip_1 : decode cX10_tip 1 = .ok (.i2l, 1) := by decide +kernel
theorem dX10_tip_2 : decode cX10_tip 2 = .ok (.lconst 0, 1) := by decide +kernel
theorem dX10_tip_3 : decode cX10_tip 3 = .ok (.aload_n 0, 1) := by decide +kernel
theorem dX10_tip_4 : decode cX10_tip 4 = .ok (.invokevirtual 141, 3) := by decide +kernel
theorem dX10_tip_7 : decode cX10_tip 7 = .ok (.i2l, 1) := by decide +kernel
theorem dX10_tip_8 : decode cX10_tip 8 = .ok (.invokestatic 57, 3) := by decide +kernel
theorem dX10_tip_11 : decode cX10_tip 11 = .ok (.ifCond .eq 13, 3) := by decide +kernel
theorem dX10_tip_14 : decode cX10_tip 14 = .ok (.iload_n 3, 1) := by decide +kernel
theorem dX10_tip_15 : decode cX10_tip 15 = .ok (.i2l, 1) := by decide +kernel
theorem dX10_tip_16 : decode cX10_tip 16 = .ok (.lconst 0, 1) := by decide +kernel
theorem dX10_tip_17 : decode cX10_tip 17 = .ok (.lconst 1, 1) := by decide +kernel
theorem dX10_tip_18 : decode cX10_tip 18 = .ok (.invokestatic 57, 3) := by decide +kernel
theorem dX10_tip_21 : decode cX10_tip 21 = .ok (.ifCond .ne 5, 3) := by decide +kernel
theorem dX10_tip_24 : decode cX10_tip 24 = .ok (.iconst (-1), 1) := by decide +kernel
theorem dX10_tip_25 : decode cX10_tip 25 = .ok (.ireturn, 1) := by decide +kernel
theorem dX10_tip_26 : decode cX10_tip 26 = .ok (.aload_n 0, 1) := by decide +kernel
theorem dX10_tip_27 : decode cX10_tip 27 = .ok (.iload_n 2, 1) := by decide +kernel
theorem dX10_tip_28 : decode cX10_tip 28 = .ok (.invokevirtual 162, 3) := by decide +kernel
theorem dX10_tip_31 : decode cX10_tip 31 = .ok (.bipush (-4), 2) := by decide +kernel
theorem dX10_tip_33 : decode cX10_tip 33 = .ok (.istore 4, 2) := by decide +kernel
theorem dX10_tip_35 : decode cX10_tip 35 = .ok (.iconst 0, 1) := by decide +kernel
theorem dX10_tip_36 : decode cX10_tip 36 = .ok (.istore 5, 2) := by decide +kernel
theorem dX10_tip_38 : decode cX10_tip 38 = .ok (.iload 5, 2) := by decide +kernel
theorem dX10_tip_40 : decode cX10_tip 40 = .ok (.aload_n 0, 1) := by decide +kernel
theorem dX10_tip_41 : decode cX10_tip 41 = .ok (.invokevirtual 141, 3) := by decide +kernel
theorem dX10_tip_44 : decode cX10_tip 44 = .ok (.if_icmp .gt 101, 3) := by decide +kernel
theorem dX10_tip_47 : decode cX10_tip 47 = .ok (.aload_n 0, 1) := by decide +kernel
theorem dX10_tip_48 : decode cX10_tip 48 = .ok (.getfield 107, 3) := by decide +kernel
theorem dX10_tip_51 : decode cX10_tip 51 = .ok (.iload 5, 2) := by decide +kernel
theorem dX10_tip_53 : decode cX10_tip 53 = .ok (.ixor, 1) := by decide +kernel
theorem dX10_tip_54 : decode cX10_tip 54 = .ok (.istore 6, 2) := by decide +kernel
theorem dX10_tip_56 : decode cX10_tip 56 = .ok (.iconst 0, 1) := by decide +kernel
theorem dX10_tip_57 : decode cX10_tip 57 = .ok (.istore 7, 2) := by decide +kernel
theorem dX10_tip_59 : decode cX10_tip 59 = .ok (.iload 7, 2) := by decide +kernel
theorem dX10_tip_61 : decode cX10_tip 61 = .ok (.sipush 128, 3) := by decide +kernel
theorem dX10_tip_64 : decode cX10_tip 64 = .ok (.if_icmp .ge 18, 3) := by decide +kernel
theorem dX10_tip_67 : decode cX10_tip 67 = .ok (.aload_n 0, 1) := by decide +kernel
theorem dX10_tip_68 : decode cX10_tip 68 = .ok (.getfield 54, 3) := by decide +kernel
theorem dX10_tip_71 : decode cX10_tip 71 = .ok (.iload 6, 2) := by decide +kernel
theorem dX10_tip_73 : decode cX10_tip 73 = .ok (.iaload, 1) := by decide +kernel
theorem dX10_tip_74 : decode cX10_tip 74 = .ok (.istore 6, 2) := by decide +kernel
theorem dX10_tip_76 : decode cX10_tip 76 = .ok (.iinc 7 1, 3) := by decide +kernel
theorem dX10_tip_79 : decode cX10_tip 79 = .ok (.goto (-20), 3) := by decide +kernel
theorem dX10_tip_82 : decode cX10_tip 82 = .ok (.iload 6, 2) := by decide +kernel
theorem dX10_tip_84 : decode cX10_tip 84 = .ok (.iload_n 1, 1) := by decide +kernel
theorem dX10_tip_85 : decode cX10_tip 85 = .ok (.if_icmp .ne 17, 3) := by decide +kernel
theorem dX10_tip_88 : decode cX10_tip 88 = .ok (.aload_n 0, 1) := by decide +kernel
theorem dX10_tip_89 : decode cX10_tip 89 = .ok (.getfield 54, 3) := by decide +kernel
theorem dX10_tip_92 : decode cX10_tip 92 = .ok (.iload_n 1, 1) := by decide +kernel
theorem dX10_tip_93 : decode cX10_tip 93 = .ok (.iaload, 1) := by decide +kernel
theorem dX10_tip_94 : decode cX10_tip 94 = .ok (.iload_n 1, 1) := by decide +kernel
theorem dX10_tip_95 : decode cX10_tip 95 = .ok (.if_icmp .ne 7, 3) := by decide +kernel
theorem dX10_tip_98 : decode cX10_tip 98 = .ok (.iconst 1, 1) := by decide +kernel
theorem dX10_tip_99 : decode cX10_tip 99 = .ok (.goto 4, 3) := by decide +kernel
theorem dX10_tip_102 : decode cX10_tip 102 = .ok (.iconst 0, 1) := by decide +kernel
theorem dX10_tip_103 : decode cX10_tip 103 = .ok (.istore 7, 2) := by decide +kernel
theorem dX10_tip_105 : decode cX10_tip 105 = .ok (.iload 7, 2) := by decide +kernel
theorem dX10_tip_107 : decode cX10_tip 107 = .ok (.ifCond .eq 28, 3) := by decide +kernel
theorem dX10_tip_110 : decode cX10_tip 110 = .ok (.iload 4, 2) := by decide +kernel
theorem dX10_tip_112 : decode cX10_tip 112 = .ok (.bipush (-4), 2) := by decide +kernel
theorem dX10_tip_114 : decode cX10_tip 114 = .ok (.if_icmp .eq 16, 3) := by decide +kernel
theorem dX10_tip_117 : decode cX10_tip 117 = .ok (.iload 5, 2) := by decide +kernel
theorem dX10_tip_119 : decode cX10_tip 119 = .ok (.invokestatic 128, 3) := by decide +kernel
theorem dX10_tip_122 : decode cX10_tip 122 = .ok (.iload 4, 2) := by decide +kernel
theorem dX10_tip_124 : decode cX10_tip 124 = .ok (.invokestatic 128, 3) := by decide +kernel
theorem dX10_tip_127 : decode cX10_tip 127 = .ok (.if_icmp .ge 8, 3) := by decide +kernel
theorem dX10_tip_130 : decode cX10_tip 130 = .ok (.iload 5, 2) := by decide +kernel
theorem dX10_tip_132 : decode cX10_tip 132 = .ok (.goto 5, 3) := by decide +kernel
theorem dX10_tip_135 : decode cX10_tip 135 = .ok (.iload 4, 2) := by decide +kernel
theorem dX10_tip_137 : decode cX10_tip 137 = .ok (.istore 4, 2) := by decide +kernel
theorem dX10_tip_139 : decode cX10_tip 139 = .ok (.iinc 5 1, 3) := by decide +kernel
theorem dX10_tip_142 : decode cX10_tip 142 = .ok (.goto (-104), 3) := by decide +kernel
theorem dX10_tip_145 : decode cX10_tip 145 = .ok (.iload 4, 2) := by decide +kernel
theorem dX10_tip_147 : decode cX10_tip 147 = .ok (.bipush (-4), 2) := by decide +kernel
theorem dX10_tip_149 : decode cX10_tip 149 = .ok (.if_icmp .eq 8, 3) := by decide +kernel
theorem dX10_tip_152 : decode cX10_tip 152 = .ok (.iload_n 3, 1) := by decide +kernel
theorem dX10_tip_153 : decode cX10_tip 153 = .ok (.iconst 1, 1) := by decide +kernel
theorem dX10_tip_154 : decode cX10_tip 154 = .ok (.if_icmp .ne 8, 3) := by decide +kernel
theorem dX10_tip_157 : decode cX10_tip 157 = .ok (.iload 4, 2) := by decide +kernel
theorem dX10_tip_159 : decode cX10_tip 159 = .ok (.goto 8, 3) := by decide +kernel
theorem dX10_tip_162 : decode cX10_tip 162 = .ok (.iload 4, 2) := by decide +kernel
theorem dX10_tip_164 : decode cX10_tip 164 = .ok (.invokestatic 128, 3) := by decide +kernel
theorem dX10_tip_167 : decode cX10_tip 167 = .ok (.ireturn, 1) := by decide +kernel
theorem dX10_place_0 : decode cX10_place 0 = .ok (.aload_n 0, 1) := by decide +kernel
theorem dX10_place_1 : decode cX10_place 1 = .ok (.iload_n 1, 1) := by decide +kernel
theorem dX10_place_2 : decode cX10_place 2 = .ok (.invokevirtual 119, 3) := by decide +kernel
theorem dX10_place_5 : decode cX10_place 5 = .ok (.ifCond .eq 13, 3) := by decide +kernel
theorem dX10_place_8 : decode cX10_place 8 = .ok (.iload_n 2, 1) := by decide +kernel
theorem dX10_place_9 : decode cX10_place 9 = .ok (.i2l, 1) := by decide +kernel
theorem dX10_place_10 : decode cX10_place 10 = .ok (.lconst 0, 1) := by decide +kernel
theorem dX10_place_11 : decode cX10_place 11 = .ok (.lconst 1, 1) := by decide +kernel
theorem dX10_place_12 : decode cX10_place 12 = .ok (.invokestatic 57, 3) := by decide +kernel
theorem dX10_place_15 : decode cX10_place 15 = .ok (.ifCond .ne 5, 3) := by decide +kernel
theorem dX10_place_18 : decode cX10_place 18 = .ok (.iconst (-1), 1) := by decide +kernel
theorem dX10_place_19 : decode cX10_place 19 = .ok (.ireturn, 1) := by decide +kernel
theorem dX10_place_20 : decode cX10_place 20 = .ok (.aload_n 0, 1) := by decide +kernel
theorem dX10_place_21 : decode cX10_place 21 = .ok (.getfield 107, 3) := by decide +kernel
theorem dX10_place_24 : decode cX10_place 24 = .ok (.iload_n 1, 1) := by decide +kernel
theorem dX10_place_25 : decode cX10_place 25 = .ok (.invokestatic 124, 3) := by decide +kernel
theorem dX10_place_28 : decode cX10_place 28 = .ok (.ifCond .eq 6, 3) := by decide +kernel
theorem dX10_place_31 : decode cX10_place 31 = .ok (.bipush (-2), 2) := by decide +kernel
theorem dX10_place_33 : decode cX10_place 33 = .ok (.ireturn, 1) := by decide +kernel
theorem dX10_place_34 : decode cX10_place 34 = .ok (.aload_n 0, 1) := by decide +kernel
theorem dX10_place_35 : decode cX10_place 35 = .ok (.getfield 13, 3) := by decide +kernel
theorem dX10_place_38 : decode cX10_place 38 = .ok (.iconst 1, 1) := by decide +kernel
theorem dX10_place_39 : decode cX10_place 39 = .ok (.isub, 1) := by decide +kernel
theorem dX10_place_40 : decode cX10_place 40 = .ok (.aload_n 0, 1) := by decide +kernel
theorem dX10_place_41 : decode cX10_place 41 = .ok (.getfield 107, 3) := by decide +kernel
theorem dX10_place_44 : decode cX10_place 44 = .ok (.invokestatic 128, 3) := by decide +kernel
theorem dX10_place_47 : decode cX10_place 47 = .ok (.isub, 1) := by decide +kernel
theorem dX10_place_48 : decode cX10_place 48 = .ok (.istore_n 3, 1) := by decide +kernel
theorem dX10_place_49 : decode cX10_place 49 = .ok (.bipush (-4), 2) := by decide +kernel
theorem dX10_place_51 : decode cX10_place 51 = .ok (.istore 4, 2) := by decide +kernel
theorem dX10_place_53 : decode cX10_place 53 = .ok (.iconst 0, 1) := by decide +kernel
theorem dX10_place_54 : decode cX10_place 54 = .ok (.istore 5, 2) := by decide +kernel
theorem dX10_place_56 : decode cX10_place 56 = .ok (.iconst 0, 1) := by decide +kernel
theorem dX10_place_57 : decode cX10_place 57 = .ok (.istore 6, 2) := by decide +kernel
theorem dX10_place_59 : decode cX10_place 59 = .ok (.iload 6, 2) := by decide +kernel
theorem dX10_place_61 : decode cX10_place 61 = .ok (.iload_n 3, 1) := by decide +kernel
theorem dX10_place_62 : decode cX10_place 62 = .ok (.if_icmp .gt 160, 3) := by decide +kernel
theorem dX10_place_65 : decode cX10_place 65 = .ok (.aload_n 0, 1) := by decide +kernel
theorem dX10_place_66 : decode cX10_place 66 = .ok (.getfield 107, 3) := by decide +kernel
theorem dX10_place_69 : decode cX10_place 69 = .ok (.istore 7, 2) := by decide +kernel
theorem dX10_place_71 : decode cX10_place 71 = .ok (.iconst 0, 1) := by decide +kernel
theorem dX10_place_72 : decode cX10_place 72 = .ok (.istore 8, 2) := by decide +kernel
theorem dX10_place_74 : decode cX10_place 74 = .ok (.iconst 0, 1) := by decide +kernel
theorem dX10_place_75 : decode cX10_place 75 = .ok (.istore 9, 2) := by decide +kernel
theorem dX10_place_77 : decode cX10_place 77 = .ok (.iconst 0, 1) := by decide +kernel
theorem dX10_place_78 : decode cX10_place 78 = .ok (.istore 10, 2) := by decide +kernel
theorem dX10_place_80 : decode cX10_place 80 = .ok (.iload 10, 2) := by decide +kernel
theorem dX10_place_82 : decode cX10_place 82 = .ok (.aload_n 0, 1) := by decide +kernel
theorem dX10_place_83 : decode cX10_place 83 = .ok (.getfield 13, 3) := by decide +kernel
theorem dX10_place_86 : decode cX10_place 86 = .ok (.if_icmp .gt 96, 3) := by decide +kernel
theorem dX10_place_89 : decode cX10_place 89 = .ok (.iload 8, 2) := by decide +kernel
theorem dX10_place_91 : decode cX10_place 91 = .ok (.iload 6, 2) := by decide +kernel
theorem dX10_place_93 : decode cX10_place 93 = .ok (.if_icmp .ne 29, 3) := by decide +kernel
theorem dX10_place_96 : decode cX10_place 96 = .ok (.iload 7, 2) := by decide +kernel
theorem dX10_place_98 : decode cX10_place 98 = .ok (.iload_n 1, 1) := by decide +kernel
theorem dX10_place_99 : decode cX10_place 99 = .ok (.invokestatic 124, 3) := by decide +kernel
theorem dX10_place_102 : decode cX10_place 102 = .ok (.ifCond .ne 20, 3) := by decide +kernel
theorem dX10_place_105 : decode cX10_place 105 = .ok (.aload_n 0, 1) := by decide +kernel
theorem dX10_place_106 : decode cX10_place 106 = .ok (.iload_n 1, 1) := by decide +kernel
theorem dX10_place_107 : decode cX10_place 107 = .ok (.iload 7, 2) := by decide +kernel
theorem dX10_place_109 : decode cX10_place 109 = .ok (.invokevirtual 134, 3) := by decide +kernel
theorem dX10_place_112 : decode cX10_place 112 = .ok (.istore 9, 2) := by decide +kernel
theorem dX10_place_114 : decode cX10_place 114 = .ok (.iload 7, 2) := by decide +kernel
theorem dX10_place_116 : decode cX10_place 116 = .ok (.iconst 1, 1) := by decide +kernel
theorem dX10_place_117 : decode cX10_place 117 = .ok (.iload_n 1, 1) := by decide +kernel
theorem dX10_place_118 : decode cX10_place 118 = .ok (.ishl, 1) := by decide +kernel
theorem dX10_place_119 : decode cX10_place 119 = .ok (.ior, 1) := by decide +kernel
theorem dX10_place_120 : decode cX10_place 120 = .ok (.istore 7, 2) := by decide +kernel
theorem dX10_place_122 : decode cX10_place 122 = .ok (.iload 10, 2) := by decide +kernel
theorem dX10_place_124 : decode cX10_place 124 = .ok (.aload_n 0, 1) := by decide +kernel
theorem dX10_place_125 : decode cX10_place 125 = .ok (.getfield 13, 3) := by decide +kernel
theorem dX10_place_128 : decode cX10_place 128 = .ok (.if_icmp .ge 48, 3) := by decide +kernel
theorem dX10_place_131 : decode cX10_place 131 = .ok (.iload 10, 2) := by decide +kernel
theorem dX10_place_133 : decode cX10_place 133 = .ok (.iload_n 1, 1) := by decide +kernel
theorem dX10_place_134 : decode cX10_place 134 = .ok (.if_icmp .eq 42, 3) := by decide +kernel
theorem dX10_place_137 : decode cX10_place 137 = .ok (.aload_n 0, 1) := by decide +kernel
theorem dX10_place_138 : decode cX10_place 138 = .ok (.getfield 107, 3) := by decide +kernel
theorem dX10_place_141 : decode cX10_place 141 = .ok (.iload 10, 2) := by decide +kernel
theorem dX10_place_143 : decode cX10_place 143 = .ok (.invokestatic 124, 3) := by decide +kernel
theorem dX10_place_146 : decode cX10_place 146 = .ok (.ifCond .ne 30, 3) := by decide +kernel
theorem dX10_place_149 : decode cX10_place 149 = .ok (.iload 7, 2) := by decide +kernel
theorem dX10_place_151 : decode cX10_place 151 = .ok (.aload_n 0, 1) := by decide +kernel
theorem dX10_place_152 : decode cX10_place 152 = .ok (.iload 10, 2) := by decide +kernel
theorem dX10_place_154 : decode cX10_place 154 = .ok (.iload 7, 2) := by decide +kernel
theorem dX10_place_156 : decode cX10_place 156 = .ok (.invokevirtual 150, 3) := by decide +kernel
theorem dX10_place_159 : decode cX10_place 159 = .ok (.ifCond .eq 10, 3) := by decide +kernel
theorem dX10_place_162 : decode cX10_place 162 = .ok (.iconst 1, 1) := by decide +kernel
theorem dX10_place_163 : decode cX10_place 163 = .ok (.iload 10, 2) := by decide +kernel
theorem dX10_place_165 : decode cX10_place 165 = .ok (.ishl, 1) := by decide +kernel
theorem dX10_place_166 : decode cX10_place 166 = .ok (.goto 4, 3) := by decide +kernel
theorem dX10_place_169 : decode cX10_place 169 = .ok (.iconst 0, 1) := by decide +kernel
theorem dX10_place_170 : decode cX10_place 170 = .ok (.ior, 1) := by decide +kernel
theorem dX10_place_171 : decode cX10_place 171 = .ok (.istore 7, 2) := by decide +kernel
theorem dX10_place_173 : decode cX10_place 173 = .ok (.iinc 8 1, 3) := by decide +kernel
theorem dX10_place_176 : decode cX10_place 176 = .ok (.iinc 10 1, 3) := by decide +kernel
theorem dX10_place_179 : decode cX10_place 179 = .ok (.goto (-99), 3) := by decide +kernel
theorem dX10_place_182 : decode cX10_place 182 = .ok (.aload_n 0, 1) := by decide +kernel
theorem dX10_place_183 : decode cX10_place 183 = .ok (.iload_n 1, 1) := by decide +kernel
theorem dX10_place_184 : decode cX10_place 184 = .ok (.iload 7, 2) := by decide +kernel
theorem dX10_place_186 : decode cX10_place 186 = .ok (.invokevirtual 144, 3) := by decide +kernel
theorem dX10_place_189 : decode cX10_place 189 = .ok (.iload 9, 2) := by decide +kernel
theorem dX10_place_191 : decode cX10_place 191 = .ok (.isub, 1) := by decide +kernel
theorem dX10_place_192 : decode cX10_place 192 = .ok (.istore 10, 2) := by decide +kernel
theorem dX10_place_194 : decode cX10_place 194 = .ok (.iload 4, 2) := by decide +kernel
theorem dX10_place_196 : decode cX10_place 196 = .ok (.bipush (-4), 2) := by decide +kernel
theorem dX10_place_198 : decode cX10_place 198 = .ok (.if_icmp .eq 10, 3) := by decide +kernel
theorem dX10_place_201 : decode cX10_place 201 = .ok (.iload 10, 2) := by decide +kernel
theorem dX10_place_203 : decode cX10_place 203 = .ok (.iload 5, 2) := by decide +kernel
theorem dX10_place_205 : decode cX10_place 205 = .ok (.if_icmp .le 11, 3) := by decide +kernel
theorem dX10_place_208 : decode cX10_place 208 = .ok (.iload 6, 2) := by decide +kernel
theorem dX10_place_210 : decode cX10_place 210 = .ok (.istore 4, 2) := by decide +kernel
theorem dX10_place_212 : decode cX10_place 212 = .ok (.iload 10, 2) := by decide +kernel
theorem dX10_place_214 : decode cX10_place 214 = .ok (.istore 5, 2) := by decide +kernel
theorem dX10_place_216 : decode cX10_place 216 = .ok (.iinc 6 1, 3) := by decide +kernel
theorem dX10_place_219 : decode cX10_place 219 = .ok (.goto (-160), 3) := by decide +kernel
theorem dX10_place_222 : decode cX10_place 222 = .ok (.iload_n 2, 1) := by decide +kernel
theorem dX10_place_223 : decode cX10_place 223 = .ok (.ifCond .ne 8, 3) := by decide +kernel
theorem dX10_place_226 : decode cX10_place 226 = .ok (.iload 4, 2) := by decide +kernel
theorem dX10_place_228 : decode cX10_place 228 = .ok (.goto 9, 3) := by decide +kernel
theorem dX10_place_231 : decode cX10_place 231 = .ok (.iload 5, 2) := by decide +kernel
theorem dX10_place_233 : decode cX10_place 233 = .ok (.sipush 1000, 3) := by decide +kernel
theorem dX10_place_236 : decode cX10_place 236 = .ok (.iadd, 1) := by decide +kernel
theorem dX10_place_237 : decode cX10_place 237 = .ok (.ireturn, 1) := by decide +kernel
theorem dX10_burn_0 : decode cX10_burn 0 = .ok (.aload_n 0, 1) := by decide +kernel
theorem dX10_burn_1 : decode cX10_burn 1 = .ok (.iload_n 1, 1) := by decide +kernel
theorem dX10_burn_2 : decode cX10_burn 2 = .ok (.invokevirtual 119, 3) := by decide +kernel
theorem dX10_burn_5 : decode cX10_burn 5 = .ok (.ifCond .ne 5, 3) := by decide +kernel
theorem dX10_burn_8 : decode cX10_burn 8 = .ok (.iconst (-1), 1) := by decide +kernel
theorem dX10_burn_9 : decode cX10_burn 9 = .ok (.ireturn, 1) := by decide +kernel
theorem dX10_burn_10 : decode cX10_burn 10 = .ok (.aload_n 0, 1) := by decide +kernel
theorem dX10_burn_11 : decode cX10_burn 11 = .ok (.getfield 107, 3) := by decide +kernel
theorem dX10_burn_14 : decode cX10_burn 14 = .ok (.iload_n 1, 1) := by decide +kernel
theorem dX10_burn_15 : decode cX10_burn 15 = .ok (.invokestatic 124, 3) := by decide +kernel
theorem dX10_burn_18 : decode cX10_burn 18 = .ok (.ifCond .eq 6, 3) := by decide +kernel
theorem dX10_burn_21 : decode cX10_burn 21 = .ok (.bipush (-2), 2) := by decide +kernel
theorem dX10_burn_23 : decode cX10_burn 23 = .ok (.ireturn, 1) := by decide +kernel
theorem dX10_burn_24 : decode cX10_burn 24 = .ok (.bipush (-4), 2) := by decide +kernel
theorem dX10_burn_26 : decode cX10_burn 26 = .ok (.istore_n 2, 1) := by decide +kernel
theorem dX10_burn_27 : decode cX10_burn 27 = .ok (.iconst 0, 1) := by decide +kernel
theorem dX10_burn_28 : decode cX10_burn 28 = .ok (.istore_n 3, 1) := by decide +kernel
theorem dX10_burn_29 : decode cX10_burn 29 = .ok (.iload_n 3, 1) := by decide +kernel
theorem dX10_burn_30 : decode cX10_burn 30 = .ok (.aload_n 0, 1) := by decide +kernel
theorem dX10_burn_31 : decode cX10_burn 31 = .ok (.invokevirtual 141, 3) := by decide +kernel
theorem dX10_burn_34 : decode cX10_burn 34 = .ok (.if_icmp .gt 71, 3) := by decide +kernel
theorem dX10_burn_37 : decode cX10_burn 37 = .ok (.iload_n 3, 1) := by decide +kernel
theorem dX10_burn_38 : decode cX10_burn 38 = .ok (.aload_n 0, 1) := by decide +kernel
theorem dX10_burn_39 : decode cX10_burn 39 = .ok (.getfield 107, 3) := by decide +kernel
theorem dX10_burn_42 : decode cX10_burn 42 = .ok (.iconst (-1), 1) := by decide +kernel
theorem dX10_burn_43 : decode cX10_burn 43 = .ok (.ixor, 1) := by decide +kernel
theorem dX10_burn_44 : decode cX10_burn 44 = .ok (.iand, 1) := by decide +kernel
theorem dX10_burn_45 : decode cX10_burn 45 = .ok (.ifCond .ne 23, 3) := by decide +kernel
theorem dX10_burn_48 : decode cX10_burn 48 = .ok (.aload_n 0, 1) := by decide +kernel
theorem dX10_burn_49 : decode cX10_burn 49 = .ok (.iload_n 1, 1) := by decide +kernel
theorem dX10_burn_50 : decode cX10_burn 50 = .ok (.aload_n 0, 1) := by decide +kernel
theorem dX10_burn_51 : decode cX10_burn 51 = .ok (.getfield 107, 3) := by decide +kernel
theorem dX10_burn_54 : decode cX10_burn 54 = .ok (.iload_n 3, 1) := by decide +kernel
theorem dX10_burn_55 : decode cX10_burn 55 = .ok (.iconst (-1), 1) := by decide +kernel
theorem dX10_burn_56 : decode cX10_burn 56 = .ok (.ixor, 1) := by decide +kernel
theorem dX10_burn_57 : decode cX10_burn 57 = .ok (.iand, 1) := by decide +kernel
theorem dX10_burn_58 : decode cX10_burn 58 = .ok (.invokevirtual 150, 3) := by decide +kernel
theorem dX10_burn_61 : decode cX10_burn 61 = .ok (.ifCond .eq 7, 3) := by decide +kernel
theorem dX10_burn_64 : decode cX10_burn 64 = .ok (.iconst 1, 1) := by decide +kernel
theorem dX10_burn_65 : decode cX10_burn 65 = .ok (.goto 4, 3) := by decide +kernel
theorem dX10_burn_68 : decode cX10_burn 68 = .ok (.iconst 0, 1) := by decide +kernel
theorem dX10_burn_69 : decode cX10_burn 69 = .ok (.istore 4, 2) := by decide +kernel
theorem dX10_burn_71 : decode cX10_burn 71 = .ok (.iload 4, 2) := by decide +kernel
theorem dX10_burn_73 : decode cX10_burn 73 = .ok (.ifCond .eq 24, 3) := by decide +kernel
theorem dX10_burn_76 : decode cX10_burn 76 = .ok (.iload_n 2, 1) := by decide +kernel
theorem dX10_burn_77 : decode cX10_burn 77 = .ok (.bipush (-4), 2) := by decide +kernel
theorem dX10_burn_79 : decode cX10_burn 79 = .ok (.if_icmp .eq 14, 3) := by decide +kernel
theorem dX10_burn_82 : decode cX10_burn 82 = .ok (.iload_n 3, 1) := by decide +kernel
theorem dX10_burn_83 : decode cX10_burn 83 = .ok (.invokestatic 128, 3) := by decide +kernel
theorem dX10_burn_86 : decode cX10_burn 86 = .ok (.iload_n 2, 1) := by decide +kernel
theorem dX10_burn_87 : decode cX10_burn 87 = .ok (.invokestatic 128, 3) := by decide +kernel
theorem dX10_burn_90 : decode cX10_burn 90 = .ok (.if_icmp .ge 7, 3) := by decide +kernel
theorem dX10_burn_93 : decode cX10_burn 93 = .ok (.iload_n 3, 1) := by decide +kernel
theorem dX10_burn_94 : decode cX10_burn 94 = .ok (.goto 4, 3) := by decide +kernel
theorem dX10_burn_97 : decode cX10_burn 97 = .ok (.iload_n 2, 1) := by decide +kernel
theorem dX10_burn_98 : decode cX10_burn 98 = .ok (.istore_n 2, 1) := by decide +kernel
theorem dX10_burn_99 : decode cX10_burn 99 = .ok (.iinc 3 1, 3) := by decide +kernel
theorem dX10_burn_102 : decode cX10_burn 102 = .ok (.goto (-73), 3) := by decide +kernel
theorem dX10_burn_105 : decode cX10_burn 105 = .ok (.iload_n 2, 1) := by decide +kernel
theorem dX10_burn_106 : decode cX10_burn 106 = .ok (.ireturn, 1) := by decide +kernel
theorem dX10_share_0 : decode cX10_share 0 = .ok (.bipush (-4), 2) := by decide +kernel
theorem dX10_share_2 : decode cX10_share 2 = .ok (.istore_n 1, 1) := by decide +kernel
theorem dX10_share_3 : decode cX10_share 3 = .ok (.iconst 0, 1) := by decide +kernel
theorem dX10_share_4 : decode cX10_share 4 = .ok (.istore_n 2, 1) := by decide +kernel
theorem dX10_share_5 : decode cX10_share 5 = .ok (.iconst 0, 1) := by decide +kernel
theorem dX10_share_6 : decode cX10_share 6 = .ok (.istore_n 3, 1) := by decide +kernel
theorem dX10_share_7 : decode cX10_share 7 = .ok (.iload_n 3, 1) := by decide +kernel
theorem dX10_share_8 : decode cX10_share 8 = .ok (.aload_n 0, 1) := by decide +kernel
theorem dX10_share_9 : decode cX10_share 9 = .ok (.getfield 13, 3) := by decide +kernel
theorem dX10_share_12 : decode cX10_share 12 = .ok (.if_icmp .ge 146, 3) := by decide +kernel
theorem dX10_share_15 : decode cX10_share 15 = .ok (.iload_n 3, 1) := by decide +kernel
theorem dX10_share_16 : decode cX10_share 16 = .ok (.iconst 1, 1) := by decide +kernel
theorem dX10_share_17 : decode cX10_share 17 = .ok (.iadd, 1) := by decide +kernel
theorem dX10_share_18 : decode cX10_share 18 = .ok (.istore 4, 2) := by decide +kernel
theorem dX10_share_20 : decode cX10_share 20 = .ok (.iload 4, 2) := by decide +kernel
theorem dX10_share_22 : decode cX10_share 22 = .ok (.aload_n 0, 1) := by decide +kernel
theorem dX10_share_23 : decode cX10_share 23 = .ok (.getfield 13, 3) := by decide +kernel
theorem dX10_share_26 : decode cX10_share 26 = .ok (.if_icmp .ge 126, 3) := by decide +kernel
theorem dX10_share_29 : decode cX10_share 29 = .ok (.aload_n 0, 1) := by decide +kernel
theorem dX10_share_30 : decode cX10_share 30 = .ok (.getfield 107, 3) := by decide +kernel
theorem dX10_share_33 : decode cX10_share 33 = .ok (.iload_n 3, 1) := by decide +kernel
theorem dX10_share_34 : decode cX10_share 34 = .ok (.invokestatic 124, 3) := by decide +kernel
theorem dX10_share_37 : decode cX10_share 37 = .ok (.ifCond .ne 109, 3) := by decide +kernel
theorem dX10_share_40 : decode cX10_share 40 = .ok (.aload_n 0, 1) := by decide +kernel
theorem dX10_share_41 : decode cX10_share 41 = .ok (.getfield 107, 3) := by decide +kernel
theorem dX10_share_44 : decode cX10_share 44 = .ok (.iload 4, 2) := by decide +kernel
theorem dX10_share_46 : decode cX10_share 46 = .ok (.invokestatic 124, 3) := by decide +kernel
theorem dX10_share_49 : decode cX10_share 49 = .ok (.ifCond .eq 6, 3) := by decide +kernel
theorem dX10_share_52 : decode cX10_share 52 = .ok (.goto 94, 3) := by decide +kernel
theorem dX10_share_55 : decode cX10_share 55 = .ok (.aload_n 0, 1) := by decide +kernel
theorem dX10_share_56 : decode cX10_share 56 = .ok (.iload_n 3, 1) := by decide +kernel
theorem dX10_share_57 : decode cX10_share 57 = .ok (.aload_n 0, 1) := by decide +kernel
theorem dX10_share_58 : decode cX10_share 58 = .ok (.getfield 107, 3) := by decide +kernel
theorem dX10_share_61 : decode cX10_share 61 = .ok (.invokevirtual 134, 3) := by decide +kernel
theorem dX10_share_64 : decode cX10_share 64 = .ok (.istore 5, 2) := by decide +kernel
theorem dX10_share_66 : decode cX10_share 66 = .ok (.aload_n 0, 1) := by decide +kernel
theorem dX10_share_67 : decode cX10_share 67 = .ok (.iload_n 3, 1) := by decide +kernel
theorem dX10_share_68 : decode cX10_share 68 = .ok (.aload_n 0, 1) := by decide +kernel
theorem dX10_share_69 : decode cX10_share 69 = .ok (.getfield 107, 3) := by decide +kernel
theorem dX10_share_72 : decode cX10_share 72 = .ok (.invokevirtual 144, 3) := by decide +kernel
theorem dX10_share_75 : decode cX10_share 75 = .ok (.aload_n 0, 1) := by decide +kernel
theorem dX10_share_76 : decode cX10_share 76 = .ok (.getfield 17, 3) := by decide +kernel
theorem dX10_share_79 : decode cX10_share 79 = .ok (.iload 4, 2) := by decide +kernel
theorem dX10_share_81 : decode cX10_share 81 = .ok (.iaload, 1) := by decide +kernel
theorem dX10_share_82 : decode cX10_share 82 = .ok (.aload_n 0, 1) := by decide +kernel
theorem dX10_share_83 : decode cX10_share 83 = .ok (.getfield 20, 3) := by decide +kernel
theorem dX10_share_86 : decode cX10_share 86 = .ok (.iload 4, 2) := by decide +kernel
theorem dX10_share_88 : decode cX10_share 88 = .ok (.iaload, 1) := by decide +kernel
theorem dX10_share_89 : decode cX10_share 89 = .ok (.aload_n 0, 1) := by decide +kernel
theorem dX10_share_90 : decode cX10_share 90 = .ok (.getfield 32, 3) := by decide +kernel
theorem dX10_share_93 : decode cX10_share 93 = .ok (.iadd, 1) := by decide +kernel
theorem dX10_share_94 : decode cX10_share 94 = .ok (.bipush 50, 2) := by decide +kernel
theorem dX10_share_96 : decode cX10_share 96 = .ok (.isub, 1) := by decide +kernel
theorem dX10_share_97 : decode cX10_share 97 = .ok (.aload_n 0, 1) := by decide +kernel
theorem dX10_share_98 : decode cX10_share 98 = .ok (.getfield 23, 3) := by decide +kernel
theorem dX10_share_101 : decode cX10_share 101 = .ok (.iload 4, 2) := by decide +kernel
theorem dX10_share_103 : decode cX10_share 103 = .ok (.iaload, 1) := by decide +kernel
theorem dX10_share_104 : decode cX10_share 104 = .ok (.iload 5, 2) := by decide +kernel
theorem dX10_share_106 : decode cX10_share 106 = .ok (.invokestatic 137, 3) := by decide +kernel
theorem dX10_share_109 : decode cX10_share 109 = .ok (.iadd, 1) := by decide +kernel
theorem dX10_share_110 : decode cX10_share 110 = .ok (.iload 5, 2) := by decide +kernel
theorem dX10_share_112 : decode cX10_share 112 = .ok (.isub, 1) := by decide +kernel
theorem dX10_share_113 : decode cX10_share 113 = .ok (.istore 6, 2) := by decide +kernel
theorem dX10_share_115 : decode cX10_share 115 = .ok (.iload 6, 2) := by decide +kernel
theorem dX10_share_117 : decode cX10_share 117 = .ok (.iload_n 2, 1) := by decide +kernel
theorem dX10_share_118 : decode cX10_share 118 = .ok (.if_icmp .le 13, 3) := by decide +kernel
theorem dX10_share_121 : decode cX10_share 121 = .ok (.bipush 10, 2) := by decide +kernel
theorem dX10_share_123 : decode cX10_share 123 = .ok (.iload_n 3, 1) := by decide +kernel
theorem dX10_share_124 : decode cX10_share 124 = .ok (.imul, 1) := by decide +kernel
theorem dX10_share_125 : decode cX10_share 125 = .ok (.iload 4, 2) := by decide +kernel
theorem dX10_share_127 : decode cX10_share 127 = .ok (.iadd, 1) := by decide +kernel
theorem dX10_share_128 : decode cX10_share 128 = .ok (.goto 4, 3) := by decide +kernel
theorem dX10_share_131 : decode cX10_share 131 = .ok (.iload_n 1, 1) := by decide +kernel
theorem dX10_share_132 : decode cX10_share 132 = .ok (.istore_n 1, 1) := by decide +kernel
theorem dX10_share_133 : decode cX10_share 133 = .ok (.iload 6, 2) := by decide +kernel
theorem dX10_share_135 : decode cX10_share 135 = .ok (.iload_n 2, 1) := by decide +kernel
theorem dX10_share_136 : decode cX10_share 136 = .ok (.if_icmp .le 8, 3) := by decide +kernel
theorem dX10_share_139 : decode cX10_share 139 = .ok (.iload 6, 2) := by decide +kernel
theorem dX10_share_141 : decode cX10_share 141 = .ok (.goto 4, 3) := by decide +kernel
theorem dX10_share_144 : decode cX10_share 144 = .ok (.iload_n 2, 1) := by decide +kernel
theorem dX10_share_145 : decode cX10_share 145 = .ok (.istore_n 2, 1) := by decide +kernel
theorem dX10_share_146 : decode cX10_share 146 = .ok (.iinc 4 1, 3) := by decide +kernel
theorem dX10_share_149 : decode cX10_share 149 = .ok (.goto (-129), 3) := by decide +kernel
theorem dX10_share_152 : decode cX10_share 152 = .ok (.iinc 3 1, 3) := by decide +kernel
theorem dX10_share_155 : decode cX10_share 155 = .ok (.goto (-148), 3) := by decide +kernel
theorem dX10_share_158 : decode cX10_share 158 = .ok (.iload_n 1, 1) := by decide +kernel
theorem dX10_share_159 : decode cX10_share 159 = .ok (.ireturn, 1) := by decide +kernel
theorem dX10_seen_0 : decode cX10_seen 0 = .ok (.aload_n 0, 1) := by decide +kernel
theorem dX10_seen_1 : decode cX10_seen 1 = .ok (.iload_n 1, 1) := by decide +kernel
theorem dX10_seen_2 : decode cX10_seen 2 = .ok (.invokevirtual 119, 3) := by decide +kernel
theorem dX10_seen_5 : decode cX10_seen 5 = .ok (.ifCond .eq 15, 3) := by decide +kernel
theorem dX10_seen_8 : decode cX10_seen 8 = .ok (.iload_n 2, 1) := by decide +kernel
theorem dX10_seen_9 : decode cX10_seen 9 = .ok (.i2l, 1) := by decide +kernel
theorem dX10_seen_10 : decode cX10_seen 10 = .ok (.lconst 0, 1) := by decide +kernel
theorem dX10_seen_11 : decode cX10_seen 11 = .ok (.ldc2_w 166, 3) := by decide +kernel
theorem dX10_seen_14 : decode cX10_seen 14 = .ok (.invokestatic 57, 3) := by decide +kernel
theorem dX10_seen_17 : decode cX10_seen 17 = .ok (.ifCond .ne 5, 3) := by decide +kernel
theorem dX10_seen_20 : decode cX10_seen 20 = .ok (.iconst (-1), 1) := by decide +kernel
theorem dX10_seen_21 : decode cX10_seen 21 = .ok (.ireturn, 1) := by decide +kernel
theorem dX10_seen_22 : decode cX10_seen 22 = .ok (.aload_n 0, 1) := by decide +kernel
theorem dX10_seen_23 : decode cX10_seen 23 = .ok (.getfield 110, 3) := by decide +kernel
theorem dX10_seen_26 : decode cX10_seen 26 = .ok (.bipush 8, 2) := by decide +kernel
theorem dX10_seen_28 : decode cX10_seen 28 = .ok (.if_icmp .ne 6, 3) := by decide +kernel
theorem dX10_seen_31 : decode cX10_seen 31 = .ok (.bipush (-3), 2) := by decide +kernel
theorem dX10_seen_33 : decode cX10_seen 33 = .ok (.ireturn, 1) := by decide +kernel
theorem dX10_seen_34 : decode cX10_seen 34 = .ok (.aload_n 0, 1) := by decide +kernel
theorem dX10_seen_35 : decode cX10_seen 35 = .ok (.getfield 41, 3) := by decide +kernel
theorem dX10_seen_38 : decode cX10_seen 38 = .ok (.aload_n 0, 1) := by decide +kernel
theorem dX10_seen_39 : decode cX10_seen 39 = .ok (.getfield 110, 3) := by decide +kernel
theorem dX10_seen_42 : decode cX10_seen 42 = .ok (.iload_n 1, 1) := by decide +kernel
theorem dX10_seen_43 : decode cX10_seen 43 = .ok (.iastore, 1) := by decide +kernel
theorem dX10_seen_44 : decode cX10_seen 44 = .ok (.aload_n 0, 1) := by decide +kernel
theorem dX10_seen_45 : decode cX10_seen 45 = .ok (.getfield 44, 3) := by decide +kernel
theorem dX10_seen_48 : decode cX10_seen 48 = .ok (.aload_n 0, 1) := by decide +kernel
theorem dX10_seen_49 : decode cX10_seen 49 = .ok (.getfield 110, 3) := by decide +kernel
theorem dX10_seen_52 : decode cX10_seen 52 = .ok (.iload_n 2, 1) := by decide +kernel
theorem dX10_seen_53 : decode cX10_seen 53 = .ok (.iastore, 1) := by decide +kernel
theorem dX10_seen_54 : decode cX10_seen 54 = .ok (.aload_n 0, 1) := by decide +kernel
theorem dX10_seen_55 : decode cX10_seen 55 = .ok (.getfield 47, 3) := by decide +kernel
theorem dX10_seen_58 : decode cX10_seen 58 = .ok (.aload_n 0, 1) := by decide +kernel
theorem dX10_seen_59 : decode cX10_seen 59 = .ok (.getfield 110, 3) := by decide +kernel
theorem dX10_seen_62 : decode cX10_seen 62 = .ok (.iload_n 3, 1) := by decide +kernel
theorem dX10_seen_63 : decode cX10_seen 63 = .ok (.bastore, 1) := by decide +kernel
theorem dX10_seen_64 : decode cX10_seen 64 = .ok (.aload_n 0, 1) := by decide +kernel
theorem dX10_seen_65 : decode cX10_seen 65 = .ok (.dup, 1) := by decide +kernel
theorem dX10_seen_66 : decode cX10_seen 66 = .ok (.getfield 110, 3) := by decide +kernel
theorem dX10_seen_69 : decode cX10_seen 69 = .ok (.iconst 1, 1) := by decide +kernel
theorem dX10_seen_70 : decode cX10_seen 70 = .ok (.iadd, 1) := by decide +kernel
theorem dX10_seen_71 : decode cX10_seen 71 = .ok (.putfield 110, 3) := by decide +kernel
theorem dX10_seen_74 : decode cX10_seen 74 = .ok (.aload_n 0, 1) := by decide +kernel
theorem dX10_seen_75 : decode cX10_seen 75 = .ok (.getfield 110, 3) := by decide +kernel
theorem dX10_seen_78 : decode cX10_seen 78 = .ok (.ireturn, 1) := by decide +kernel
theorem dX10_forget_0 : decode cX10_forget 0 = .ok (.aload_n 0, 1) := by decide +kernel
theorem dX10_forget_1 : decode cX10_forget 1 = .ok (.getfield 110, 3) := by decide +kernel
theorem dX10_forget_4 : decode cX10_forget 4 = .ok (.istore_n 1, 1) := by decide +kernel
theorem dX10_forget_5 : decode cX10_forget 5 = .ok (.aload_n 0, 1) := by decide +kernel
theorem dX10_forget_6 : decode cX10_forget 6 = .ok (.iconst 0, 1) := by decide +kernel
theorem dX10_forget_7 : decode cX10_forget 7 = .ok (.putfield 110, 3) := by decide +kernel
theorem dX10_forget_10 : decode cX10_forget 10 = .ok (.iload_n 1, 1) := by decide +kernel
theorem dX10_forget_11 : decode cX10_forget 11 = .ok (.ireturn, 1) := by decide +kernel
theorem dX10_likes_0 : decode cX10_likes 0 = .ok (.aload_n 0, 1) := by decide +kernel
theorem dX10_likes_1 : decode cX10_likes 1 = .ok (.iload_n 1, 1) := by decide +kernel
theorem dX10_likes_2 : decode cX10_likes 2 = .ok (.invokevirtual 119, 3) := by decide +kernel
theorem dX10_likes_5 : decode cX10_likes 5 = .ok (.ifCond .eq 13, 3) := by decide +kernel
theorem dX10_likes_8 : decode cX10_likes 8 = .ok (.iload_n 2, 1) := by decide +kernel
theorem dX10_likes_9 : decode cX10_likes 9 = .ok (.i2l, 1) := by decide +kernel
theorem dX10_likes_10 : decode cX10_likes 10 = .ok (.lconst 0, 1) := by decide +kernel
theorem dX10_likes_11 : decode cX10_likes 11 = .ok (.lconst 1, 1) := by decide +kernel
theorem dX10_likes_12 : decode cX10_likes 12 = .ok (.invokestatic 57, 3) := by decide +kernel
theorem dX10_likes_15 : decode cX10_likes 15 = .ok (.ifCond .ne 5, 3) := by decide +kernel
theorem dX10_likes_18 : decode cX10_likes 18 = .ok (.iconst (-1), 1) := by decide +kernel
theorem dX10_likes_19 : decode cX10_likes 19 = .ok (.ireturn, 1) := by decide +kernel
theorem dX10_likes_20 : decode cX10_likes 20 = .ok (.iconst 0, 1) := by decide +kernel
theorem dX10_likes_21 : decode cX10_likes 21 = .ok (.istore_n 3, 1) := by decide +kernel
theorem dX10_likes_22 : decode cX10_likes 22 = .ok (.bipush (-4), 2) := by decide +kernel
theorem dX10_likes_24 : decode cX10_likes 24 = .ok (.istore 4, 2) := by decide +kernel
theorem dX10_likes_26 : decode cX10_likes 26 = .ok (.bipush 99, 2) := by decide +kernel
theorem dX10_likes_28 : decode cX10_likes 28 = .ok (.istore 5, 2) := by decide +kernel
theorem dX10_likes_30 : decode cX10_likes 30 = .ok (.iload 5, 2) := by decide +kernel
theorem dX10_likes_32 : decode cX10_likes 32 = .ok (.ifCond .lt 133, 3) := by decide +kernel
theorem dX10_likes_35 : decode cX10_likes 35 = .ok (.iconst 1, 1) := by decide +kernel
theorem dX10_likes_36 : decode cX10_likes 36 = .ok (.istore 6, 2) := by decide +kernel
theorem dX10_likes_38 : decode cX10_likes 38 = .ok (.iconst 0, 1) := by decide +kernel
theorem dX10_likes_39 : decode cX10_likes 39 = .ok (.istore 7, 2) := by decide +kernel
theorem dX10_likes_41 : decode cX10_likes 41 = .ok (.iload 7, 2) := by decide +kernel
theorem dX10_likes_43 : decode cX10_likes 43 = .ok (.aload_n 0, 1) := by decide +kernel
theorem dX10_likes_44 : decode cX10_likes 44 = .ok (.getfield 110, 3) := by decide +kernel
theorem dX10_likes_47 : decode cX10_likes 47 = .ok (.if_icmp .ge 85, 3) := by decide +kernel
theorem dX10_likes_50 : decode cX10_likes 50 = .ok (.aload_n 0, 1) := by decide +kernel
theorem dX10_likes_51 : decode cX10_likes 51 = .ok (.getfield 17, 3) := by decide +kernel
theorem dX10_likes_54 : decode cX10_likes 54 = .ok (.iload_n 1, 1) := by decide +kernel
theorem dX10_likes_55 : decode cX10_likes 55 = .ok (.iaload, 1) := by decide +kernel
theorem dX10_likes_56 : decode cX10_likes 56 = .ok (.iload 5, 2) := by decide +kernel
theorem dX10_likes_58 : decode cX10_likes 58 = .ok (.aload_n 0, 1) := by decide +kernel
theorem dX10_likes_59 : decode cX10_likes 59 = .ok (.getfield 23, 3) := by decide +kernel
theorem dX10_likes_62 : decode cX10_likes 62 = .ok (.iload_n 1, 1) := by decide +kernel
theorem dX10_likes_63 : decode cX10_likes 63 = .ok (.iaload, 1) := by decide +kernel
theorem dX10_likes_64 : decode cX10_likes 64 = .ok (.aload_n 0, 1) := by decide +kernel
theorem dX10_likes_65 : decode cX10_likes 65 = .ok (.getfield 44, 3) := by decide +kernel
theorem dX10_likes_68 : decode cX10_likes 68 = .ok (.iload 7, 2) := by decide +kernel
theorem dX10_likes_70 : decode cX10_likes 70 = .ok (.iaload, 1) := by decide +kernel
theorem dX10_likes_71 : decode cX10_likes 71 = .ok (.invokestatic 137, 3) := by decide +kernel
theorem dX10_likes_74 : decode cX10_likes 74 = .ok (.aload_n 0, 1) := by decide +kernel
theorem dX10_likes_75 : decode cX10_likes 75 = .ok (.getfield 44, 3) := by decide +kernel
theorem dX10_likes_78 : decode cX10_likes 78 = .ok (.iload 7, 2) := by decide +kernel
theorem dX10_likes_80 : decode cX10_likes 80 = .ok (.iaload, 1) := by decide +kernel
theorem dX10_likes_81 : decode cX10_likes 81 = .ok (.if_icmp .le 7, 3) := by decide +kernel
theorem dX10_likes_84 : decode cX10_likes 84 = .ok (.iconst 1, 1) := by decide +kernel
theorem dX10_likes_85 : decode cX10_likes 85 = .ok (.goto 4, 3) := by decide +kernel
theorem dX10_likes_88 : decode cX10_likes 88 = .ok (.iconst 0, 1) := by decide +kernel
theorem dX10_likes_89 : decode cX10_likes 89 = .ok (.istore 8, 2) := by decide +kernel
theorem dX10_likes_91 : decode cX10_likes 91 = .ok (.iload 6, 2) := by decide +kernel
theorem dX10_likes_93 : decode cX10_likes 93 = .ok (.ifCond .eq 30, 3) := by decide +kernel
theorem dX10_likes_96 : decode cX10_likes 96 = .ok (.aload_n 0, 1) := by decide +kernel
theorem dX10_likes_97 : decode cX10_likes 97 = .ok (.getfield 41, 3) := by decide +kernel
theorem dX10_likes_100 : decode cX10_likes 100 = .ok (.iload 7, 2) := by decide +kernel
theorem dX10_likes_102 : decode cX10_likes 102 = .ok (.iaload, 1) := by decide +kernel
theorem dX10_likes_103 : decode cX10_likes 103 = .ok (.iload_n 1, 1) := by decide +kernel
theorem dX10_likes_104 : decode cX10_likes 104 = .ok (.if_icmp .ne 15, 3) := by decide +kernel
theorem dX10_likes_107 : decode cX10_likes 107 = .ok (.iload 8, 2) := by decide +kernel
theorem dX10_likes_109 : decode cX10_likes 109 = .ok (.aload_n 0, 1) := by decide +kernel
theorem dX10_likes_110 : decode cX10_likes 110 = .ok (.getfield 47, 3) := by decide +kernel
theorem dX10_likes_113 : decode cX10_likes 113 = .ok (.iload 7, 2) := by decide +kernel
theorem dX10_likes_115 : decode cX10_likes 115 = .ok (.baload, 1) := by decide +kernel
theorem dX10_likes_116 : decode cX10_likes 116 = .ok (.if_icmp .ne 7, 3) := by decide +kernel
theorem dX10_likes_119 : decode cX10_likes 119 = .ok (.iconst 1, 1) := by decide +kernel
theorem dX10_likes_120 : decode cX10_likes 120 = .ok (.goto 4, 3) := by decide +kernel
theorem dX10_likes_123 : decode cX10_likes 123 = .ok (.iconst 0, 1) := by decide +kernel
theorem dX10_likes_124 : decode cX10_likes 124 = .ok (.istore 6, 2) := by decide +kernel
theorem dX10_likes_126 : decode cX10_likes 126 = .ok (.iinc 7 1, 3) := by decide +kernel
theorem dX10_likes_129 : decode cX10_likes 129 = .ok (.goto (-88), 3) := by decide +kernel
theorem dX10_likes_132 : decode cX10_likes 132 = .ok (.iload_n 3, 1) := by decide +kernel
theorem dX10_likes_133 : decode cX10_likes 133 = .ok (.iload 6, 2) := by decide +kernel
theorem dX10_likes_135 : decode cX10_likes 135 = .ok (.ifCond .eq 7, 3) := by decide +kernel
theorem dX10_likes_138 : decode cX10_likes 138 = .ok (.iconst 1, 1) := by decide +kernel
theorem dX10_likes_139 : decode cX10_likes 139 = .ok (.goto 4, 3) := by decide +kernel
theorem dX10_likes_142 : decode cX10_likes 142 = .ok (.iconst 0, 1) := by decide +kernel
theorem dX10_likes_143 : decode cX10_likes 143 = .ok (.iadd, 1) := by decide +kernel
theorem dX10_likes_144 : decode cX10_likes 144 = .ok (.istore_n 3, 1) := by decide +kernel
theorem dX10_likes_145 : decode cX10_likes 145 = .ok (.iload 6, 2) := by decide +kernel
theorem dX10_likes_147 : decode cX10_likes 147 = .ok (.ifCond .eq 8, 3) := by decide +kernel
theorem dX10_likes_150 : decode cX10_likes 150 = .ok (.iload 5, 2) := by decide +kernel
theorem dX10_likes_152 : decode cX10_likes 152 = .ok (.goto 5, 3) := by decide +kernel
theorem dX10_likes_155 : decode cX10_likes 155 = .ok (.iload 4, 2) := by decide +kernel
theorem dX10_likes_157 : decode cX10_likes 157 = .ok (.istore 4, 2) := by decide +kernel
theorem dX10_likes_159 : decode cX10_likes 159 = .ok (.iinc 5 (-1), 3) := by decide +kernel
theorem dX10_likes_162 : decode cX10_likes 162 = .ok (.goto (-132), 3) := by decide +kernel
theorem dX10_likes_165 : decode cX10_likes 165 = .ok (.iload_n 2, 1) := by decide +kernel
theorem dX10_likes_166 : decode cX10_likes 166 = .ok (.ifCond .ne 7, 3) := by decide +kernel
theorem dX10_likes_169 : decode cX10_likes 169 = .ok (.iload_n 3, 1) := by decide +kernel
theorem dX10_likes_170 : decode cX10_likes 170 = .ok (.goto 5, 3) := by decide +kernel
theorem dX10_likes_173 : decode cX10_likes 173 = .ok (.iload 4, 2) := by decide +kernel
theorem dX10_likes_175 : decode cX10_likes 175 = .ok (.ireturn, 1) := by decide +kernel
theorem dX10_year_0 : decode cX10_year 0 = .ok (.iload_n 1, 1) := by decide +kernel
theorem dX10_year_1 : decode cX10_year 1 = .ok (.i2l, 1) := by decide +kernel
theorem dX10_year_2 : decode cX10_year 2 = .ok (.lconst 0, 1) := by decide +kernel
theorem dX10_year_3 : decode cX10_year 3 = .ok (.ldc2_w 168, 3) := by decide +kernel
theorem dX10_year_6 : decode cX10_year 6 = .ok (.invokestatic 57, 3) := by decide +kernel
theorem dX10_year_9 : decode cX10_year 9 = .ok (.ifCond .eq 25, 3) := by decide +kernel
theorem dX10_year_12 : decode cX10_year 12 = .ok (.iload_n 2, 1) := by decide +kernel
theorem dX10_year_13 : decode cX10_year 13 = .ok (.i2l, 1) := by decide +kernel
theorem dX10_year_14 : decode cX10_year 14 = .ok (.lconst 1, 1) := by decide +kernel
theorem dX10_year_15 : decode cX10_year 15 = .ok (.ldc2_w 170, 3) := by decide +kernel
theorem dX10_year_18 : decode cX10_year 18 = .ok (.invokestatic 57, 3) := by decide +kernel
theorem dX10_year_21 : decode cX10_year 21 = .ok (.ifCond .eq 13, 3) := by decide +kernel
theorem dX10_year_24 : decode cX10_year 24 = .ok (.iload_n 3, 1) := by decide +kernel
theorem dX10_year_25 : decode cX10_year 25 = .ok (.i2l, 1) := by decide +kernel
theorem dX10_year_26 : decode cX10_year 26 = .ok (.lconst 0, 1) := by decide +kernel
theorem dX10_year_27 : decode cX10_year 27 = .ok (.lconst 1, 1) := by decide +kernel
theorem dX10_year_28 : decode cX10_year 28 = .ok (.invokestatic 57, 3) := by decide +kernel
theorem dX10_year_31 : decode cX10_year 31 = .ok (.ifCond .ne 5, 3) := by decide +kernel
theorem dX10_year_34 : decode cX10_year 34 = .ok (.iconst (-1), 1) := by decide +kernel
theorem dX10_year_35 : decode cX10_year 35 = .ok (.ireturn, 1) := by decide +kernel
theorem dX10_year_36 : decode cX10_year 36 = .ok (.aload_n 0, 1) := by decide +kernel
theorem dX10_year_37 : decode cX10_year 37 = .ok (.getfield 32, 3) := by decide +kernel
theorem dX10_year_40 : decode cX10_year 40 = .ok (.istore 4, 2) := by decide +kernel
theorem dX10_year_42 : decode cX10_year 42 = .ok (.aload_n 0, 1) := by decide +kernel
theorem dX10_year_43 : decode cX10_year 43 = .ok (.getfield 107, 3) := by decide +kernel
theorem dX10_year_46 : decode cX10_year 46 = .ok (.istore 5, 2) := by decide +kernel
theorem dX10_year_48 : decode cX10_year 48 = .ok (.iconst (-1), 1) := by decide +kernel
theorem dX10_year_49 : decode cX10_year 49 = .ok (.istore 6, 2) := by decide +kernel
theorem dX10_year_51 : decode cX10_year 51 = .ok (.iconst 0, 1) := by decide +kernel
theorem dX10_year_52 : decode cX10_year 52 = .ok (.istore 7, 2) := by decide +kernel
theorem dX10_year_54 : decode cX10_year 54 = .ok (.iconst 0, 1) := by decide +kernel
theorem dX10_year_55 : decode cX10_year 55 = .ok (.istore 8, 2) := by decide +kernel
theorem dX10_year_57 : decode cX10_year 57 = .ok (.iload 8, 2) := by decide +kernel
theorem dX10_year_59 : decode cX10_year 59 = .ok (.iload_n 2, 1) := by decide +kernel
theorem dX10_year_60 : decode cX10_year 60 = .ok (.if_icmp .ge 95, 3) := by decide +kernel
theorem dX10_year_63 : decode cX10_year 63 = .ok (.ldc2_w 172, 3) := by decide +kernel
theorem dX10_year_66 : decode cX10_year 66 = .ok (.iload_n 1, 1) := by decide +kernel
theorem dX10_year_67 : decode cX10_year 67 = .ok (.i2l, 1) := by decide +kernel
theorem dX10_year_68 : decode cX10_year 68 = .ok (.lmul, 1) := by decide +kernel
theorem dX10_year_69 : decode cX10_year 69 = .ok (.ldc2_w 174, 3) := by decide +kernel
theorem dX10_year_72 : decode cX10_year 72 = .ok (.iload 8, 2) := by decide +kernel
theorem dX10_year_74 : decode cX10_year 74 = .ok (.i2l, 1) := by decide +kernel
theorem dX10_year_75 : decode cX10_year 75 = .ok (.lmul, 1) := by decide +kernel
theorem dX10_year_76 : decode cX10_year 76 = .ok (.ladd, 1) := by decide +kernel
theorem dX10_year_77 : decode cX10_year 77 = .ok (.lconst 1, 1) := by decide +kernel
theorem dX10_year_78 : decode cX10_year 78 = .ok (.ladd, 1) := by decide +kernel
theorem dX10_year_79 : decode cX10_year 79 = .ok (.lstore 9, 2) := by decide +kernel
theorem dX10_year_81 : decode cX10_year 81 = .ok (.aload_n 0, 1) := by decide +kernel
theorem dX10_year_82 : decode cX10_year 82 = .ok (.lload 9, 2) := by decide +kernel
theorem dX10_year_84 : decode cX10_year 84 = .ok (.lload 9, 2) := by decide +kernel
theorem dX10_year_86 : decode cX10_year 86 = .ok (.lmul, 1) := by decide +kernel
theorem dX10_year_87 : decode cX10_year 87 = .ok (.ldc2_w 176, 3) := by decide +kernel
theorem dX10_year_90 : decode cX10_year 90 = .ok (.lrem, 1) := by decide +kernel
theorem dX10_year_91 : decode cX10_year 91 = .ok (.ldc2_w 170, 3) := by decide +kernel
theorem dX10_year_94 : decode cX10_year 94 = .ok (.lrem, 1) := by decide +kernel
theorem dX10_year_95 : decode cX10_year 95 = .ok (.l2i, 1) := by decide +kernel
theorem dX10_year_96 : decode cX10_year 96 = .ok (.putfield 32, 3) := by decide +kernel
theorem dX10_year_99 : decode cX10_year 99 = .ok (.aload_n 0, 1) := by decide +kernel
theorem dX10_year_100 : decode cX10_year 100 = .ok (.iload 5, 2) := by decide +kernel
theorem dX10_year_102 : decode cX10_year 102 = .ok (.iconst 1, 1) := by decide +kernel
theorem dX10_year_103 : decode cX10_year 103 = .ok (.invokevirtual 156, 3) := by decide +kernel
theorem dX10_year_106 : decode cX10_year 106 = .ok (.istore 5, 2) := by decide +kernel
theorem dX10_year_108 : decode cX10_year 108 = .ok (.iload 5, 2) := by decide +kernel
theorem dX10_year_110 : decode cX10_year 110 = .ok (.invokestatic 128, 3) := by decide +kernel
theorem dX10_year_113 : decode cX10_year 113 = .ok (.iload 6, 2) := by decide +kernel
theorem dX10_year_115 : decode cX10_year 115 = .ok (.if_icmp .le 8, 3) := by decide +kernel
theorem dX10_year_118 : decode cX10_year 118 = .ok (.iload 8, 2) := by decide +kernel
theorem dX10_year_120 : decode cX10_year 120 = .ok (.goto 5, 3) := by decide +kernel
theorem dX10_year_123 : decode cX10_year 123 = .ok (.iload 7, 2) := by decide +kernel
theorem dX10_year_125 : decode cX10_year 125 = .ok (.istore 7, 2) := by decide +kernel
theorem dX10_year_127 : decode cX10_year 127 = .ok (.iload 5, 2) := by decide +kernel
theorem dX10_year_129 : decode cX10_year 129 = .ok (.invokestatic 128, 3) := by decide +kernel
theorem dX10_year_132 : decode cX10_year 132 = .ok (.iload 6, 2) := by decide +kernel
theorem dX10_year_134 : decode cX10_year 134 = .ok (.if_icmp .le 11, 3) := by decide +kernel
theorem dX10_year_137 : decode cX10_year 137 = .ok (.iload 5, 2) := by decide +kernel
theorem dX10_year_139 : decode cX10_year 139 = .ok (.invokestatic 128, 3) := by decide +kernel
theorem dX10_year_142 : decode cX10_year 142 = .ok (.goto 5, 3) := by decide +kernel
theorem dX10_year_145 : decode cX10_year 145 = .ok (.iload 6, 2) := by decide +kernel
theorem dX10_year_147 : decode cX10_year 147 = .ok (.istore 6, 2) := by decide +kernel
theorem dX10_year_149 : decode cX10_year 149 = .ok (.iinc 8 1, 3) := by decide +kernel
theorem dX10_year_152 : decode cX10_year 152 = .ok (.goto (-95), 3) := by decide +kernel
theorem dX10_year_155 : decode cX10_year 155 = .ok (.aload_n 0, 1) := by decide +kernel
theorem dX10_year_156 : decode cX10_year 156 = .ok (.iload 4, 2) := by decide +kernel
theorem dX10_year_158 : decode cX10_year 158 = .ok (.putfield 32, 3) := by decide +kernel
theorem dX10_year_161 : decode cX10_year 161 = .ok (.iload_n 3, 1) := by decide +kernel
theorem dX10_year_162 : decode cX10_year 162 = .ok (.ifCond .ne 11, 3) := by decide +kernel
theorem dX10_year_165 : decode cX10_year 165 = .ok (.iload 5, 2) := by decide +kernel
theorem dX10_year_167 : decode cX10_year 167 = .ok (.invokestatic 128, 3) := by decide +kernel
theorem dX10_year_170 : decode cX10_year 170 = .ok (.goto 5, 3) := by decide +kernel
theorem dX10_year_173 : decode cX10_year 173 = .ok (.iload 7, 2) := by decide +kernel
theorem dX10_year_175 : decode cX10_year 175 = .ok (.ireturn, 1) := by decide +kernel
theorem dX10_keep_0 : decode cX10_keep 0 = .ok (.aload_n 0, 1) := by decide +kernel
theorem dX10_keep_1 : decode cX10_keep 1 = .ok (.getfield 116, 3) := by decide +kernel
theorem dX10_keep_4 : decode cX10_keep 4 = .ok (.iconst 2, 1) := by decide +kernel
theorem dX10_keep_5 : decode cX10_keep 5 = .ok (.if_icmp .ne 6, 3) := by decide +kernel
theorem dX10_keep_8 : decode cX10_keep 8 = .ok (.bipush (-3), 2) := by decide +kernel
theorem dX10_keep_10 : decode cX10_keep 10 = .ok (.ireturn, 1) := by decide +kernel
theorem dX10_keep_11 : decode cX10_keep 11 = .ok (.aload_n 0, 1) := by decide +kernel
theorem dX10_keep_12 : decode cX10_keep 12 = .ok (.getfield 38, 3) := by decide +kernel
theorem dX10_keep_15 : decode cX10_keep 15 = .ok (.bipush 8, 2) := by decide +kernel
theorem dX10_keep_17 : decode cX10_keep 17 = .ok (.aload_n 0, 1) := by decide +kernel
theorem dX10_keep_18 : decode cX10_keep 18 = .ok (.getfield 116, 3) := by decide +kernel
theorem dX10_keep_21 : decode cX10_keep 21 = .ok (.imul, 1) := by decide +kernel
theorem dX10_keep_22 : decode cX10_keep 22 = .ok (.aload_n 0, 1) := by decide +kernel
theorem dX10_keep_23 : decode cX10_keep 23 = .ok (.getfield 107, 3) := by decide +kernel
theorem dX10_keep_26 : decode cX10_keep 26 = .ok (.iastore, 1) := by decide +kernel
theorem dX10_keep_27 : decode cX10_keep 27 = .ok (.iconst 0, 1) := by decide +kernel
theorem dX10_keep_28 : decode cX10_keep 28 = .ok (.istore_n 1, 1) := by decide +kernel
theorem dX10_keep_29 : decode cX10_keep 29 = .ok (.iload_n 1, 1) := by decide +kernel
theorem dX10_keep_30 : decode cX10_keep 30 = .ok (.bipush 7, 2) := by decide +kernel
theorem dX10_keep_32 : decode cX10_keep 32 = .ok (.if_icmp .ge 31, 3) := by decide +kernel
theorem dX10_keep_35 : decode cX10_keep 35 = .ok (.aload_n 0, 1) := by decide +kernel
theorem dX10_keep_36 : decode cX10_keep 36 = .ok (.getfield 38, 3) := by decide +kernel
theorem dX10_keep_39 : decode cX10_keep 39 = .ok (.bipush 8, 2) := by decide +kernel
theorem dX10_keep_41 : decode cX10_keep 41 = .ok (.aload_n 0, 1) := by decide +kernel
theorem dX10_keep_42 : decode cX10_keep 42 = .ok (.getfield 116, 3) := by decide +kernel
theorem dX10_keep_45 : decode cX10_keep 45 = .ok (.imul, 1) := by decide +kernel
theorem dX10_keep_46 : decode cX10_keep 46 = .ok (.iconst 1, 1) := by decide +kernel
theorem dX10_keep_47 : decode cX10_keep 47 = .ok (.iadd, 1) := by decide +kernel
theorem dX10_keep_48 : decode cX10_keep 48 = .ok (.iload_n 1, 1) := by decide +kernel
theorem dX10_keep_49 : decode cX10_keep 49 = .ok (.iadd, 1) := by decide +kernel
theorem dX10_keep_50 : decode cX10_keep 50 = .ok (.aload_n 0, 1) := by decide +kernel
theorem dX10_keep_51 : decode cX10_keep 51 = .ok (.getfield 29, 3) := by decide +kernel
theorem dX10_keep_54 : decode cX10_keep 54 = .ok (.iload_n 1, 1) := by decide +kernel
theorem dX10_keep_55 : decode cX10_keep 55 = .ok (.iaload, 1) := by decide +kernel
theorem dX10_keep_56 : decode cX10_keep 56 = .ok (.iastore, 1) := by decide +kernel
theorem dX10_keep_57 : decode cX10_keep 57 = .ok (.iinc 1 1, 3) := by decide +kernel
theorem dX10_keep_60 : decode cX10_keep 60 = .ok (.goto (-31), 3) := by decide +kernel
theorem dX10_keep_63 : decode cX10_keep 63 = .ok (.aload_n 0, 1) := by decide +kernel
theorem dX10_keep_64 : decode cX10_keep 64 = .ok (.dup, 1) := by decide +kernel
theorem dX10_keep_65 : decode cX10_keep 65 = .ok (.getfield 116, 3) := by decide +kernel
theorem dX10_keep_68 : decode cX10_keep 68 = .ok (.iconst 1, 1) := by decide +kernel
theorem dX10_keep_69 : decode cX10_keep 69 = .ok (.iadd, 1) := by decide +kernel
theorem dX10_keep_70 : decode cX10_keep 70 = .ok (.putfield 116, 3) := by decide +kernel
theorem dX10_keep_73 : decode cX10_keep 73 = .ok (.aload_n 0, 1) := by decide +kernel
theorem dX10_keep_74 : decode cX10_keep 74 = .ok (.getfield 116, 3) := by decide +kernel
theorem dX10_keep_77 : decode cX10_keep 77 = .ok (.ireturn, 1) := by decide +kernel
theorem dX10_back_0 : decode cX10_back 0 = .ok (.aload_n 0, 1) := by decide +kernel
theorem dX10_back_1 : decode cX10_back 1 = .ok (.getfield 116, 3) := by decide +kernel
theorem dX10_back_4 : decode cX10_back 4 = .ok (.ifCond .ne 6, 3) := by decide +kernel
theorem dX10_back_7 : decode cX10_back 7 = .ok (.bipush (-2), 2) := by decide +kernel
theorem dX10_back_9 : decode cX10_back 9 = .ok (.ireturn, 1) := by decide +kernel
theorem dX10_back_10 : decode cX10_back 10 = .ok (.aload_n 0, 1) := by decide +kernel
theorem dX10_back_11 : decode cX10_back 11 = .ok (.dup, 1) := by decide +kernel
theorem dX10_back_12 : decode cX10_back 12 = .ok (.getfield 116, 3) := by decide +kernel
theorem dX10_back_15 : decode cX10_back 15 = .ok (.iconst 1, 1) := by decide +kernel
theorem dX10_back_16 : decode cX10_back 16 = .ok (.isub, 1) := by decide +kernel
theorem dX10_back_17 : decode cX10_back 17 = .ok (.putfield 116, 3) := by decide +kernel
theorem dX10_back_20 : decode cX10_back 20 = .ok (.aload_n 0, 1) := by decide +kernel
theorem dX10_back_21 : decode cX10_back 21 = .ok (.aload_n 0, 1) := by decide +kernel
theorem dX10_back_22 : decode cX10_back 22 = .ok (.getfield 38, 3) := by decide +kernel
theorem dX10_back_25 : decode cX10_back 25 = .ok (.bipush 8, 2) := by decide +kernel
theorem dX10_back_27 : decode cX10_back 27 = .ok (.aload_n 0, 1) := by decide +kernel
theorem dX10_back_28 : decode cX10_back 28 = .ok (.getfield 116, 3) := by decide +kernel
theorem dX10_back_31 : decode cX10_back 31 = .ok (.imul, 1) := by decide +kernel
theorem dX10_back_32 : decode cX10_back 32 = .ok (.iaload, 1) := by decide +kernel
theorem dX10_back_33 : decode cX10_back 33 = .ok (.putfield 107, 3) := by decide +kernel
theorem dX10_back_36 : decode cX10_back 36 = .ok (.iconst 0, 1) := by decide +kernel
theorem dX10_back_37 : decode cX10_back 37 = .ok (.istore_n 1, 1) := by decide +kernel
theorem dX10_back_38 : decode cX10_back 38 = .ok (.iload_n 1, 1) := by decide +kernel
theorem dX10_back_39 : decode cX10_back 39 = .ok (.bipush 7, 2) := by decide +kernel
theorem dX10_back_41 : decode cX10_back 41 = .ok (.if_icmp .ge 31, 3) := by decide +kernel
theorem dX10_back_44 : decode cX10_back 44 = .ok (.aload_n 0, 1) := by decide +kernel
theorem dX10_back_45 : decode cX10_back 45 = .ok (.getfield 29, 3) := by decide +kernel
theorem dX10_back_48 : decode cX10_back 48 = .ok (.iload_n 1, 1) := by decide +kernel
theorem dX10_back_49 : decode cX10_back 49 = .ok (.aload_n 0, 1) := by decide +kernel
theorem dX10_back_50 : decode cX10_back 50 = .ok (.getfield 38, 3) := by decide +kernel
theorem dX10_back_53 : decode cX10_back 53 = .ok (.bipush 8, 2) := by decide +kernel
theorem dX10_back_55 : decode cX10_back 55 = .ok (.aload_n 0, 1) := by decide +kernel
theorem dX10_back_56 : decode cX10_back 56 = .ok (.getfield 116, 3) := by decide +kernel
theorem dX10_back_59 : decode cX10_back 59 = .ok (.imul, 1) := by decide +kernel
theorem dX10_back_60 : decode cX10_back 60 = .ok (.iconst 1, 1) := by decide +kernel
theorem dX10_back_61 : decode cX10_back 61 = .ok (.iadd, 1) := by decide +kernel
theorem dX10_back_62 : decode cX10_back 62 = .ok (.iload_n 1, 1) := by decide +kernel
theorem dX10_back_63 : decode cX10_back 63 = .ok (.iadd, 1) := by decide +kernel
theorem dX10_back_64 : decode cX10_back 64 = .ok (.iaload, 1) := by decide +kernel
theorem dX10_back_65 : decode cX10_back 65 = .ok (.iastore, 1) := by decide +kernel
theorem dX10_back_66 : decode cX10_back 66 = .ok (.iinc 1 1, 3) := by decide +kernel
theorem dX10_back_69 : decode cX10_back 69 = .ok (.goto (-31), 3) := by decide +kernel
theorem dX10_back_72 : decode cX10_back 72 = .ok (.aload_n 0, 1) := by decide +kernel
theorem dX10_back_73 : decode cX10_back 73 = .ok (.iconst 0, 1) := by decide +kernel
theorem dX10_back_74 : decode cX10_back 74 = .ok (.putfield 113, 3) := by decide +kernel
theorem dX10_back_77 : decode cX10_back 77 = .ok (.aload_n 0, 1) := by decide +kernel
theorem dX10_back_78 : decode cX10_back 78 = .ok (.getfield 116, 3) := by decide +kernel
theorem dX10_back_81 : decode cX10_back 81 = .ok (.ireturn, 1) := by decide +kernel
theorem dX10_count_0 : decode cX10_count 0 = .ok (.iload_n 1, 1) := by decide +kernel
theorem dX10_count_1 : decode cX10_count 1 = .ok (.tableswitch 78 0 6 #[43, 48, 53, 58, 63, 68, 73], 43) := by decide +kernel
theorem dX10_count_44 : decode cX10_count 44 = .ok (.aload_n 0, 1) := by decide +kernel
theorem dX10_count_45 : decode cX10_count 45 = .ok (.getfield 13, 3) := by decide +kernel
theorem dX10_count_48 : decode cX10_count 48 = .ok (.ireturn, 1) := by decide +kernel
theorem dX10_count_49 : decode cX10_count 49 = .ok (.aload_n 0, 1) := by decide +kernel
theorem dX10_count_50 : decode cX10_count 50 = .ok (.getfield 107, 3) := by decide +kernel
theorem dX10_count_53 : decode cX10_count 53 = .ok (.ireturn, 1) := by decide +kernel
theorem dX10_count_54 : decode cX10_count 54 = .ok (.aload_n 0, 1) := by decide +kernel
theorem dX10_count_55 : decode cX10_count 55 = .ok (.getfield 32, 3) := by decide +kernel
theorem dX10_count_58 : decode cX10_count 58 = .ok (.ireturn, 1) := by decide +kernel
theorem dX10_count_59 : decode cX10_count 59 = .ok (.aload_n 0, 1) := by decide +kernel
theorem dX10_count_60 : decode cX10_count 60 = .ok (.getfield 110, 3) := by decide +kernel
theorem dX10_count_63 : decode cX10_count 63 = .ok (.ireturn, 1) := by decide +kernel
theorem dX10_count_64 : decode cX10_count 64 = .ok (.aload_n 0, 1) := by decide +kernel
theorem dX10_count_65 : decode cX10_count 65 = .ok (.getfield 113, 3) := by decide +kernel
theorem dX10_count_68 : decode cX10_count 68 = .ok (.ireturn, 1) := by decide +kernel
theorem dX10_count_69 : decode cX10_count 69 = .ok (.aload_n 0, 1) := by decide +kernel
theorem dX10_count_70 : decode cX10_count 70 = .ok (.getfield 116, 3) := by decide +kernel
theorem dX10_count_73 : decode cX10_count 73 = .ok (.ireturn, 1) := by decide +kernel
theorem dX10_count_74 : decode cX10_count 74 = .ok (.aload_n 0, 1) := by decide +kernel
theorem dX10_count_75 : decode cX10_count 75 = .ok (.getfield 63, 3) := by decide +kernel
theorem dX10_count_78 : decode cX10_count 78 = .ok (.ireturn, 1) := by decide +kernel
theorem dX10_count_79 : decode cX10_count 79 = .ok (.iconst (-1), 1) := by decide +kernel
theorem dX10_count_80 : decode cX10_count 80 = .ok (.ireturn, 1) := by decide +kernel
theorem dJ6_bitCount_0f7a4_0 : decode cJ6_bitCount_0f7a4 0 = .ok (.iload_n 0, 1) := by decide +kernel
theorem dJ6_bitCount_0f7a4_1 : decode cJ6_bitCount_0f7a4 1 = .ok (.iload_n 0, 1) := by decide +kernel
theorem dJ6_bitCount_0f7a4_2 : decode cJ6_bitCount_0f7a4 2 = .ok (.iconst 1, 1) := by decide +kernel
theorem dJ6_bitCount_0f7a4_3 : decode cJ6_bitCount_0f7a4 3 = .ok (.iushr, 1) := by decide +kernel
theorem dJ6_bitCount_0f7a4_4 : decode cJ6_bitCount_0f7a4 4 = .ok (.ldc_w 265, 3) := by decide +kernel
theorem dJ6_bitCount_0f7a4_7 : decode cJ6_bitCount_0f7a4 7 = .ok (.iand, 1) := by decide +kernel
theorem dJ6_bitCount_0f7a4_8 : decode cJ6_bitCount_0f7a4 8 = .ok (.isub, 1) := by decide +kernel
theorem dJ6_bitCount_0f7a4_9 : decode cJ6_bitCount_0f7a4 9 = .ok (.istore_n 0, 1) := by decide +kernel
theorem dJ6_bitCount_0f7a4_10 : decode cJ6_bitCount_0f7a4 10 = .ok (.iload_n 0, 1) := by decide +kernel
theorem dJ6_bitCount_0f7a4_11 : decode cJ6_bitCount_0f7a4 11 = .ok (.ldc_w 266, 3) := by decide +kernel
theorem dJ6_bitCount_0f7a4_14 : decode cJ6_bitCount_0f7a4 14 = .ok (.iand, 1) := by decide +kernel
theorem dJ6_bitCount_0f7a4_15 : decode cJ6_bitCount_0f7a4 15 = .ok (.iload_n 0, 1) := by decide +kernel
theorem dJ6_bitCount_0f7a4_16 : decode cJ6_bitCount_0f7a4 16 = .ok (.iconst 2, 1) := by decide +kernel
theorem dJ6_bitCount_0f7a4_17 : decode cJ6_bitCount_0f7a4 17 = .ok (.iushr, 1) := by decide +kernel
theorem dJ6_bitCount_0f7a4_18 : decode cJ6_bitCount_0f7a4 18 = .ok (.ldc_w 266, 3) := by decide +kernel
theorem dJ6_bitCount_0f7a4_21 : decode cJ6_bitCount_0f7a4 21 = .ok (.iand, 1) := by decide +kernel
theorem dJ6_bitCount_0f7a4_22 : decode cJ6_bitCount_0f7a4 22 = .ok (.iadd, 1) := by decide +kernel
theorem dJ6_bitCount_0f7a4_23 : decode cJ6_bitCount_0f7a4 23 = .ok (.istore_n 0, 1) := by decide +kernel
theorem dJ6_bitCount_0f7a4_24 : decode cJ6_bitCount_0f7a4 24 = .ok (.iload_n 0, 1) := by decide +kernel
theorem dJ6_bitCount_0f7a4_25 : decode cJ6_bitCount_0f7a4 25 = .ok (.iload_n 0, 1) := by decide +kernel
theorem dJ6_bitCount_0f7a4_26 : decode cJ6_bitCount_0f7a4 26 = .ok (.iconst 4, 1) := by decide +kernel
theorem dJ6_bitCount_0f7a4_27 : decode cJ6_bitCount_0f7a4 27 = .ok (.iushr, 1) := by decide +kernel
theorem dJ6_bitCount_0f7a4_28 : decode cJ6_bitCount_0f7a4 28 = .ok (.iadd, 1) := by decide +kernel
theorem dJ6_bitCount_0f7a4_29 : decode cJ6_bitCount_0f7a4 29 = .ok (.ldc_w 267, 3) := by decide +kernel
theorem dJ6_bitCount_0f7a4_32 : decode cJ6_bitCount_0f7a4 32 = .ok (.iand, 1) := by decide +kernel
theorem dJ6_bitCount_0f7a4_33 : decode cJ6_bitCount_0f7a4 33 = .ok (.istore_n 0, 1) := by decide +kernel
theorem dJ6_bitCount_0f7a4_34 : decode cJ6_bitCount_0f7a4 34 = .ok (.iload_n 0, 1) := by decide +kernel
theorem dJ6_bitCount_0f7a4_35 : decode cJ6_bitCount_0f7a4 35 = .ok (.iload_n 0, 1) := by decide +kernel
theorem dJ6_bitCount_0f7a4_36 : decode cJ6_bitCount_0f7a4 36 = .ok (.bipush 8, 2) := by decide +kernel
theorem dJ6_bitCount_0f7a4_38 : decode cJ6_bitCount_0f7a4 38 = .ok (.iushr, 1) := by decide +kernel
theorem dJ6_bitCount_0f7a4_39 : decode cJ6_bitCount_0f7a4 39 = .ok (.iadd, 1) := by decide +kernel
theorem dJ6_bitCount_0f7a4_40 : decode cJ6_bitCount_0f7a4 40 = .ok (.istore_n 0, 1) := by decide +kernel
theorem dJ6_bitCount_0f7a4_41 : decode cJ6_bitCount_0f7a4 41 = .ok (.iload_n 0, 1) := by decide +kernel
theorem dJ6_bitCount_0f7a4_42 : decode cJ6_bitCount_0f7a4 42 = .ok (.iload_n 0, 1) := by decide +kernel
theorem dJ6_bitCount_0f7a4_43 : decode cJ6_bitCount_0f7a4 43 = .ok (.bipush 16, 2) := by decide +kernel
theorem dJ6_bitCount_0f7a4_45 : decode cJ6_bitCount_0f7a4 45 = .ok (.iushr, 1) := by decide +kernel
theorem dJ6_bitCount_0f7a4_46 : decode cJ6_bitCount_0f7a4 46 = .ok (.iadd, 1) := by decide +kernel
theorem dJ6_bitCount_0f7a4_47 : decode cJ6_bitCount_0f7a4 47 = .ok (.istore_n 0, 1) := by decide +kernel
theorem dJ6_bitCount_0f7a4_48 : decode cJ6_bitCount_0f7a4 48 = .ok (.iload_n 0, 1) := by decide +kernel
theorem dJ6_bitCount_0f7a4_49 : decode cJ6_bitCount_0f7a4 49 = .ok (.bipush 63, 2) := by decide +kernel
theorem dJ6_bitCount_0f7a4_51 : decode cJ6_bitCount_0f7a4 51 = .ok (.iand, 1) := by decide +kernel
theorem dJ6_bitCount_0f7a4_52 : decode cJ6_bitCount_0f7a4 52 = .ok (.ireturn, 1) := by decide +kernel
end
section
/-! tools: what all contracts of this claim have in common -/
def q_NL : List (String × Nat × MethodName × String) := [(RX0, 37, yX9_has, "DearAsMany"), (RX0, 45, yX9_bit, "DearAsMany"), (RX1, 61, yX9_at, "DearAsMany"), (RX1, 65, yX9_put, "DearAsMany"), (RX2, 28, yX9_put, "DearAsMany"), (RX2, 32, yX9_has, "DearAsMany"), (RX2, 36, yX9_at, "DearAsMany"), (RX3, 11, yX4_init, "DearAsMany"), (RX3, 34, yX9_bit, "DearAsMany"), (RX3, 38, yX9_at, "DearAsMany"), (RX3, 42, yX9_put, "DearAsMany"), (RX3, 58, yX9_valueOf, "DearAsMany"), (RX3, 62, yX9_has, "DearAsMany"), (RX4, 25, yX9_put, "DearAsMany"), (RX4, 29, yX9_bit, "DearAsMany"), (RX4, 33, yX9_at, "DearAsMany"), (RX5, 28, yX9_put, "DearAsMany"), (RX5, 35, yX9_at, "DearAsMany"), (RX6, 41, yX9_at, "DearAsMany"), (RX6, 60, yX9_put, "DearAsMany"), (RX7, 26, yX9_put, "DearAsMany"), (RX7, 30, yX9_at, "DearAsMany"), (RX7, 40, yX9_valueOf, "DearAsMany"), (RX9, 9, yX8_init, "DearAsMany"), (RX9, 18, yX6_init, "DearAsMany"), (RX9, 25, yX4_init, "DearAsMany"), (RX9, 32, yX3_init, "DearAsMany"), (RX9, 55, yX2_init, "DearAsMany"), (RX9, 74, yX7_init, "DearAsMany")]
/-- the links among nest mates -/
def q_N (U : State) : Prop := ∀ x ∈ q_NL, va_Nw (.methodLinkNest x.1 x.2.1 x.2.2.1 x.2.2.2) U
theorem q_N.warm {s U : State} (hW : s.WarmedH U.vm) (h : q_N s) : q_N U := fun x hx => va_Nw.warmM hW (h x hx)
theorem q_N.same {u U : State} (hv : u.vm = U.vm) (h : q_N u) : q_N U := fun x hx => va_Nw.same rfl hv (h x hx)
theorem q_N.at {s : State} (h : q_N s) (k : Nat) {a : String} {i : Nat} {y : MethodName} {b : String} (hk : q_NL[k]? = some (a, i, y, b)) : va_Nw (.methodLinkNest a i y b) s := h (a, i, y, b) (List.mem_of_getElem? hk)
abbrev q_tys (cI cB cZ : ClassId) : List (ClassId × FieldType) := [(cI, .int), (cB, .byte), (cZ, .boolean)]
def q_K (D : va_G) (tys : List (ClassId × FieldType)) (U : State) : Prop := va_K D vwCl tys U ∧ q_N U
theorem q_K.warm {D : va_G} {tys : List (ClassId × FieldType)} {s U : State} (hW : s.WarmedH U.vm) (h : q_K D tys s) : q_K D tys U := ⟨va_K.moved hW.alike h.1, h.2.warm hW⟩
theorem q_K.same {D : va_G} {tys : List (ClassId × FieldType)} {u U : State} (hv : u.vm = U.vm) (h : q_K D tys u) : q_K D tys U := ⟨va_K.moved (by rw [hv]; exact Vm.Alike.refl U.vm) h.1, h.2.same hv⟩
/-- a pure method's start: its world, any heap -/
def q_B (D : va_G) (tys : List (ClassId × FieldType)) (wc : va_W) : State → Prop := fun U => va_P D vwCl wc U.heap ∧ q_K D tys U
/-- a writing method's start -/
def q_M (D : va_G) (tys : List (ClassId × FieldType)) (wc : va_W) (sz : Nat) : State → Prop := fun U => U.heap.size = sz ∧ va_P D vwCl wc U.heap ∧ q_K D tys U ∧ va_D (fun _ => True) wc
theorem q_Bb {D : va_G} {tys : List (ClassId × FieldType)} {wc : va_W} {av : List Value} : FrameBlind (va_Pc av (q_B D tys wc)) := fun a U g mk h => ⟨h.1, h.2.1, q_K.same (u := U) (U := U.calling g mk a) rfl h.2.2⟩
theorem q_Mb {D : va_G} {tys : List (ClassId × FieldType)} {wc : va_W} {sz : Nat} {av : List Value} : FrameBlind (va_Pc av (q_M D tys wc sz)) := fun a U g mk h => ⟨h.1, h.2.1, h.2.2.1, q_K.same (u := U) (U := U.calling g mk a) rfl h.2.2.2.1, h.2.2.2.2⟩
/-! a world with some of its cells anew -/
def q_repl : va_W → List Nat → va_W → va_W
  | w, i :: is, x :: xs => q_repl (w.set i x) is xs
  | w, _, _ => w
theorem q_repl_spec : ∀ (is : List Nat) (xs w : va_W) (k : Nat) (q : Nat × va_E), is.length = xs.length → (q_repl w is xs)[k]? = some q → q ∈ xs ∨ (k ∉ is ∧ w[k]? = some q)
  | [], [], w, k, q, _, h => Or.inr ⟨by simp, h⟩
  | [], _ :: _, _, _, _, hl, _ => by simp at hl
  | _ :: _, [], _, _, _, hl, _ => by simp at hl
  | i :: is, x :: xs, w, k, q, hl, h => by
    have h' : (q_repl (w.set i x) is xs)[k]? = some q := h
    rcases q_repl_spec is xs (w.set i x) k q (by simpa using hl) h' with h1 | ⟨h1, h2⟩
    · exact Or.inl (List.mem_cons_of_mem _ h1)
    · by_cases hk : k = i
      · subst hk
        have hlt : k < w.length := by have := (List.getElem?_eq_some_iff.mp h2).1; simpa using this
        rw [List.getElem?_set_self hlt] at h2
        cases h2
        exact Or.inl List.mem_cons_self
      · rw [List.getElem?_set_ne (Ne.symm hk)] at h2
        exact Or.inr ⟨by simp [hk, h1], h2⟩
theorem q_Dadr {A : Nat → Prop} {w w' : va_W} (h : w'.map Prod.fst = w.map Prod.fst) (hD : va_D A w) : va_D A w' := by
  have key : ∀ (k : Nat) (q : Nat × va_E), w'[k]? = some q → ∃ q0, w[k]? = some q0 ∧ q0.1 = q.1 := by
    intro k q hk
    have h1 : (w'.map Prod.fst)[k]? = some q.1 := by rw [List.getElem?_map, hk]; rfl
    rw [h, List.getElem?_map] at h1
    cases hw : w[k]? with
    | none => rw [hw] at h1; cases h1
    | some q0 => rw [hw] at h1; exact ⟨q0, rfl, Option.some.inj h1⟩
  refine ⟨fun i j x y hi hj hxy => ?_, fun k q hk => ?_⟩
  · obtain ⟨x0, h1, h2⟩ := key i x hi
    obtain ⟨y0, h3, h4⟩ := key j y hj
    exact hD.1 i j x0 y0 h1 h3 (h2.trans (hxy.trans h4.symm))
  · obtain ⟨q0, h1, h2⟩ := key k q hk
    rw [← h2]
    exact hD.2 k q0 h1
theorem q_join {A0 : Nat → Prop} {D : va_G} {cl : List vw_C} {w0 wc w1 : va_W} {H H1 : Heap} (hP : va_P D cl w0 H) (hD : va_D A0 w0) (is : List Nat) (hC : is.map (fun i => w0[i]?) = wc.map some) (hlen : is.length = w1.length)
    (hk : ∀ q : Nat, q < H.size → ¬ va_A wc H.size q → H1[q]? = H[q]?) (hP1 : va_P D cl w1 H1) : va_P D cl (q_repl w0 is w1) H1 := by
  intro k q hq
  rcases q_repl_spec is w1 w0 k q hlen hq with h | ⟨h1, h2⟩
  · obtain ⟨j, hj⟩ := List.getElem?_of_mem h
    exact hP1 j q hj
  · have hl := (hP k q h2).lt
    refine (hP k q h2).kept (hk q.1 hl fun h => ?_)
    rcases h with ⟨k2, e, h⟩ | h
    · have h3 : (is.map (fun i => w0[i]?))[k2]? = some (some (q.1, e)) := by rw [hC, List.getElem?_map, h]; rfl
      rw [List.getElem?_map] at h3
      cases hi : is[k2]? with
      | none => rw [hi] at h3; cases h3
      | some i =>
        rw [hi] at h3
        have h4 := Option.some.inj h3
        have h5 : i = k := hD.1 i k (q.1, e) q h4 h2 rfl
        subst h5
        exact h1 (List.mem_of_getElem? hi)
    · omega
section QT
variable {p : Program} {l : Launch} {e : Env} {R : Room} {s : State} {m : MethodId} {args : Array Value} {below : List Frame} {meth : Method} {c : Code} {H : Heap} {locs : List Loc} {cells slots : Nat} {Q : State → Prop}
variable {y : MethodName} {bytes cc : ByteArray} {maxL nL n index : Nat} {ret : Option FieldType} {ws : List Cond} {rm : Room} {Ts : List Cond} {own C host : String} {b : Addr} {As rest st0 : List Value} {pc : Nat} {ls : Array Slot} {D : va_G} {tys : List (ClassId × FieldType)} {w0 wc : va_W} {A0 : Nat → Prop} {H0 : Heap}
theorem q_callSi {post : Int32 → Prop} {a : Array Value} (hr : va_Run p l e R s m args below meth c H locs cells slots 0 0 (F0 m pc ls st0) rest (vp_Si post a) (fun _ => False))
    (kk : ∀ r : Int32, post r → W p l e R s m args below meth c H locs cells slots Q (F0 m (pc + 3) ls (.int r :: rest))) : W p l e R s m args below meth c H locs cells slots Q (F0 m pc ls st0) := by
  intro T hT X
  obtain ⟨v, st₀, t, T', L, h0, X', hL, e1, e2, ⟨r, hv, hp, hh⟩, st⟩ := hr T hT X
  cases hv
  obtain ⟨t2, a1, b1⟩ := kk r hp T' (by rw [e1, hh, h0]) (Stand.forget X' (fun q h => (hL q h).elim))
  exact ⟨t2, st t2 a1, b1⟩
/-- a pure call: virtual -/
theorem q_vi {post : Int32 → Prop} {qc : vw_C} {fs : List Value} (S : CallFix p m c cc nL s args Ts own) (hM : Met l y ws rm (va_Pc (.ref b :: As) (q_B D tys wc)) (vp_Si post) 0 0 (fun _ => False)) (cw : CallW R s args own C index y bytes maxL ret ws rm 0 0 n)
    (hK : q_K D tys s) (hP : va_P D vwCl w0 H) (is : List Nat) (hs : is.filterMap (fun i => w0[i]?) = wc) (q0 ci : Nat) (hc : vwCl[ci]? = some qc) (hCC : qc.1 = C) (he : w0[q0]? = some (b, .inr (ci, fs))) (hn : As.length = n) (hsize : ls.size = nL) (hst : st0 = As.reverse ++ .ref b :: rest) (hW : (rest.map fun v => v.category).sum ≤ 8) (hdg : decode cc pc = .ok (.invokevirtual index, 3)) (hcs : cells + 0 ≤ R.cells ∧ slots + 0 ≤ R.slots)
    (kk : ∀ r : Int32, post r → W p l e R s m args below meth c H locs cells slots Q (F0 m (pc + 3) ls (.int r :: rest))) : W p l e R s m args below meth c H locs cells slots Q (F0 m pc ls st0) :=
  q_callSi (va_runV (As := As) (rest := rest) S hM cw ⟨q_Bb, by subst hCC; exact va_recv hK.1 hP hc he, fun U hU hW => ⟨rfl, by rw [hU]; exact hP.sub is hs, hK.warm hW⟩⟩ rfl hn hsize hst (lv_room hW) hdg hcs) kk
/-- a pure call: a static method of the own kind -/
theorem q_si {post : Int32 → Prop} (S : CallFix p m c cc nL s args Ts own) (hM : Met l y ws rm (va_Pc As (q_B D tys wc)) (vp_Si post) 0 0 (fun _ => False)) (cw : CallB R s args own index y bytes maxL ret ws rm 0 0 n ∧ (Cond.static y).before args s = true)
    (hK : q_K D tys s) (hP : va_P D vwCl w0 H) (is : List Nat) (hs : is.filterMap (fun i => w0[i]?) = wc) (hn : As.length = n) (hsize : ls.size = nL) (hst : st0 = As.reverse ++ rest) (hW : (rest.map fun v => v.category).sum ≤ 8) (hdg : decode cc pc = .ok (.invokestatic index, 3)) (hcs : cells + 0 ≤ R.cells ∧ slots + 0 ≤ R.slots)
    (kk : ∀ r : Int32, post r → W p l e R s m args below meth c H locs cells slots Q (F0 m (pc + 3) ls (.int r :: rest))) : W p l e R s m args below meth c H locs cells slots Q (F0 m pc ls st0) :=
  q_callSi (va_runS (As := As) (rest := rest) S hM cw ⟨q_Bb, fun U hU hW => ⟨rfl, by rw [hU]; exact hP.sub is hs, hK.warm hW⟩⟩ rfl hn hsize hst (lv_room hW) hdg hcs) kk
/-- a pure call: a private static method of a nest mate -/
theorem q_ni {post : Int32 → Prop} (S : CallFix p m c cc nL s args Ts own) (hM : Met l y ws rm (va_Pc As (q_B D tys wc)) (vp_Si post) 0 0 (fun _ => False)) (cw : va_CN R s args own index y host bytes maxL ret ws rm 0 0 n ∧ (Cond.static y).before args s = true ∧ True)
    (hK : q_K D tys s) (hP : va_P D vwCl w0 H) (is : List Nat) (hs : is.filterMap (fun i => w0[i]?) = wc) (hn : As.length = n) (hsize : ls.size = nL) (hst : st0 = As.reverse ++ rest) (hW : (rest.map fun v => v.category).sum ≤ 8) (hdg : decode cc pc = .ok (.invokestatic index, 3)) (hcs : cells + 0 ≤ R.cells ∧ slots + 0 ≤ R.slots)
    (kk : ∀ r : Int32, post r → W p l e R s m args below meth c H locs cells slots Q (F0 m (pc + 3) ls (.int r :: rest))) : W p l e R s m args below meth c H locs cells slots Q (F0 m pc ls st0) :=
  q_callSi (va_runSN (As := As) (rest := rest) S hM cw ⟨q_Bb, fun U hU hW => ⟨rfl, by rw [hU]; exact hP.sub is hs, hK.warm hW⟩⟩ rfl hn hsize hst (lv_room hW) hdg hcs) kk
/-- behind a writing call that answers an int -/
theorem q_callMi {S : Type} {post : Int32 → S → Prop} {w1 w2 : S → va_W} {a : Array Value} (hr : va_Run p l e R s m args below meth c H locs cells slots 0 0 (F0 m pc ls st0) rest (va_Qi post (fun u t => va_P D vwCl (w1 u) t.heap) (va_A wc H.size) a) (va_A wc H.size))
    (hP : va_P D vwCl w0 H) (hD : va_D A0 w0) (hS : va_S A0 H0 H locs) (hA : ∀ q, H0.size ≤ q → A0 q) (is : List Nat) (hC : is.map (fun i => w0[i]?) = wc.map some) (hlen : ∀ u, is.length = (w1 u).length) (h2 : ∀ u, q_repl w0 is (w1 u) = w2 u) (hadr : ∀ u, (w2 u).map Prod.fst = w0.map Prod.fst)
    (kk : ∀ (r : Int32) (u : S) (H1 : Heap) (locs1 : List Loc), post r u → va_P D vwCl (w2 u) H1 → va_D A0 (w2 u) → va_S A0 H0 H1 locs1 → W p l e R s m args below meth c H1 locs1 cells slots Q (F0 m (pc + 3) ls (.int r :: rest))) : W p l e R s m args below meth c H locs cells slots Q (F0 m pc ls st0) := by
  have hF := va_free hD hS hA is hC
  refine va_calli hr hS (fun q _ h => hF q h) hF (fun r u t H1 locs1 ht hvm hw hB hz1 hk1 hS' => ?_)
  rw [ht] at hB
  have hP' := q_join hP hD is hC (hlen u) hk1 hB
  rw [h2 u] at hP'
  exact kk r u H1 locs1 hw hP' (q_Dadr (hadr u) hD) hS'
/-- behind a writing call without an answer -/
theorem q_callMv {S : Type} {post : S → Prop} {w1 w2 : S → va_W} {a : Array Value} (hr : va_Run p l e R s m args below meth c H locs cells slots 0 0 (F0 m pc ls st0) rest (va_Qv post (fun u t => va_P D vwCl (w1 u) t.heap) (va_A wc H.size) a) (va_A wc H.size))
    (hP : va_P D vwCl w0 H) (hD : va_D A0 w0) (hS : va_S A0 H0 H locs) (hA : ∀ q, H0.size ≤ q → A0 q) (is : List Nat) (hC : is.map (fun i => w0[i]?) = wc.map some) (hlen : ∀ u, is.length = (w1 u).length) (h2 : ∀ u, q_repl w0 is (w1 u) = w2 u) (hadr : ∀ u, (w2 u).map Prod.fst = w0.map Prod.fst)
    (kk : ∀ (u : S) (H1 : Heap) (locs1 : List Loc), post u → va_P D vwCl (w2 u) H1 → va_D A0 (w2 u) → va_S A0 H0 H1 locs1 → W p l e R s m args below meth c H1 locs1 cells slots Q (F0 m (pc + 3) ls rest)) : W p l e R s m args below meth c H locs cells slots Q (F0 m pc ls st0) := by
  have hF := va_free hD hS hA is hC
  refine va_callv hr hS (fun q _ h => hF q h) hF (fun u t H1 locs1 ht hvm hw hB hz1 hk1 hS' => ?_)
  rw [ht] at hB
  have hP' := q_join hP hD is hC (hlen u) hk1 hB
  rw [h2 u] at hP'
  exact kk u H1 locs1 hw hP' (q_Dadr (hadr u) hD) hS'
theorem q_subD {A : Nat → Prop} {ws wc : va_W} (hD : va_D A ws) (is : List Nat) (hn : va_nd is = true) (hs : is.map (fun i => ws[i]?) = wc.map some) : va_D (fun _ => True) wc := (hD.sub is hn hs).weaken (fun _ _ _ _ => trivial)
/-- cells at places, and the list of them -/
theorem q_pick {ws : va_W} : ∀ {is : List Nat} {wc : va_W}, is.map (fun i => ws[i]?) = wc.map some → is.filterMap (fun i => ws[i]?) = wc
  | [], [], _ => rfl
  | [], _ :: _, h => by cases h
  | _ :: _, [], h => by cases h
  | i :: is, x :: wc, h => by
    have h1 : ws[i]? = some x := (List.cons.inj h).1
    rw [List.filterMap_cons, h1, q_pick (is := is) (wc := wc) (List.cons.inj h).2]
theorem q_vmi {S : Type} {post : Int32 → S → Prop} {w1 w2 : S → va_W} {qc : vw_C} {fs : List Value} (F : CallFix p m c cc nL s args Ts own) (hM : Met l y ws rm (va_Pc (.ref b :: As) (q_M D tys wc H.size)) (va_Qi post (fun u t => va_P D vwCl (w1 u) t.heap) (va_A wc H.size)) 0 0 (va_A wc H.size)) (cw : CallW R s args own C index y bytes maxL ret ws rm 0 0 n)
    (hK : q_K D tys s) (hP : va_P D vwCl w0 H) (hD : va_D A0 w0) (hS : va_S A0 H0 H locs) (hA : ∀ q, H0.size ≤ q → A0 q) (is : List Nat) (hC : is.map (fun i => w0[i]?) = wc.map some) (hnd : va_nd is = true) (q0 ci : Nat) (hc : vwCl[ci]? = some qc) (hCC : qc.1 = C) (he : w0[q0]? = some (b, .inr (ci, fs))) (hn : As.length = n) (hsize : ls.size = nL) (hst : st0 = As.reverse ++ .ref b :: rest) (hW : (rest.map fun v => v.category).sum ≤ 8) (hdg : decode cc pc = .ok (.invokevirtual index, 3)) (hcs : cells + 0 ≤ R.cells ∧ slots + 0 ≤ R.slots)
    (hlen : ∀ u, is.length = (w1 u).length) (h2 : ∀ u, q_repl w0 is (w1 u) = w2 u) (hadr : ∀ u, (w2 u).map Prod.fst = w0.map Prod.fst)
    (kk : ∀ (r : Int32) (u : S) (H1 : Heap) (locs1 : List Loc), post r u → va_P D vwCl (w2 u) H1 → va_D A0 (w2 u) → va_S A0 H0 H1 locs1 → W p l e R s m args below meth c H1 locs1 cells slots Q (F0 m (pc + 3) ls (.int r :: rest))) : W p l e R s m args below meth c H locs cells slots Q (F0 m pc ls st0) :=
  q_callMi (va_runV (As := As) (rest := rest) F hM cw ⟨q_Mb, by subst hCC; exact va_recv hK.1 hP hc he, fun U hU hW => ⟨rfl, by rw [hU], by rw [hU]; exact hP.sub is (q_pick hC), hK.warm hW, q_subD hD is hnd hC⟩⟩ rfl hn hsize hst (lv_room hW) hdg hcs) hP hD hS hA is hC hlen h2 hadr kk
theorem q_vmv {S : Type} {post : S → Prop} {w1 w2 : S → va_W} {qc : vw_C} {fs : List Value} (F : CallFix p m c cc nL s args Ts own) (hM : Met l y ws rm (va_Pc (.ref b :: As) (q_M D tys wc H.size)) (va_Qv post (fun u t => va_P D vwCl (w1 u) t.heap) (va_A wc H.size)) 0 0 (va_A wc H.size)) (cw : CallW R s args own C index y bytes maxL ret ws rm 0 0 n)
    (hK : q_K D tys s) (hP : va_P D vwCl w0 H) (hD : va_D A0 w0) (hS : va_S A0 H0 H locs) (hA : ∀ q, H0.size ≤ q → A0 q) (is : List Nat) (hC : is.map (fun i => w0[i]?) = wc.map some) (hnd : va_nd is = true) (q0 ci : Nat) (hc : vwCl[ci]? = some qc) (hCC : qc.1 = C) (he : w0[q0]? = some (b, .inr (ci, fs))) (hn : As.length = n) (hsize : ls.size = nL) (hst : st0 = As.reverse ++ .ref b :: rest) (hW : (rest.map fun v => v.category).sum ≤ 8) (hdg : decode cc pc = .ok (.invokevirtual index, 3)) (hcs : cells + 0 ≤ R.cells ∧ slots + 0 ≤ R.slots)
    (hlen : ∀ u, is.length = (w1 u).length) (h2 : ∀ u, q_repl w0 is (w1 u) = w2 u) (hadr : ∀ u, (w2 u).map Prod.fst = w0.map Prod.fst)
    (kk : ∀ (u : S) (H1 : Heap) (locs1 : List Loc), post u → va_P D vwCl (w2 u) H1 → va_D A0 (w2 u) → va_S A0 H0 H1 locs1 → W p l e R s m args below meth c H1 locs1 cells slots Q (F0 m (pc + 3) ls rest)) : W p l e R s m args below meth c H locs cells slots Q (F0 m pc ls st0) :=
  q_callMv (va_runV (As := As) (rest := rest) F hM cw ⟨q_Mb, by subst hCC; exact va_recv hK.1 hP hc he, fun U hU hW => ⟨rfl, by rw [hU], by rw [hU]; exact hP.sub is (q_pick hC), hK.warm hW, q_subD hD is hnd hC⟩⟩ rfl hn hsize hst (lv_room hW) hdg hcs) hP hD hS hA is hC hlen h2 hadr kk
/-- a writing call without an answer: a private static method of a nest mate, of the own kind -/
theorem q_nmv {S : Type} {post : S → Prop} {w1 w2 : S → va_W} (F : CallFix p m c cc nL s args Ts own) (hM : Met l y ws rm (va_Pc As (q_M D tys wc H.size)) (va_Qv post (fun u t => va_P D vwCl (w1 u) t.heap) (va_A wc H.size)) 0 0 (va_A wc H.size)) (cw : va_CN R s args own index y host bytes maxL ret ws rm 0 0 n ∧ (Cond.static y).before args s = true ∧ True)
    (hK : q_K D tys s) (hP : va_P D vwCl w0 H) (hD : va_D A0 w0) (hS : va_S A0 H0 H locs) (hA : ∀ q, H0.size ≤ q → A0 q) (is : List Nat) (hC : is.map (fun i => w0[i]?) = wc.map some) (hnd : va_nd is = true) (hn : As.length = n) (hsize : ls.size = nL) (hst : st0 = As.reverse ++ rest) (hW : (rest.map fun v => v.category).sum ≤ 8) (hdg : decode cc pc = .ok (.invokestatic index, 3)) (hcs : cells + 0 ≤ R.cells ∧ slots + 0 ≤ R.slots)
    (hlen : ∀ u, is.length = (w1 u).length) (h2 : ∀ u, q_repl w0 is (w1 u) = w2 u) (hadr : ∀ u, (w2 u).map Prod.fst = w0.map Prod.fst)
    (kk : ∀ (u : S) (H1 : Heap) (locs1 : List Loc), post u → va_P D vwCl (w2 u) H1 → va_D A0 (w2 u) → va_S A0 H0 H1 locs1 → W p l e R s m args below meth c H1 locs1 cells slots Q (F0 m (pc + 3) ls rest)) : W p l e R s m args below meth c H locs cells slots Q (F0 m pc ls st0) :=
  q_callMv (va_runSN (As := As) (rest := rest) F hM cw ⟨q_Mb, fun U hU hW => ⟨rfl, by rw [hU], by rw [hU]; exact hP.sub is (q_pick hC), hK.warm hW, q_subD hD is hnd hC⟩⟩ rfl hn hsize hst (lv_room hW) hdg hcs) hP hD hS hA is hC hlen h2 hadr kk
/-- reads and writes of arrays at a place that is told as a number -/
theorem q_ald (hexec : p.tables.exec = Jvm.exec) (hb : c.code = cc) (hK : q_K D tys s) (hP : va_P D vwCl w0 H) (q0 t0 : Nat) {a : Nat} {cA : ClassId} {N k : Nat} {f : Nat → Int32} (ha : w0[q0]? = some (a, .inl (cA, N, .inl f))) (ht : tys[t0]? = some (cA, .int)) (hk : k < N) (hN : N < 2 ^ 31) (hdg : decode cc pc = .ok (.iaload, 1))
    (kk : W p l e R s m args below meth c H locs cells slots Q (F0 m (pc + 1) ls (.int (f k) :: rest))) : W p l e R s m args below meth c H locs cells slots Q (F0 m pc ls (.int (nI k) :: .ref a :: rest)) :=
  va_iald hexec hb hK.1 hP q0 t0 ha ht (vp_in_nI hk hN) hdg (by rw [nI_clamp (Nat.lt_trans hk hN)]; exact kk)
theorem q_bld (hexec : p.tables.exec = Jvm.exec) (hb : c.code = cc) (hK : q_K D tys s) (hP : va_P D vwCl w0 H) (q0 t0 : Nat) {a : Nat} {cA : ClassId} {N k : Nat} {f : Nat → Int32} (ha : w0[q0]? = some (a, .inl (cA, N, .inl f))) (ht : tys[t0]? = some (cA, .byte)) (hk : k < N) (hN : N < 2 ^ 31) (hdg : decode cc pc = .ok (.baload, 1))
    (kk : W p l e R s m args below meth c H locs cells slots Q (F0 m (pc + 1) ls (.int (f k) :: rest))) : W p l e R s m args below meth c H locs cells slots Q (F0 m pc ls (.int (nI k) :: .ref a :: rest)) :=
  va_bald hexec hb hK.1 hP q0 t0 ha ht (vp_in_nI hk hN) hdg (by rw [nI_clamp (Nat.lt_trans hk hN)]; exact kk)
theorem q_zld (hexec : p.tables.exec = Jvm.exec) (hb : c.code = cc) (hK : q_K D tys s) (hP : va_P D vwCl w0 H) (q0 t0 : Nat) {a : Nat} {cA : ClassId} {N k : Nat} {f : Nat → Int32} (ha : w0[q0]? = some (a, .inl (cA, N, .inl f))) (ht : tys[t0]? = some (cA, .boolean)) (hk : k < N) (hN : N < 2 ^ 31) (hdg : decode cc pc = .ok (.baload, 1))
    (kk : W p l e R s m args below meth c H locs cells slots Q (F0 m (pc + 1) ls (.int (f k) :: rest))) : W p l e R s m args below meth c H locs cells slots Q (F0 m pc ls (.int (nI k) :: .ref a :: rest)) :=
  va_zald hexec hb hK.1 hP q0 t0 ha ht (vp_in_nI hk hN) hdg (by rw [nI_clamp (Nat.lt_trans hk hN)]; exact kk)
theorem q_ast (hexec : p.tables.exec = Jvm.exec) (hb : c.code = cc) (hK : q_K D tys s) (hP : va_P D vwCl w0 H) (hD : va_D A0 w0) (hS : va_S A0 H0 H locs) (q0 t0 : Nat) {a : Nat} {cA : ClassId} {N k : Nat} {f : Nat → Int32} {x : Int32} (ha : w0[q0]? = some (a, .inl (cA, N, .inl f))) (ht : tys[t0]? = some (cA, .int)) (hk : k < N) (hN : N < 2 ^ 31) (hdg : decode cc pc = .ok (.iastore, 1)) {w2 : va_W} (h2 : w0.set q0 (a, .inl (cA, N, .inl (upd f k x))) = w2)
    (kk : ∀ (H1 : Heap) (locs1 : List Loc), va_P D vwCl w2 H1 → va_D A0 w2 → va_S A0 H0 H1 locs1 → W p l e R s m args below meth c H1 locs1 cells slots Q (F0 m (pc + 1) ls rest)) : W p l e R s m args below meth c H locs cells slots Q (F0 m pc ls (.int x :: .int (nI k) :: .ref a :: rest)) := by
  subst h2
  exact va_iast hexec hb hK.1 hP hD hS q0 t0 ha ht (vp_in_nI hk hN) hdg (by rw [nI_clamp (Nat.lt_trans hk hN)]; exact kk)
theorem q_bst (hexec : p.tables.exec = Jvm.exec) (hb : c.code = cc) (hK : q_K D tys s) (hP : va_P D vwCl w0 H) (hD : va_D A0 w0) (hS : va_S A0 H0 H locs) (q0 t0 : Nat) {a : Nat} {cA : ClassId} {N k : Nat} {f : Nat → Int32} {x : Int32} (ha : w0[q0]? = some (a, .inl (cA, N, .inl f))) (ht : tys[t0]? = some (cA, .byte)) (hk : k < N) (hN : N < 2 ^ 31) (hdg : decode cc pc = .ok (.bastore, 1)) {w2 : va_W} (h2 : w0.set q0 (a, .inl (cA, N, .inl (upd f k (vp_nar .byte x)))) = w2)
    (kk : ∀ (H1 : Heap) (locs1 : List Loc), va_P D vwCl w2 H1 → va_D A0 w2 → va_S A0 H0 H1 locs1 → W p l e R s m args below meth c H1 locs1 cells slots Q (F0 m (pc + 1) ls rest)) : W p l e R s m args below meth c H locs cells slots Q (F0 m pc ls (.int x :: .int (nI k) :: .ref a :: rest)) := by
  subst h2
  exact va_bast hexec hb hK.1 hP hD hS q0 t0 ha ht (vp_in_nI hk hN) hdg (by rw [nI_clamp (Nat.lt_trans hk hN)]; exact kk)
theorem q_zst (hexec : p.tables.exec = Jvm.exec) (hb : c.code = cc) (hK : q_K D tys s) (hP : va_P D vwCl w0 H) (hD : va_D A0 w0) (hS : va_S A0 H0 H locs) (q0 t0 : Nat) {a : Nat} {cA : ClassId} {N k : Nat} {f : Nat → Int32} {x : Int32} (ha : w0[q0]? = some (a, .inl (cA, N, .inl f))) (ht : tys[t0]? = some (cA, .boolean)) (hk : k < N) (hN : N < 2 ^ 31) (hdg : decode cc pc = .ok (.bastore, 1)) {w2 : va_W} (h2 : w0.set q0 (a, .inl (cA, N, .inl (upd f k (vp_nar .boolean x)))) = w2)
    (kk : ∀ (H1 : Heap) (locs1 : List Loc), va_P D vwCl w2 H1 → va_D A0 w2 → va_S A0 H0 H1 locs1 → W p l e R s m args below meth c H1 locs1 cells slots Q (F0 m (pc + 1) ls rest)) : W p l e R s m args below meth c H locs cells slots Q (F0 m pc ls (.int x :: .int (nI k) :: .ref a :: rest)) := by
  subst h2
  exact va_zast hexec hb hK.1 hP hD hS q0 t0 ha ht (vp_in_nI hk hN) hdg (by rw [nI_clamp (Nat.lt_trans hk hN)]; exact kk)
theorem q_put (hexec : p.tables.exec = Jvm.exec) (hb : c.code = cc) {ref CC : String} {T : u_T} {N ci : Nat} (hts : ∀ w ∈ Ts, w.before args s = true) (hin : ∀ w ∈ u_ws CC T N, w ∈ Ts) (ty0 : Nat → FieldType) (hty : ∀ k, k < N → parseFieldDescriptor (T k).2.2.1 = some (ty0 k)) (hnm : ∀ a, a < N → ∀ b, b < N → a ≠ b → (T a).2.1 ≠ (T b).2.1) (hown : s.vm.findClass own = some m.cls) (hK : q_K D tys s) (hP : va_P D vwCl w0 H) (hD : va_D A0 w0) (hS0 : va_S A0 H0 H locs) (q0 : Nat) {a : Nat} {fs : List Value} (he : w0[q0]? = some (a, .inr (ci, fs))) (hc : vwCl[ci]? = some (CC, T, N)) (k : Nat) (hk : k < N) (hlink : (Cond.fieldLink own index ref (T k).2.1 (T k).2.2.1).before args s = true) (href : ref = (T k).1) (hfin : (T k).2.2.2 = false) (hty1 : ty0 k = .int) (hkl : k < fs.length) {v : Int32}
    (hdg : decode cc pc = .ok (.putfield index, 3)) {w2 : va_W} (h2 : w0.set q0 (a, .inr (ci, fs.set k (.int v))) = w2) (kk : ∀ (H1 : Heap) (locs1 : List Loc), va_P D vwCl w2 H1 → va_D A0 w2 → va_S A0 H0 H1 locs1 → W p l e R s m args below meth c H1 locs1 cells slots Q (F0 m (pc + 3) ls rest)) : W p l e R s m args below meth c H locs cells slots Q (F0 m pc ls (.int v :: .ref a :: rest)) := by
  subst h2
  subst href
  exact va_put hexec hb hts hin ty0 hty hnm hown hK.1 hP hD hS0 q0 he hc k hk hlink (fun _ h => h) hfin (by rw [hty k hk, hty1]) rfl rfl hkl hdg kk
theorem q_get (hexec : p.tables.exec = Jvm.exec) (hb : c.code = cc) {ref CC : String} {T : u_T} {N ci : Nat} (hts : ∀ w ∈ Ts, w.before args s = true) (hin : ∀ w ∈ u_ws CC T N, w ∈ Ts) (hown : s.vm.findClass own = some m.cls) (hK : q_K D tys s) (hP : va_P D vwCl w0 H) (q0 : Nat) {a : Nat} {fs : List Value} (he : w0[q0]? = some (a, .inr (ci, fs))) (hc : vwCl[ci]? = some (CC, T, N)) (k : Nat) (hk : k < N) (hlink : (Cond.fieldLink own index ref (T k).2.1 (T k).2.2.1).before args s = true) (href : ref = (T k).1) {v : Value} (hv : fs[k]? = some v) (hdg : decode cc pc = .ok (.getfield index, 3))
    (kk : W p l e R s m args below meth c H locs cells slots Q (F0 m (pc + 3) ls (v :: rest))) : W p l e R s m args below meth c H locs cells slots Q (F0 m pc ls (.ref a :: rest)) := by
  subst href
  exact va_get hexec hb hts hin hown hK.1 hP q0 he hc k hk hlink (fun _ h => h) hv hdg kk
theorem q_alen (hexec : p.tables.exec = Jvm.exec) (hb : c.code = cc) (hK : q_K D tys s) (hP : va_P D vwCl w0 H) (q0 t0 : Nat) {a : Nat} {cA : ClassId} {x : vp_A} (ha : w0[q0]? = some (a, .inl (cA, x))) {ty : FieldType} (ht : tys[t0]? = some (cA, ty)) (hdg : decode cc pc = .ok (.arraylength, 1))
    (kk : W p l e R s m args below meth c H locs cells slots Q (F0 m (pc + 1) ls (.int (nI x.1) :: rest))) : W p l e R s m args below meth c H locs cells slots Q (F0 m pc ls (.ref a :: rest)) :=
  va_alen hexec hb hK.1 hP q0 t0 ha ht rfl hdg kk
/-- a pure method's end -/
theorem q_zret {post : Int32 → Prop} {v : Int32} {ty : FieldType} (hexec : p.tables.exec = Jvm.exec) (hb : c.code = cc) (hr : meth.sig.returnType = some ty) (hlocks : meth.locks = false) (hn : narrow ty (.int v) = .int v) (hp : post v) (hdg : decode cc pc = .ok (.ireturn, 1)) : W p l e R s m args below meth c s.heap [] cells slots (MQ below (vp_Si post) args s cells slots (fun _ => False)) (F0 m pc ls [.int v]) :=
  W.zret hexec hb hr hn (fun t ht _ => ⟨v, rfl, hp, ht⟩) (fun _ h => by cases h) hdg hlocks
/-- a writing method's end -/
theorem q_mret {S : Type} {post : Int32 → S → Prop} {w1 : S → va_W} {v : Int32} {ty : FieldType} {A : Nat → Prop} (u : S) (hexec : p.tables.exec = Jvm.exec) (hb : c.code = cc) (hr : meth.sig.returnType = some ty) (hlocks : meth.locks = false) (hn : narrow ty (.int v) = .int v) (hP : va_P D vwCl (w1 u) H) (hS : va_S A s.heap H locs) (hdg : decode cc pc = .ok (.ireturn, 1)) (hp : post v u) : W p l e R s m args below meth c H locs cells slots (MQ below (va_Qi post (fun u t => va_P D vwCl (w1 u) t.heap) A) args s cells slots A) (F0 m pc ls [.int v]) :=
  W.zret hexec hb hr hn (fun t ht _ => ⟨⟨v, u, rfl, hp, by show va_P D vwCl (w1 u) t.heap; rw [ht]; exact hP⟩, hS.F ht⟩) hS.2.2 hdg hlocks
theorem q_mretv {S : Type} {post : S → Prop} {w1 : S → va_W} {A : Nat → Prop} (u : S) (hexec : p.tables.exec = Jvm.exec) (hb : c.code = cc) (hr : meth.sig.returnType = none) (hlocks : meth.locks = false) (hP : va_P D vwCl (w1 u) H) (hS : va_S A s.heap H locs) (hdg : decode cc pc = .ok (.return_, 1)) (hp : post u) : W p l e R s m args below meth c H locs cells slots (MQ below (va_Qv post (fun u t => va_P D vwCl (w1 u) t.heap) A) args s cells slots A) (F0 m pc ls []) :=
  W.vret hexec hb hr (fun t ht _ => ⟨⟨u, rfl, hp, by show va_P D vwCl (w1 u) t.heap; rw [ht]; exact hP⟩, hS.F ht⟩) hS.2.2 hdg hlocks
end QT
def bI (b : Bool) : Int32 := if b then 1 else 0
theorem q_nar0 : narrow .boolean (.int (nI 0)) = .int (nI 0) := rfl
theorem q_nar1 : narrow .boolean (.int (nI 1)) = .int (nI 1) := rfl
theorem q_narB (b : Bool) : narrow .boolean (.int (bI b)) = .int (bI b) := by cases b <;> rfl
end
section
/-! rows of one instruction, the value that they push in a form of ours -/
theorem q_mul (a b : Nat) : nI a * nI b = nI (a * b) := (Int32.ofNat_mul a b).symm
theorem q_and (a b : Nat) : nI a &&& nI b = nI (a &&& b) := by
  apply Int32.toBitVec_inj.1
  show BitVec.ofNat 32 a &&& BitVec.ofNat 32 b = BitVec.ofNat 32 (a &&& b)
  apply BitVec.eq_of_getLsbD_eq
  intro i hi
  simp [hi]
theorem q_or (a b : Nat) : nI a ||| nI b = nI (a ||| b) := by
  apply Int32.toBitVec_inj.1
  show BitVec.ofNat 32 a ||| BitVec.ofNat 32 b = BitVec.ofNat 32 (a ||| b)
  apply BitVec.eq_of_getLsbD_eq
  intro i hi
  simp [hi]
theorem q_xor (a b : Nat) : nI a ^^^ nI b = nI (a ^^^ b) := by
  apply Int32.toBitVec_inj.1
  show BitVec.ofNat 32 a ^^^ BitVec.ofNat 32 b = BitVec.ofNat 32 (a ^^^ b)
  apply BitVec.eq_of_getLsbD_eq
  intro i hi
  simp [hi]
theorem q_sub {a b : Nat} (h : b ≤ a) : nI a - nI b = nI (a - b) := by
  have e : nI a = nI (a - b) + nI b := by rw [nI_add]; congr 1; omega
  rw [e]
  apply Int32.toBitVec_inj.1
  simp
theorem q_shl1 {i : Nat} (h : i < 31) : nI 1 <<< (nI i &&& 31) = nI (2 ^ i) := by
  have : ∀ i, i < 31 → nI 1 <<< (nI i &&& 31) = nI (2 ^ i) := by decide +kernel
  exact this i h
theorem q_tsw {G : Prop} {x : Int32} {lo hi : Int} (h1 : (x.toInt < lo ∨ hi < x.toInt) → G) (h2 : ¬ x.toInt < lo → ¬ hi < x.toInt → G) : G := by
  by_cases a : x.toInt < lo
  · exact h1 (Or.inl a)
  · by_cases b : hi < x.toInt
    · exact h1 (Or.inr b)
    · exact h2 a b
section QR
variable {p : Program} {l : Launch} {e : Env} {R : Room} {s : State} {m : MethodId} {args : Array Value} {below : List Frame} {meth : Method} {c : Code} {H : Heap} {locs : List Loc} {cells slots : Nat} {Q : State → Prop}
variable {cc : ByteArray} {pc : Nat} {ls : Array Slot} {rest : List Value} {D : va_G} {tys : List (ClassId × FieldType)} {w0 : va_W}
theorem q_iadd (hexec : p.tables.exec = Jvm.exec) (hb : c.code = cc) {x : Int32} {y : Int32} {v : Int32} (hdg : decode cc pc = .ok (.iadd, 1)) (hv : x + y = v) (k : W p l e R s m args below meth c H locs cells slots Q (F0 m (pc + 1) ls (.int v :: rest))) : W p l e R s m args below meth c H locs cells slots Q (F0 m pc ls (.int y :: .int x :: rest)) := by subst hv; exact lv_iadd hexec hb hdg k
theorem q_isub (hexec : p.tables.exec = Jvm.exec) (hb : c.code = cc) {x : Int32} {y : Int32} {v : Int32} (hdg : decode cc pc = .ok (.isub, 1)) (hv : x - y = v) (k : W p l e R s m args below meth c H locs cells slots Q (F0 m (pc + 1) ls (.int v :: rest))) : W p l e R s m args below meth c H locs cells slots Q (F0 m pc ls (.int y :: .int x :: rest)) := by subst hv; exact lv_isub hexec hb hdg k
theorem q_imul (hexec : p.tables.exec = Jvm.exec) (hb : c.code = cc) {x : Int32} {y : Int32} {v : Int32} (hdg : decode cc pc = .ok (.imul, 1)) (hv : x * y = v) (k : W p l e R s m args below meth c H locs cells slots Q (F0 m (pc + 1) ls (.int v :: rest))) : W p l e R s m args below meth c H locs cells slots Q (F0 m pc ls (.int y :: .int x :: rest)) := by subst hv; exact lv_imul hexec hb hdg k
theorem q_iand (hexec : p.tables.exec = Jvm.exec) (hb : c.code = cc) {x : Int32} {y : Int32} {v : Int32} (hdg : decode cc pc = .ok (.iand, 1)) (hv : x &&& y = v) (k : W p l e R s m args below meth c H locs cells slots Q (F0 m (pc + 1) ls (.int v :: rest))) : W p l e R s m args below meth c H locs cells slots Q (F0 m pc ls (.int y :: .int x :: rest)) := by subst hv; exact lv_iand hexec hb hdg k
theorem q_ior (hexec : p.tables.exec = Jvm.exec) (hb : c.code = cc) {x : Int32} {y : Int32} {v : Int32} (hdg : decode cc pc = .ok (.ior, 1)) (hv : x ||| y = v) (k : W p l e R s m args below meth c H locs cells slots Q (F0 m (pc + 1) ls (.int v :: rest))) : W p l e R s m args below meth c H locs cells slots Q (F0 m pc ls (.int y :: .int x :: rest)) := by subst hv; exact lv_ior hexec hb hdg k
theorem q_ixor (hexec : p.tables.exec = Jvm.exec) (hb : c.code = cc) {x : Int32} {y : Int32} {v : Int32} (hdg : decode cc pc = .ok (.ixor, 1)) (hv : x ^^^ y = v) (k : W p l e R s m args below meth c H locs cells slots Q (F0 m (pc + 1) ls (.int v :: rest))) : W p l e R s m args below meth c H locs cells slots Q (F0 m pc ls (.int y :: .int x :: rest)) := by subst hv; exact lv_ixor hexec hb hdg k
theorem q_ishl (hexec : p.tables.exec = Jvm.exec) (hb : c.code = cc) {x : Int32} {y : Int32} {v : Int32} (hdg : decode cc pc = .ok (.ishl, 1)) (hv : x <<< (y &&& 31) = v) (k : W p l e R s m args below meth c H locs cells slots Q (F0 m (pc + 1) ls (.int v :: rest))) : W p l e R s m args below meth c H locs cells slots Q (F0 m pc ls (.int y :: .int x :: rest)) := by subst hv; exact lv_ishl hexec hb hdg k
theorem q_ishr (hexec : p.tables.exec = Jvm.exec) (hb : c.code = cc) {x : Int32} {y : Int32} {v : Int32} (hdg : decode cc pc = .ok (.ishr, 1)) (hv : x >>> (y &&& 31) = v) (k : W p l e R s m args below meth c H locs cells slots Q (F0 m (pc + 1) ls (.int v :: rest))) : W p l e R s m args below meth c H locs cells slots Q (F0 m pc ls (.int y :: .int x :: rest)) := by subst hv; exact lv_ishr hexec hb hdg k
theorem q_iushr (hexec : p.tables.exec = Jvm.exec) (hb : c.code = cc) {x : Int32} {y : Int32} {v : Int32} (hdg : decode cc pc = .ok (.iushr, 1)) (hv : (x.toUInt32 >>> (y.toUInt32 &&& Int32.toUInt32 31)).toInt32 = v) (k : W p l e R s m args below meth c H locs cells slots Q (F0 m (pc + 1) ls (.int v :: rest))) : W p l e R s m args below meth c H locs cells slots Q (F0 m pc ls (.int y :: .int x :: rest)) := lv_iushr hexec hb hdg hv k
theorem q_irem (hexec : p.tables.exec = Jvm.exec) (hb : c.code = cc) {x : Int32} {y : Int32} {v : Int32} (hdg : decode cc pc = .ok (.irem, 1)) (hne : ¬ y = 0) (hv : x - x / y * y = v) (k : W p l e R s m args below meth c H locs cells slots Q (F0 m (pc + 1) ls (.int v :: rest))) : W p l e R s m args below meth c H locs cells slots Q (F0 m pc ls (.int y :: .int x :: rest)) := by subst hv; exact lv_irem hexec hb hdg hne k
theorem q_idiv (hexec : p.tables.exec = Jvm.exec) (hb : c.code = cc) {x : Int32} {y : Int32} {v : Int32} (hdg : decode cc pc = .ok (.idiv, 1)) (hne : ¬ y = 0) (hv : x / y = v) (k : W p l e R s m args below meth c H locs cells slots Q (F0 m (pc + 1) ls (.int v :: rest))) : W p l e R s m args below meth c H locs cells slots Q (F0 m pc ls (.int y :: .int x :: rest)) := by subst hv; exact lv_idiv hexec hb hdg hne k
theorem q_ladd (hexec : p.tables.exec = Jvm.exec) (hb : c.code = cc) {x : Int64} {y : Int64} {v : Int64} (hdg : decode cc pc = .ok (.ladd, 1)) (hv : x + y = v) (k : W p l e R s m args below meth c H locs cells slots Q (F0 m (pc + 1) ls (.long v :: rest))) : W p l e R s m args below meth c H locs cells slots Q (F0 m pc ls (.long y :: .long x :: rest)) := by subst hv; exact lv_ladd hexec hb hdg k
theorem q_lsub (hexec : p.tables.exec = Jvm.exec) (hb : c.code = cc) {x : Int64} {y : Int64} {v : Int64} (hdg : decode cc pc = .ok (.lsub, 1)) (hv : x - y = v) (k : W p l e R s m args below meth c H locs cells slots Q (F0 m (pc + 1) ls (.long v :: rest))) : W p l e R s m args below meth c H locs cells slots Q (F0 m pc ls (.long y :: .long x :: rest)) := by subst hv; exact lv_lsub hexec hb hdg k
theorem q_lmul (hexec : p.tables.exec = Jvm.exec) (hb : c.code = cc) {x : Int64} {y : Int64} {v : Int64} (hdg : decode cc pc = .ok (.lmul, 1)) (hv : x * y = v) (k : W p l e R s m args below meth c H locs cells slots Q (F0 m (pc + 1) ls (.long v :: rest))) : W p l e R s m args below meth c H locs cells slots Q (F0 m pc ls (.long y :: .long x :: rest)) := by subst hv; exact lv_lmul hexec hb hdg k
theorem q_land (hexec : p.tables.exec = Jvm.exec) (hb : c.code = cc) {x : Int64} {y : Int64} {v : Int64} (hdg : decode cc pc = .ok (.land, 1)) (hv : x &&& y = v) (k : W p l e R s m args below meth c H locs cells slots Q (F0 m (pc + 1) ls (.long v :: rest))) : W p l e R s m args below meth c H locs cells slots Q (F0 m pc ls (.long y :: .long x :: rest)) := by subst hv; exact lv_land hexec hb hdg k
theorem q_lor (hexec : p.tables.exec = Jvm.exec) (hb : c.code = cc) {x : Int64} {y : Int64} {v : Int64} (hdg : decode cc pc = .ok (.lor, 1)) (hv : x ||| y = v) (k : W p l e R s m args below meth c H locs cells slots Q (F0 m (pc + 1) ls (.long v :: rest))) : W p l e R s m args below meth c H locs cells slots Q (F0 m pc ls (.long y :: .long x :: rest)) := by subst hv; exact lv_lor hexec hb hdg k
theorem q_lrem (hexec : p.tables.exec = Jvm.exec) (hb : c.code = cc) {x : Int64} {y : Int64} {v : Int64} (hdg : decode cc pc = .ok (.lrem, 1)) (hne : ¬ y = 0) (hv : x - x / y * y = v) (k : W p l e R s m args below meth c H locs cells slots Q (F0 m (pc + 1) ls (.long v :: rest))) : W p l e R s m args below meth c H locs cells slots Q (F0 m pc ls (.long y :: .long x :: rest)) := by subst hv; exact lv_lrem hexec hb hdg hne k
theorem q_lushr (hexec : p.tables.exec = Jvm.exec) (hb : c.code = cc) {x : Int64} {y : Int32} {v : Int64} (hdg : decode cc pc = .ok (.lushr, 1)) (hv : (x.toUInt64 >>> (y.toInt64.toUInt64 &&& Int64.toUInt64 63)).toInt64 = v) (k : W p l e R s m args below meth c H locs cells slots Q (F0 m (pc + 1) ls (.long v :: rest))) : W p l e R s m args below meth c H locs cells slots Q (F0 m pc ls (.int y :: .long x :: rest)) := lv_lushr hexec hb hdg hv k
theorem q_lshr (hexec : p.tables.exec = Jvm.exec) (hb : c.code = cc) {x : Int64} {y : Int32} {v : Int64} (hdg : decode cc pc = .ok (.lshr, 1)) (hv : x >>> (y.toInt64 &&& 63) = v) (k : W p l e R s m args below meth c H locs cells slots Q (F0 m (pc + 1) ls (.long v :: rest))) : W p l e R s m args below meth c H locs cells slots Q (F0 m pc ls (.int y :: .long x :: rest)) := lv_lshr hexec hb hdg hv k
theorem q_lshl (hexec : p.tables.exec = Jvm.exec) (hb : c.code = cc) {x : Int64} {y : Int32} {v : Int64} (hdg : decode cc pc = .ok (.lshl, 1)) (hv : x <<< (y.toInt64 &&& 63) = v) (k : W p l e R s m args below meth c H locs cells slots Q (F0 m (pc + 1) ls (.long v :: rest))) : W p l e R s m args below meth c H locs cells slots Q (F0 m pc ls (.int y :: .long x :: rest)) := lv_lshl hexec hb hdg hv k
theorem q_ineg (hexec : p.tables.exec = Jvm.exec) (hb : c.code = cc) {y v : Int32} (hdg : decode cc pc = .ok (.ineg, 1)) (hv : -y = v) (k : W p l e R s m args below meth c H locs cells slots Q (F0 m (pc + 1) ls (.int v :: rest))) : W p l e R s m args below meth c H locs cells slots Q (F0 m pc ls (.int y :: rest)) := by subst hv; exact lv_ineg hexec hb hdg k
theorem q_neq (hexec : p.tables.exec = Jvm.exec) (hb : c.code = cc) {a b : Nat} {off : Int} {tgt : Nat} (hdg : decode cc pc = .ok (.if_icmp .eq off, 3)) (ht : (pc : Int) + off = (tgt : Int)) (ha : a < 2147483648) (hb2 : b < 2147483648) (kt : a = b → W p l e R s m args below meth c H locs cells slots Q (F0 m tgt ls rest)) (kf : ¬ a = b → W p l e R s m args below meth c H locs cells slots Q (F0 m (pc + 3) ls rest)) : W p l e R s m args below meth c H locs cells slots Q (F0 m pc ls (.int (nI b) :: .int (nI a) :: rest)) := lv_icmp_eq hexec hb hdg ht (fun h => kt ((nI_eq ha hb2).mp h)) (fun h => kf (fun z => h ((nI_eq ha hb2).mpr z)))
theorem q_nne (hexec : p.tables.exec = Jvm.exec) (hb : c.code = cc) {a b : Nat} {off : Int} {tgt : Nat} (hdg : decode cc pc = .ok (.if_icmp .ne off, 3)) (ht : (pc : Int) + off = (tgt : Int)) (ha : a < 2147483648) (hb2 : b < 2147483648) (kt : ¬ a = b → W p l e R s m args below meth c H locs cells slots Q (F0 m tgt ls rest)) (kf : a = b → W p l e R s m args below meth c H locs cells slots Q (F0 m (pc + 3) ls rest)) : W p l e R s m args below meth c H locs cells slots Q (F0 m pc ls (.int (nI b) :: .int (nI a) :: rest)) := lv_icmp_ne hexec hb hdg ht (fun h => kt (fun z => h (by rw [z]))) (fun h => kf ((nI_eq ha hb2).mp h))
theorem q_nlt (hexec : p.tables.exec = Jvm.exec) (hb : c.code = cc) {a b : Nat} {off : Int} {tgt : Nat} (hdg : decode cc pc = .ok (.if_icmp .lt off, 3)) (ht : (pc : Int) + off = (tgt : Int)) (ha : a < 2147483648) (hb2 : b < 2147483648) (kt : a < b → W p l e R s m args below meth c H locs cells slots Q (F0 m tgt ls rest)) (kf : ¬ a < b → W p l e R s m args below meth c H locs cells slots Q (F0 m (pc + 3) ls rest)) : W p l e R s m args below meth c H locs cells slots Q (F0 m pc ls (.int (nI b) :: .int (nI a) :: rest)) := lv_icmp_lt hexec hb hdg ht (fun h => kt ((nI_ltI ha hb2).mp h)) (fun h => kf (fun z => h ((nI_ltI ha hb2).mpr z)))
theorem q_nge (hexec : p.tables.exec = Jvm.exec) (hb : c.code = cc) {a b : Nat} {off : Int} {tgt : Nat} (hdg : decode cc pc = .ok (.if_icmp .ge off, 3)) (ht : (pc : Int) + off = (tgt : Int)) (ha : a < 2147483648) (hb2 : b < 2147483648) (kt : b ≤ a → W p l e R s m args below meth c H locs cells slots Q (F0 m tgt ls rest)) (kf : ¬ b ≤ a → W p l e R s m args below meth c H locs cells slots Q (F0 m (pc + 3) ls rest)) : W p l e R s m args below meth c H locs cells slots Q (F0 m pc ls (.int (nI b) :: .int (nI a) :: rest)) := lv_icmp_ge hexec hb hdg ht (fun h => kt ((nI_leI hb2 ha).mp h)) (fun h => kf (fun z => h ((nI_leI hb2 ha).mpr z)))
theorem q_ngt (hexec : p.tables.exec = Jvm.exec) (hb : c.code = cc) {a b : Nat} {off : Int} {tgt : Nat} (hdg : decode cc pc = .ok (.if_icmp .gt off, 3)) (ht : (pc : Int) + off = (tgt : Int)) (ha : a < 2147483648) (hb2 : b < 2147483648) (kt : b < a → W p l e R s m args below meth c H locs cells slots Q (F0 m tgt ls rest)) (kf : ¬ b < a → W p l e R s m args below meth c H locs cells slots Q (F0 m (pc + 3) ls rest)) : W p l e R s m args below meth c H locs cells slots Q (F0 m pc ls (.int (nI b) :: .int (nI a) :: rest)) := lv_icmp_gt hexec hb hdg ht (fun h => kt ((nI_ltI hb2 ha).mp h)) (fun h => kf (fun z => h ((nI_ltI hb2 ha).mpr z)))
theorem q_nle (hexec : p.tables.exec = Jvm.exec) (hb : c.code = cc) {a b : Nat} {off : Int} {tgt : Nat} (hdg : decode cc pc = .ok (.if_icmp .le off, 3)) (ht : (pc : Int) + off = (tgt : Int)) (ha : a < 2147483648) (hb2 : b < 2147483648) (kt : a ≤ b → W p l e R s m args below meth c H locs cells slots Q (F0 m tgt ls rest)) (kf : ¬ a ≤ b → W p l e R s m args below meth c H locs cells slots Q (F0 m (pc + 3) ls rest)) : W p l e R s m args below meth c H locs cells slots Q (F0 m pc ls (.int (nI b) :: .int (nI a) :: rest)) := lv_icmp_le hexec hb hdg ht (fun h => kt ((nI_leI ha hb2).mp h)) (fun h => kf (fun z => h ((nI_leI ha hb2).mpr z)))
theorem q_zeq (hexec : p.tables.exec = Jvm.exec) (hb : c.code = cc) {a : Nat} {off : Int} {tgt : Nat} (hdg : decode cc pc = .ok (.ifCond .eq off, 3)) (ht : (pc : Int) + off = (tgt : Int)) (ha : a < 2147483648) (kt : a = 0 → W p l e R s m args below meth c H locs cells slots Q (F0 m tgt ls rest)) (kf : ¬ a = 0 → W p l e R s m args below meth c H locs cells slots Q (F0 m (pc + 3) ls rest)) : W p l e R s m args below meth c H locs cells slots Q (F0 m pc ls (.int (nI a) :: rest)) := lv_if_eq hexec hb hdg ht (fun h => kt ((nI_eq ha (b := 0) (by decide)).mp h)) (fun h => kf (fun z => h ((nI_eq ha (b := 0) (by decide)).mpr z)))
theorem q_zne (hexec : p.tables.exec = Jvm.exec) (hb : c.code = cc) {a : Nat} {off : Int} {tgt : Nat} (hdg : decode cc pc = .ok (.ifCond .ne off, 3)) (ht : (pc : Int) + off = (tgt : Int)) (ha : a < 2147483648) (kt : ¬ a = 0 → W p l e R s m args below meth c H locs cells slots Q (F0 m tgt ls rest)) (kf : a = 0 → W p l e R s m args below meth c H locs cells slots Q (F0 m (pc + 3) ls rest)) : W p l e R s m args below meth c H locs cells slots Q (F0 m pc ls (.int (nI a) :: rest)) := lv_if_ne hexec hb hdg ht (fun h => kt (fun z => h (by rw [z]; rfl))) (fun h => kf ((nI_eq ha (b := 0) (by decide)).mp h))
theorem q_zlt (hexec : p.tables.exec = Jvm.exec) (hb : c.code = cc) {a : Nat} {off : Int} {tgt : Nat} (hdg : decode cc pc = .ok (.ifCond .lt off, 3)) (ht : (pc : Int) + off = (tgt : Int)) (ha : a < 2147483648) (kt : a < 0 → W p l e R s m args below meth c H locs cells slots Q (F0 m tgt ls rest)) (kf : ¬ a < 0 → W p l e R s m args below meth c H locs cells slots Q (F0 m (pc + 3) ls rest)) : W p l e R s m args below meth c H locs cells slots Q (F0 m pc ls (.int (nI a) :: rest)) := lv_if_lt hexec hb hdg ht (fun h => kt ((nI_ltI ha (b := 0) (by decide)).mp h)) (fun h => kf (fun z => h ((nI_ltI ha (b := 0) (by decide)).mpr z)))
theorem q_zge (hexec : p.tables.exec = Jvm.exec) (hb : c.code = cc) {a : Nat} {off : Int} {tgt : Nat} (hdg : decode cc pc = .ok (.ifCond .ge off, 3)) (ht : (pc : Int) + off = (tgt : Int)) (ha : a < 2147483648) (kt : 0 ≤ a → W p l e R s m args below meth c H locs cells slots Q (F0 m tgt ls rest)) (kf : ¬ 0 ≤ a → W p l e R s m args below meth c H locs cells slots Q (F0 m (pc + 3) ls rest)) : W p l e R s m args below meth c H locs cells slots Q (F0 m pc ls (.int (nI a) :: rest)) := lv_if_ge hexec hb hdg ht (fun h => kt ((nI_leI (a := 0) (by decide) ha).mp h)) (fun h => kf (fun z => h ((nI_leI (a := 0) (by decide) ha).mpr z)))
theorem q_zgt (hexec : p.tables.exec = Jvm.exec) (hb : c.code = cc) {a : Nat} {off : Int} {tgt : Nat} (hdg : decode cc pc = .ok (.ifCond .gt off, 3)) (ht : (pc : Int) + off = (tgt : Int)) (ha : a < 2147483648) (kt : 0 < a → W p l e R s m args below meth c H locs cells slots Q (F0 m tgt ls rest)) (kf : ¬ 0 < a → W p l e R s m args below meth c H locs cells slots Q (F0 m (pc + 3) ls rest)) : W p l e R s m args below meth c H locs cells slots Q (F0 m pc ls (.int (nI a) :: rest)) := lv_if_gt hexec hb hdg ht (fun h => kt ((nI_ltI (a := 0) (by decide) ha).mp h)) (fun h => kf (fun z => h ((nI_ltI (a := 0) (by decide) ha).mpr z)))
theorem q_zle (hexec : p.tables.exec = Jvm.exec) (hb : c.code = cc) {a : Nat} {off : Int} {tgt : Nat} (hdg : decode cc pc = .ok (.ifCond .le off, 3)) (ht : (pc : Int) + off = (tgt : Int)) (ha : a < 2147483648) (kt : a ≤ 0 → W p l e R s m args below meth c H locs cells slots Q (F0 m tgt ls rest)) (kf : ¬ a ≤ 0 → W p l e R s m args below meth c H locs cells slots Q (F0 m (pc + 3) ls rest)) : W p l e R s m args below meth c H locs cells slots Q (F0 m pc ls (.int (nI a) :: rest)) := lv_if_le hexec hb hdg ht (fun h => kt ((nI_leI ha (b := 0) (by decide)).mp h)) (fun h => kf (fun z => h ((nI_leI ha (b := 0) (by decide)).mpr z)))
theorem bI_0 {b : Bool} : bI b = 0 ↔ b = false := by cases b <;> decide
theorem q_beq (hexec : p.tables.exec = Jvm.exec) (hb : c.code = cc) {b : Bool} {off : Int} {tgt : Nat} (hdg : decode cc pc = .ok (.ifCond .eq off, 3)) (ht : (pc : Int) + off = (tgt : Int)) (kt : b = false → W p l e R s m args below meth c H locs cells slots Q (F0 m tgt ls rest)) (kf : b = true → W p l e R s m args below meth c H locs cells slots Q (F0 m (pc + 3) ls rest)) : W p l e R s m args below meth c H locs cells slots Q (F0 m pc ls (.int (bI b) :: rest)) := lv_if_eq hexec hb hdg ht (fun h => kt (bI_0.mp h)) (fun h => kf (by cases b with | true => rfl | false => exact absurd rfl h))
theorem q_bne (hexec : p.tables.exec = Jvm.exec) (hb : c.code = cc) {b : Bool} {off : Int} {tgt : Nat} (hdg : decode cc pc = .ok (.ifCond .ne off, 3)) (ht : (pc : Int) + off = (tgt : Int)) (kt : b = true → W p l e R s m args below meth c H locs cells slots Q (F0 m tgt ls rest)) (kf : b = false → W p l e R s m args below meth c H locs cells slots Q (F0 m (pc + 3) ls rest)) : W p l e R s m args below meth c H locs cells slots Q (F0 m pc ls (.int (bI b) :: rest)) := lv_if_ne hexec hb hdg ht (fun h => kt (by cases b with | true => rfl | false => exact absurd rfl h)) (fun h => kf (bI_0.mp h))
theorem q_aldv (hexec : p.tables.exec = Jvm.exec) (hb : c.code = cc) (hK : q_K D tys s) (hP : va_P D vwCl w0 H) (q0 t0 : Nat) {a : Nat} {cA : ClassId} {N k : Nat} {f : Nat → Int32} {v : Int32} (ha : w0[q0]? = some (a, .inl (cA, N, .inl f))) (ht : tys[t0]? = some (cA, .int)) (hk : k < N) (hN : N < 2 ^ 31) (hdg : decode cc pc = .ok (.iaload, 1)) (hv : f k = v) (kk : W p l e R s m args below meth c H locs cells slots Q (F0 m (pc + 1) ls (.int v :: rest))) : W p l e R s m args below meth c H locs cells slots Q (F0 m pc ls (.int (nI k) :: .ref a :: rest)) := by subst hv; exact q_ald hexec hb hK hP q0 t0 ha ht hk hN hdg kk
theorem q_bldv (hexec : p.tables.exec = Jvm.exec) (hb : c.code = cc) (hK : q_K D tys s) (hP : va_P D vwCl w0 H) (q0 t0 : Nat) {a : Nat} {cA : ClassId} {N k : Nat} {f : Nat → Int32} {v : Int32} (ha : w0[q0]? = some (a, .inl (cA, N, .inl f))) (ht : tys[t0]? = some (cA, .byte)) (hk : k < N) (hN : N < 2 ^ 31) (hdg : decode cc pc = .ok (.baload, 1)) (hv : f k = v) (kk : W p l e R s m args below meth c H locs cells slots Q (F0 m (pc + 1) ls (.int v :: rest))) : W p l e R s m args below meth c H locs cells slots Q (F0 m pc ls (.int (nI k) :: .ref a :: rest)) := by subst hv; exact q_bld hexec hb hK hP q0 t0 ha ht hk hN hdg kk
theorem q_zldv (hexec : p.tables.exec = Jvm.exec) (hb : c.code = cc) (hK : q_K D tys s) (hP : va_P D vwCl w0 H) (q0 t0 : Nat) {a : Nat} {cA : ClassId} {N k : Nat} {f : Nat → Int32} {v : Int32} (ha : w0[q0]? = some (a, .inl (cA, N, .inl f))) (ht : tys[t0]? = some (cA, .boolean)) (hk : k < N) (hN : N < 2 ^ 31) (hdg : decode cc pc = .ok (.baload, 1)) (hv : f k = v) (kk : W p l e R s m args below meth c H locs cells slots Q (F0 m (pc + 1) ls (.int v :: rest))) : W p l e R s m args below meth c H locs cells slots Q (F0 m pc ls (.int (nI k) :: .ref a :: rest)) := by subst hv; exact q_zld hexec hb hK hP q0 t0 ha ht hk hN hdg kk
end QR
end
section
/-! what the town says, in numbers: T i k are the traits of PERSON i (0 kind, 1 what it is worth, 2 C, 3 household, 4 pennies at first), n how many there are, a set of PERSONS is a number -/
def pop8 (x : Nat) : Nat := (x.testBit 0).toNat + (x.testBit 1).toNat + (x.testBit 2).toNat + (x.testBit 3).toNat + (x.testBit 4).toNat + (x.testBit 5).toNat + (x.testBit 6).toNat + (x.testBit 7).toNat
def q_hm (T : Nat → Nat → Nat) (S : Nat) : Nat → Nat
  | 0 => 0
  | i + 1 => if S.testBit i then q_hm T S i ||| 2 ^ T i 3 else q_hm T S i
def q_wo (x h : Nat) : Nat := x &&& (255 ^^^ 2 ^ h)
def q_oth (T : Nat → Nat → Nat) (n i S : Nat) : Nat := pop8 (q_wo (q_hm T S n) (T i 3))
def q_wby (k : Nat) (pl : Int32) (cc o : Nat) : Int32 := if k = 1 ∧ 0 < o then nI 0 else if k = 2 ∧ 0 < o then (-1 : Int32) else if k = 3 ∧ o < 2 then nI 0 else pl + (nI cc - nI 9) * nI o
def q_wor (T : Nat → Nat → Nat) (n : Nat) (se : Int32) (i S : Nat) : Int32 := q_wby (T i 0) (nI (T i 1) + (se - nI 50)) (T i 2) (q_oth T n i S)
def q_want (T : Nat → Nat → Nat) (n : Nat) (se : Int32) (i S : Nat) : Bool := decide (nI (q_oth T n i S) < q_wor T n se i S)
def q_chg (T : Nat → Nat → Nat) (n : Nat) (se : Int32) (i S : Nat) : Bool := if S.testBit i then decide (q_wor T n se i S < 0) else q_want T n se i S
def q_cs (T : Nat → Nat → Nat) (n : Nat) (se : Int32) (S : Nat) : Nat → Nat
  | 0 => 0
  | i + 1 => if q_chg T n se i S then q_cs T n se S i ||| 2 ^ i else q_cs T n se S i
def q_rn (T : Nat → Nat → Nat) (n : Nat) (se : Int32) (t : Bool) (S : Nat) : Nat → Nat
  | 0 => S
  | i + 1 => if q_chg T n se i (if t then q_rn T n se t S i else S) then q_rn T n se t S i ^^^ 2 ^ i else q_rn T n se t S i
def q_rd (T : Nat → Nat → Nat) (n : Nat) (se : Int32) (t : Bool) (S : Nat) : Nat := q_rn T n se t S n
def q_it (f : Nat → Nat) : Nat → Nat → Nat
  | 0, x => x
  | k + 1, x => f (q_it f k x)
/-- a row of traits tells T -/
def q_Tr (T : Nat → Nat → Nat) (n : Nat) (tr : Nat → Int32) : Prop := ∀ i, i < n → ∀ k, k < 5 → tr (i * 5 + k) = nI (T i k)
def q_Bd (T : Nat → Nat → Nat) (n : Nat) : Prop := n ≤ 7 ∧ ∀ i, i < n → T i 0 < 4 ∧ T i 1 < 100 ∧ T i 2 < 19 ∧ T i 3 < 8 ∧ T i 4 < 100
def q_Hm (T : Nat → Nat → Nat) (n : Nat) (hm : Nat → Int32) : Prop := ∀ S, S < 2 ^ n → hm S = nI (q_hm T S n)
theorem q_p2 {n : Nat} (h : n ≤ 7) : 2 ^ n ≤ 128 := Nat.pow_le_pow_right (by decide) h
theorem q_S128 {T : Nat → Nat → Nat} {n S : Nat} (hB : q_Bd T n) (hS : S < 2 ^ n) : S < 128 := Nat.lt_of_lt_of_le hS (q_p2 hB.1)
theorem q_hm_lt {T : Nat → Nat → Nat} {S : Nat} : ∀ {n : Nat}, (∀ i, i < n → T i 3 < 8) → q_hm T S n < 256
  | 0, _ => by simp [q_hm]
  | n + 1, h => by
    have ih := q_hm_lt (T := T) (S := S) (n := n) (fun i hi => h i (by omega))
    have h2 : 2 ^ T n 3 < 2 ^ 8 := Nat.pow_lt_pow_right (by decide) (h n (by omega))
    unfold q_hm
    split
    · exact Nat.or_lt_two_pow (n := 8) ih h2
    · exact ih
theorem q_hm_lt' {T : Nat → Nat → Nat} {n S : Nat} (hB : q_Bd T n) : q_hm T S n < 256 := q_hm_lt (fun i hi => (hB.2 i hi).2.2.2.1)
theorem q_wo_lt {x h : Nat} (hx : x < 256) : q_wo x h < 256 := Nat.lt_of_le_of_lt Nat.and_le_left hx
theorem q_mask8 {x h : Nat} (hx : x < 256) (hh : h < 8) : nI x &&& (nI (2 ^ h) ^^^ (-1 : Int32)) = nI (q_wo x h) := by
  have : ∀ h, h < 8 → ∀ x, x < 256 → nI x &&& (nI (2 ^ h) ^^^ (-1 : Int32)) = nI (q_wo x h) := by decide +kernel
  exact this h hh x hx
theorem q_tn (b : Bool) : b.toNat ≤ 1 := by cases b <;> decide
theorem pop8_le (x : Nat) : pop8 x ≤ 8 := by
  unfold pop8
  have := q_tn (x.testBit 0); have := q_tn (x.testBit 1); have := q_tn (x.testBit 2); have := q_tn (x.testBit 3)
  have := q_tn (x.testBit 4); have := q_tn (x.testBit 5); have := q_tn (x.testBit 6); have := q_tn (x.testBit 7)
  omega
theorem q_oth_le (T : Nat → Nat → Nat) (n i S : Nat) : q_oth T n i S ≤ 8 := pop8_le _
theorem q_hasT {S i : Nat} (h : S &&& 2 ^ i = 0) : S.testBit i = false := by
  have h2 := congrArg (fun x => x.testBit i) h
  simpa [Nat.testBit_and, Nat.testBit_two_pow_self] using h2
theorem q_hasF {S i : Nat} (h : ¬ S &&& 2 ^ i = 0) : S.testBit i = true := by
  cases hb : S.testBit i with
  | true => rfl
  | false =>
    refine absurd (Nat.eq_of_testBit_eq fun j => ?_) h
    rw [Nat.testBit_and, Nat.testBit_two_pow, Nat.zero_testBit]
    by_cases hj : i = j
    · subst hj; simp [hb]
    · simp [hj]
def bc1 (x : Int32) : Int32 := x - (((x.toUInt32 >>> ((nI 1).toUInt32 &&& Int32.toUInt32 31)).toInt32) &&& (1431655765 : Int32))
def bc2 (x : Int32) : Int32 := (x &&& (858993459 : Int32)) + (((x.toUInt32 >>> ((nI 2).toUInt32 &&& Int32.toUInt32 31)).toInt32) &&& (858993459 : Int32))
def bc3 (x : Int32) : Int32 := (x + (x.toUInt32 >>> ((nI 4).toUInt32 &&& Int32.toUInt32 31)).toInt32) &&& (252645135 : Int32)
def bc4 (x : Int32) : Int32 := x + (x.toUInt32 >>> ((nI 8).toUInt32 &&& Int32.toUInt32 31)).toInt32
def bc5 (x : Int32) : Int32 := x + (x.toUInt32 >>> ((nI 16).toUInt32 &&& Int32.toUInt32 31)).toInt32
theorem q_bc {k : Nat} (hk : k < 256) : bc5 (bc4 (bc3 (bc2 (bc1 (nI k))))) &&& nI 63 = nI (pop8 k) := by
  have : ∀ k, k < 256 → bc5 (bc4 (bc3 (bc2 (bc1 (nI k))))) &&& nI 63 = nI (pop8 k) := by decide +kernel
  exact this k hk
def q_eit (w : Int32) : Bool := decide (w = 0 ∨ w = 1)
theorem q_dT {a b : Int32} (h : ¬ b ≤ a) : decide (a < b) = true := decide_eq_true (Int32.not_le.mp h)
theorem q_dF {a b : Int32} (h : b ≤ a) : decide (a < b) = false := decide_eq_false (fun h2 => Int32.not_le.mpr h2 h)
theorem q_xor_lt {n a b : Nat} (ha : a < 2 ^ n) (hb : b < n) : a ^^^ 2 ^ b < 2 ^ n := Nat.xor_lt_two_pow ha (Nat.pow_lt_pow_right (by decide) hb)
theorem q_or_lt {n a b : Nat} (ha : a < 2 ^ n) (hb : b < n) : a ||| 2 ^ b < 2 ^ n := Nat.or_lt_two_pow ha (Nat.pow_lt_pow_right (by decide) hb)
theorem q_rn_lt {T : Nat → Nat → Nat} {n N : Nat} {se : Int32} {t : Bool} {S : Nat} (hS : S < 2 ^ N) : ∀ {i : Nat}, i ≤ N → q_rn T n se t S i < 2 ^ N
  | 0, _ => hS
  | i + 1, h => by
    have ih := q_rn_lt (T := T) (n := n) (se := se) (t := t) hS (i := i) (by omega)
    unfold q_rn
    by_cases hc : q_chg T n se i (if t then q_rn T n se t S i else S) = true
    · rw [if_pos hc]; exact q_xor_lt ih (by omega)
    · rw [if_neg hc]; exact ih
theorem q_rd_lt {T : Nat → Nat → Nat} {n : Nat} {se : Int32} {t : Bool} {S : Nat} (hS : S < 2 ^ n) : q_rd T n se t S < 2 ^ n := q_rn_lt hS (Nat.le_refl n)
theorem q_it_lt {f : Nat → Nat} {N : Nat} (hf : ∀ x, x < N → f x < N) {x : Nat} (hx : x < N) : ∀ k, q_it f k x < N
  | 0 => hx
  | k + 1 => hf _ (q_it_lt hf hx k)
theorem q_cs_lt {T : Nat → Nat → Nat} {n N : Nat} {se : Int32} {S : Nat} : ∀ {i : Nat}, i ≤ N → q_cs T n se S i < 2 ^ N
  | 0, _ => Nat.two_pow_pos N
  | i + 1, h => by
    have ih := q_cs_lt (T := T) (n := n) (N := N) (se := se) (S := S) (i := i) (by omega)
    unfold q_cs
    split
    · exact q_or_lt ih (by omega)
    · exact ih
end
section
set_option maxHeartbeats 4000000 in
set_option maxRecDepth 100000 in
/-- 1 shifted -/
theorem c_X9_bit (l : Launch) {D : va_G} {cI cB cZ : ClassId} {i : Nat} (hi : i < 31) : Met l yX9_bit wsX9_bit ({ frames := 0, cells := 0, slots := 0, locals := 0 } : Room) (va_Pc [.int (nI i)] (q_B D (q_tys cI cB cZ) [])) (vp_Si (fun r => r = nI (2 ^ i))) 0 0 (fun _ => False) := by
  refine Met.ofW (cc := cX9_bit) (maxL := 1) (ret := (some .int)) (by decide) rfl ?_
  intro p e s m args below meth c s₁ B hml hv
  obtain ⟨rfl, hP, hK⟩ := hv
  have hx := B.exec
  have hb := B.bytes
  have hr := B.returns
  have hts := atoms_spec (ws := wsX9_bit) B.pre
  have hown : s.vm.findClass RX9 = some m.cls := findClass_of_methodNamed B.named
  have hlocks := B.notSynchronized
  have hP : va_P D vwCl [] s.heap := hP
  have hl := lv_entry ([.int (nI i)]) (n := 1) (Nat.le_of_ble_eq_true rfl)
  rw [lg_entry_eq]
  generalize (lg_sl ([.int (nI i)]) ++ List.replicate (1 - (lg_sl ([.int (nI i)])).length) Slot.unset).toArray = ls at hl ⊢
  have hl : lv_has ls 1 [(0, .int (nI i))] := hl
  refine lv_iconst (v := nI 1) hx hb dX9_bit_0 (by decide) ?_
  refine lv_iload_n hx hb dX9_bit_1 rfl (lv_at hl 0 rfl) ?_
  refine q_ishl (v := nI (2 ^ i)) hx hb dX9_bit_2 (q_shl1 hi) ?_
  exact q_zret (v := nI (2 ^ i)) hx hb hr hlocks (rfl) (show nI (2 ^ i) = nI (2 ^ i) from rfl) dX9_bit_3

set_option maxHeartbeats 4000000 in
set_option maxRecDepth 100000 in
theorem c_X9_has (l : Launch) {D : va_G} {cI cB cZ : ClassId} {S : Nat} {i : Nat} (hi : i < 31) (hS : S < 2147483648) : Met l yX9_has wsX9_has ({ frames := 1, cells := 0, slots := 0, locals := 20 } : Room) (va_Pc [.int (nI S), .int (nI i)] (q_B D (q_tys cI cB cZ) [])) (vp_Si (fun r => r = bI (S.testBit i))) 0 0 (fun _ => False) := by
  refine Met.ofW (cc := cX9_has) (maxL := 2) (ret := (some .boolean)) (by decide) rfl ?_
  intro p e s m args below meth c s₁ B hml hv
  obtain ⟨rfl, hP, hK⟩ := hv
  have hx := B.exec
  have hb := B.bytes
  have hr := B.returns
  have hts := atoms_spec (ws := wsX9_has) B.pre
  have hown : s.vm.findClass RX9 = some m.cls := findClass_of_methodNamed B.named
  have hlocks := B.notSynchronized
  have hP : va_P D vwCl [] s.heap := hP
  have hl := lv_entry ([.int (nI S), .int (nI i)]) (n := 2) (Nat.le_of_ble_eq_true rfl)
  rw [lg_entry_eq]
  generalize (lg_sl ([.int (nI S), .int (nI i)]) ++ List.replicate (2 - (lg_sl ([.int (nI S), .int (nI i)])).length) Slot.unset).toArray = ls at hl ⊢
  have hl : lv_has ls 2 [(0, .int (nI S)), (1, .int (nI i))] := hl
  refine lv_iload_n hx hb dX9_has_0 rfl (lv_at hl 0 rfl) ?_
  refine lv_iload_n hx hb dX9_has_1 rfl (lv_at hl 1 rfl) ?_
  refine q_si (As := [.int (nI i)]) (rest := [.int (nI S)]) ⟨hx, hb, hml, hown, hts⟩ (c_X9_bit l (D := D) (cI := cI) (cB := cB) (cZ := cZ) (i := i) (by first | assumption | omega)) (va_cwS 1 hts gX9_has_X9_bit rfl rfl rfl (by decide +kernel) ⟨Nat.le_of_ble_eq_true rfl, Nat.le_of_ble_eq_true rfl⟩) hK hP [] rfl rfl hl.1 rfl (Nat.le_of_ble_eq_true rfl) dX9_has_2 ⟨Nat.zero_le _, Nat.zero_le _⟩ (fun r_2 hr_2 => ?_)
  obtain rfl : r_2 = nI (2 ^ i) := hr_2
  refine q_iand (v := nI (S &&& (2 ^ i))) hx hb dX9_has_5 (q_and _ _) ?_
  refine q_zeq (tgt := 13) hx hb dX9_has_6 (by decide) (Nat.lt_of_le_of_lt Nat.and_le_left hS) (fun c_6 => ?_) (fun c_6 => ?_)
  · refine lv_iconst (v := nI 0) hx hb dX9_has_13 (by decide) ?_
    exact q_zret (v := nI 0) hx hb hr hlocks (q_nar0) (show nI 0 = bI (S.testBit i) from by rw [q_hasT c_6]; rfl) dX9_has_14
  · refine lv_iconst (v := nI 1) hx hb dX9_has_9 (by decide) ?_
    refine lv_goto (tgt := 14) hx hb dX9_has_10 (by decide) ?_
    exact q_zret (v := nI 1) hx hb hr hlocks (q_nar1) (show nI 1 = bI (S.testBit i) from by rw [q_hasF c_6]; rfl) dX9_has_14

set_option maxHeartbeats 4000000 in
set_option maxRecDepth 100000 in
theorem c_X9_at (l : Launch) {D : va_G} {cI cB cZ : ClassId} {a : Nat} {N : Nat} {k : Nat} {f : Nat → Int32} (hk : k < N) (hN : N < 2147483648) : Met l yX9_at wsX9_at ({ frames := 0, cells := 0, slots := 0, locals := 0 } : Room) (va_Pc [.ref a, .int (nI k)] (q_B D (q_tys cI cB cZ) [(a, .inl (cI, N, .inl f))])) (vp_Si (fun r => r = f k)) 0 0 (fun _ => False) := by
  refine Met.ofW (cc := cX9_at) (maxL := 2) (ret := (some .int)) (by decide) rfl ?_
  intro p e s m args below meth c s₁ B hml hv
  obtain ⟨rfl, hP, hK⟩ := hv
  have hx := B.exec
  have hb := B.bytes
  have hr := B.returns
  have hts := atoms_spec (ws := wsX9_at) B.pre
  have hown : s.vm.findClass RX9 = some m.cls := findClass_of_methodNamed B.named
  have hlocks := B.notSynchronized
  have hP : va_P D vwCl [(a, .inl (cI, N, .inl f))] s.heap := hP
  have hl := lv_entry ([.ref a, .int (nI k)]) (n := 2) (Nat.le_of_ble_eq_true rfl)
  rw [lg_entry_eq]
  generalize (lg_sl ([.ref a, .int (nI k)]) ++ List.replicate (2 - (lg_sl ([.ref a, .int (nI k)])).length) Slot.unset).toArray = ls at hl ⊢
  have hl : lv_has ls 2 [(0, .ref a), (1, .int (nI k))] := hl
  refine lv_iload_n hx hb dX9_at_0 rfl (lv_at hl 1 rfl) ?_
  refine q_zlt (tgt := 16) hx hb dX9_at_1 (by decide) (by omega) (fun c_1 => ?_) (fun c_1 => ?_)
  · exact absurd c_1 (Nat.not_lt_zero _)
  · refine lv_iload_n hx hb dX9_at_4 rfl (lv_at hl 1 rfl) ?_
    refine lv_aload_n hx hb dX9_at_5 rfl (lv_at hl 0 rfl) ?_
    refine q_alen hx hb hK hP 0 0 rfl rfl dX9_at_6 ?_
    refine q_nge (tgt := 16) hx hb dX9_at_7 (by decide) (by omega) (by omega) (fun c_7 => ?_) (fun c_7 => ?_)
    · exact absurd c_7 (Nat.not_le.mpr hk)
    · refine lv_aload_n hx hb dX9_at_10 rfl (lv_at hl 0 rfl) ?_
      refine lv_iload_n hx hb dX9_at_11 rfl (lv_at hl 1 rfl) ?_
      refine q_ald hx hb hK hP 0 0 rfl rfl hk (by first | decide | omega) dX9_at_12 ?_
      refine lv_goto (tgt := 17) hx hb dX9_at_13 (by decide) ?_
      exact q_zret (v := f k) hx hb hr hlocks (rfl) (show f k = f k from rfl) dX9_at_17

set_option maxHeartbeats 4000000 in
set_option maxRecDepth 100000 in
theorem c_X9_put (l : Launch) {D : va_G} {cI cB cZ : ClassId} {a : Nat} {N : Nat} {k : Nat} {f : Nat → Int32} {x : Int32} {sz : Nat} (hk : k < N) (hN : N < 2147483648) : Met l yX9_put wsX9_put ({ frames := 0, cells := 0, slots := 0, locals := 0 } : Room) (va_Pc [.ref a, .int (nI k), .int x] (q_M D (q_tys cI cB cZ) [(a, .inl (cI, N, .inl f))] sz)) (va_Qv (S := Unit) (fun _ => True) (fun u t => va_P D vwCl ((fun _ => [(a, .inl (cI, N, .inl (upd f k x)))]) u) t.heap) (va_A [(a, .inl (cI, N, .inl f))] sz)) 0 0 (va_A [(a, .inl (cI, N, .inl f))] sz) := by
  refine Met.ofW (cc := cX9_put) (maxL := 3) (ret := none) (by decide) rfl ?_
  intro p e s m args below meth c s₁ B hml hv
  obtain ⟨rfl, hsz, hP, hK, hD0⟩ := hv
  have hx := B.exec
  have hb := B.bytes
  have hr := B.returns
  have hts := atoms_spec (ws := wsX9_put) B.pre
  have hown : s.vm.findClass RX9 = some m.cls := findClass_of_methodNamed B.named
  have hlocks := B.notSynchronized
  subst hsz
  have hD := hD0.self (sz := s.heap.size)
  generalize hAe : va_A [(a, .inl (cI, N, .inl f))] s.heap.size = A at hD ⊢
  have hA : ∀ q : Nat, s.heap.size ≤ q → A q := fun q h => by rw [← hAe]; exact Or.inr h
  have hS : va_S A s.heap s.heap [] := va_S.rf
  have hP : va_P D vwCl [(a, .inl (cI, N, .inl f))] s.heap := hP
  have hl := lv_entry ([.ref a, .int (nI k), .int x]) (n := 3) (Nat.le_of_ble_eq_true rfl)
  rw [lg_entry_eq]
  generalize (lg_sl ([.ref a, .int (nI k), .int x]) ++ List.replicate (3 - (lg_sl ([.ref a, .int (nI k), .int x])).length) Slot.unset).toArray = ls at hl ⊢
  have hl : lv_has ls 3 [(0, .ref a), (1, .int (nI k)), (2, .int x)] := hl
  refine lv_iload_n hx hb dX9_put_0 rfl (lv_at hl 1 rfl) ?_
  refine q_zlt (tgt := 14) hx hb dX9_put_1 (by decide) (by omega) (fun c_1 => ?_) (fun c_1 => ?_)
  · exact absurd c_1 (Nat.not_lt_zero _)
  · refine lv_iload_n hx hb dX9_put_4 rfl (lv_at hl 1 rfl) ?_
    refine lv_aload_n hx hb dX9_put_5 rfl (lv_at hl 0 rfl) ?_
    refine q_alen hx hb hK hP 0 0 rfl rfl dX9_put_6 ?_
    refine q_nge (tgt := 14) hx hb dX9_put_7 (by decide) (by omega) (by omega) (fun c_7 => ?_) (fun c_7 => ?_)
    · exact absurd c_7 (Nat.not_le.mpr hk)
    · refine lv_aload_n hx hb dX9_put_10 rfl (lv_at hl 0 rfl) ?_
      refine lv_iload_n hx hb dX9_put_11 rfl (lv_at hl 1 rfl) ?_
      refine lv_iload_n hx hb dX9_put_12 rfl (lv_at hl 2 rfl) ?_
      refine q_ast (w2 := [(a, .inl (cI, N, .inl (upd f k x)))]) hx hb hK hP hD hS 0 0 rfl rfl hk (by first | decide | omega) dX9_put_13 rfl (fun H locs hP hD hS => ?_)
      exact q_mretv (w1 := fun _ => [(a, .inl (cI, N, .inl (upd f k x)))]) () hx hb hr hlocks hP hS dX9_put_14 (trivial)

set_option maxHeartbeats 4000000 in
set_option maxRecDepth 100000 in
theorem c_X9_valueOf (l : Launch) {D : va_G} {cI cB cZ : ClassId} {k : Nat} {cc : Nat} {o : Nat} {x : Int32} {se : Int32} (hk : k < 4) (ho : o ≤ 8) : Met l yX9_valueOf wsX9_valueOf ({ frames := 0, cells := 0, slots := 0, locals := 0 } : Room) (va_Pc [.int (nI k), .int x, .int (nI cc), .int se, .int (nI o)] (q_B D (q_tys cI cB cZ) [])) (vp_Si (fun r => r = q_wby k (x + (se - nI 50)) cc o)) 0 0 (fun _ => False) := by
  refine Met.ofW (cc := cX9_valueOf) (maxL := 5) (ret := (some .int)) (by decide) rfl ?_
  intro p e s m args below meth c s₁ B hml hv
  obtain ⟨rfl, hP, hK⟩ := hv
  have hx := B.exec
  have hb := B.bytes
  have hr := B.returns
  have hts := atoms_spec (ws := wsX9_valueOf) B.pre
  have hown : s.vm.findClass RX9 = some m.cls := findClass_of_methodNamed B.named
  have hlocks := B.notSynchronized
  have hP : va_P D vwCl [] s.heap := hP
  have hl := lv_entry ([.int (nI k), .int x, .int (nI cc), .int se, .int (nI o)]) (n := 5) (Nat.le_of_ble_eq_true rfl)
  rw [lg_entry_eq]
  generalize (lg_sl ([.int (nI k), .int x, .int (nI cc), .int se, .int (nI o)]) ++ List.replicate (5 - (lg_sl ([.int (nI k), .int x, .int (nI cc), .int se, .int (nI o)])).length) Slot.unset).toArray = ls at hl ⊢
  have hl : lv_has ls 5 [(0, .int (nI k)), (1, .int x), (2, .int (nI cc)), (3, .int se), (4, .int (nI o))] := hl
  refine lv_iload_n hx hb dX9_valueOf_0 rfl (lv_at hl 0 rfl) ?_
  refine lv_iconst (v := nI 1) hx hb dX9_valueOf_1 (by decide) ?_
  refine q_nne (tgt := 12) hx hb dX9_valueOf_2 (by decide) (by omega) (by omega) (fun c_2 => ?_) (fun c_2 => ?_)
  · refine lv_iload_n hx hb dX9_valueOf_12 rfl (lv_at hl 0 rfl) ?_
    refine lv_iconst (v := nI 2) hx hb dX9_valueOf_13 (by decide) ?_
    refine q_nne (tgt := 24) hx hb dX9_valueOf_14 (by decide) (by omega) (by omega) (fun c_14 => ?_) (fun c_14 => ?_)
    · refine lv_iload_n hx hb dX9_valueOf_24 rfl (lv_at hl 0 rfl) ?_
      refine lv_iconst (v := nI 3) hx hb dX9_valueOf_25 (by decide) ?_
      refine q_nne (tgt := 37) hx hb dX9_valueOf_26 (by decide) (by omega) (by omega) (fun c_26 => ?_) (fun c_26 => ?_)
      · refine lv_iload_n hx hb dX9_valueOf_37 rfl (lv_at hl 1 rfl) ?_
        refine lv_iload_n hx hb dX9_valueOf_38 rfl (lv_at hl 3 rfl) ?_
        refine lv_bipush (v := nI 50) hx hb dX9_valueOf_39 (by decide) ?_
        refine q_isub (v := se - (nI 50)) hx hb dX9_valueOf_41 (rfl) ?_
        refine q_iadd (v := x + (se - (nI 50))) hx hb dX9_valueOf_42 (rfl) ?_
        refine lv_iload_n hx hb dX9_valueOf_43 rfl (lv_at hl 2 rfl) ?_
        refine lv_bipush (v := nI 9) hx hb dX9_valueOf_44 (by decide) ?_
        refine q_isub (v := (nI cc) - (nI 9)) hx hb dX9_valueOf_46 (rfl) ?_
        refine lv_iload hx hb dX9_valueOf_47 (lv_at hl 4 rfl) ?_
        refine q_imul (v := ((nI cc) - (nI 9)) * (nI o)) hx hb dX9_valueOf_49 (rfl) ?_
        refine q_iadd (v := (x + (se - (nI 50))) + (((nI cc) - (nI 9)) * (nI o))) hx hb dX9_valueOf_50 (rfl) ?_
        exact q_zret (v := (x + (se - (nI 50))) + (((nI cc) - (nI 9)) * (nI o))) hx hb hr hlocks (rfl) (show (x + (se - (nI 50))) + (((nI cc) - (nI 9)) * (nI o)) = q_wby k (x + (se - nI 50)) cc o from by unfold q_wby; (repeat' split) <;> first | rfl | omega) dX9_valueOf_51
      · refine lv_iload hx hb dX9_valueOf_29 (lv_at hl 4 rfl) ?_
        refine lv_iconst (v := nI 2) hx hb dX9_valueOf_31 (by decide) ?_
        refine q_nge (tgt := 37) hx hb dX9_valueOf_32 (by decide) (by omega) (by omega) (fun c_32 => ?_) (fun c_32 => ?_)
        · refine lv_iload_n hx hb dX9_valueOf_37 rfl (lv_at hl 1 rfl) ?_
          refine lv_iload_n hx hb dX9_valueOf_38 rfl (lv_at hl 3 rfl) ?_
          refine lv_bipush (v := nI 50) hx hb dX9_valueOf_39 (by decide) ?_
          refine q_isub (v := se - (nI 50)) hx hb dX9_valueOf_41 (rfl) ?_
          refine q_iadd (v := x + (se - (nI 50))) hx hb dX9_valueOf_42 (rfl) ?_
          refine lv_iload_n hx hb dX9_valueOf_43 rfl (lv_at hl 2 rfl) ?_
          refine lv_bipush (v := nI 9) hx hb dX9_valueOf_44 (by decide) ?_
          refine q_isub (v := (nI cc) - (nI 9)) hx hb dX9_valueOf_46 (rfl) ?_
          refine lv_iload hx hb dX9_valueOf_47 (lv_at hl 4 rfl) ?_
          refine q_imul (v := ((nI cc) - (nI 9)) * (nI o)) hx hb dX9_valueOf_49 (rfl) ?_
          refine q_iadd (v := (x + (se - (nI 50))) + (((nI cc) - (nI 9)) * (nI o))) hx hb dX9_valueOf_50 (rfl) ?_
          exact q_zret (v := (x + (se - (nI 50))) + (((nI cc) - (nI 9)) * (nI o))) hx hb hr hlocks (rfl) (show (x + (se - (nI 50))) + (((nI cc) - (nI 9)) * (nI o)) = q_wby k (x + (se - nI 50)) cc o from by unfold q_wby; (repeat' split) <;> first | rfl | omega) dX9_valueOf_51
        · refine lv_iconst (v := nI 0) hx hb dX9_valueOf_35 (by decide) ?_
          exact q_zret (v := nI 0) hx hb hr hlocks (rfl) (show nI 0 = q_wby k (x + (se - nI 50)) cc o from by unfold q_wby; (repeat' split) <;> first | rfl | omega) dX9_valueOf_36
    · refine lv_iload hx hb dX9_valueOf_17 (lv_at hl 4 rfl) ?_
      refine q_zle (tgt := 24) hx hb dX9_valueOf_19 (by decide) (by omega) (fun c_19 => ?_) (fun c_19 => ?_)
      · refine lv_iload_n hx hb dX9_valueOf_24 rfl (lv_at hl 0 rfl) ?_
        refine lv_iconst (v := nI 3) hx hb dX9_valueOf_25 (by decide) ?_
        refine q_nne (tgt := 37) hx hb dX9_valueOf_26 (by decide) (by omega) (by omega) (fun c_26 => ?_) (fun c_26 => ?_)
        · refine lv_iload_n hx hb dX9_valueOf_37 rfl (lv_at hl 1 rfl) ?_
          refine lv_iload_n hx hb dX9_valueOf_38 rfl (lv_at hl 3 rfl) ?_
          refine lv_bipush (v := nI 50) hx hb dX9_valueOf_39 (by decide) ?_
          refine q_isub (v := se - (nI 50)) hx hb dX9_valueOf_41 (rfl) ?_
          refine q_iadd (v := x + (se - (nI 50))) hx hb dX9_valueOf_42 (rfl) ?_
          refine lv_iload_n hx hb dX9_valueOf_43 rfl (lv_at hl 2 rfl) ?_
          refine lv_bipush (v := nI 9) hx hb dX9_valueOf_44 (by decide) ?_
          refine q_isub (v := (nI cc) - (nI 9)) hx hb dX9_valueOf_46 (rfl) ?_
          refine lv_iload hx hb dX9_valueOf_47 (lv_at hl 4 rfl) ?_
          refine q_imul (v := ((nI cc) - (nI 9)) * (nI o)) hx hb dX9_valueOf_49 (rfl) ?_
          refine q_iadd (v := (x + (se - (nI 50))) + (((nI cc) - (nI 9)) * (nI o))) hx hb dX9_valueOf_50 (rfl) ?_
          exact q_zret (v := (x + (se - (nI 50))) + (((nI cc) - (nI 9)) * (nI o))) hx hb hr hlocks (rfl) (show (x + (se - (nI 50))) + (((nI cc) - (nI 9)) * (nI o)) = q_wby k (x + (se - nI 50)) cc o from by unfold q_wby; (repeat' split) <;> first | rfl | omega) dX9_valueOf_51
        · refine lv_iload hx hb dX9_valueOf_29 (lv_at hl 4 rfl) ?_
          refine lv_iconst (v := nI 2) hx hb dX9_valueOf_31 (by decide) ?_
          refine q_nge (tgt := 37) hx hb dX9_valueOf_32 (by decide) (by omega) (by omega) (fun c_32 => ?_) (fun c_32 => ?_)
          · refine lv_iload_n hx hb dX9_valueOf_37 rfl (lv_at hl 1 rfl) ?_
            refine lv_iload_n hx hb dX9_valueOf_38 rfl (lv_at hl 3 rfl) ?_
            refine lv_bipush (v := nI 50) hx hb dX9_valueOf_39 (by decide) ?_
            refine q_isub (v := se - (nI 50)) hx hb dX9_valueOf_41 (rfl) ?_
            refine q_iadd (v := x + (se - (nI 50))) hx hb dX9_valueOf_42 (rfl) ?_
            refine lv_iload_n hx hb dX9_valueOf_43 rfl (lv_at hl 2 rfl) ?_
            refine lv_bipush (v := nI 9) hx hb dX9_valueOf_44 (by decide) ?_
            refine q_isub (v := (nI cc) - (nI 9)) hx hb dX9_valueOf_46 (rfl) ?_
            refine lv_iload hx hb dX9_valueOf_47 (lv_at hl 4 rfl) ?_
            refine q_imul (v := ((nI cc) - (nI 9)) * (nI o)) hx hb dX9_valueOf_49 (rfl) ?_
            refine q_iadd (v := (x + (se - (nI 50))) + (((nI cc) - (nI 9)) * (nI o))) hx hb dX9_valueOf_50 (rfl) ?_
            exact q_zret (v := (x + (se - (nI 50))) + (((nI cc) - (nI 9)) * (nI o))) hx hb hr hlocks (rfl) (show (x + (se - (nI 50))) + (((nI cc) - (nI 9)) * (nI o)) = q_wby k (x + (se - nI 50)) cc o from by unfold q_wby; (repeat' split) <;> first | rfl | omega) dX9_valueOf_51
          · refine lv_iconst (v := nI 0) hx hb dX9_valueOf_35 (by decide) ?_
            exact q_zret (v := nI 0) hx hb hr hlocks (rfl) (show nI 0 = q_wby k (x + (se - nI 50)) cc o from by unfold q_wby; (repeat' split) <;> first | rfl | omega) dX9_valueOf_36
      · refine lv_iconst (v := (-1 : Int32)) hx hb dX9_valueOf_22 (by decide) ?_
        exact q_zret (v := (-1 : Int32)) hx hb hr hlocks (rfl) (show (-1 : Int32) = q_wby k (x + (se - nI 50)) cc o from by unfold q_wby; (repeat' split) <;> first | rfl | omega) dX9_valueOf_23
  · refine lv_iload hx hb dX9_valueOf_5 (lv_at hl 4 rfl) ?_
    refine q_zle (tgt := 12) hx hb dX9_valueOf_7 (by decide) (by omega) (fun c_7 => ?_) (fun c_7 => ?_)
    · refine lv_iload_n hx hb dX9_valueOf_12 rfl (lv_at hl 0 rfl) ?_
      refine lv_iconst (v := nI 2) hx hb dX9_valueOf_13 (by decide) ?_
      refine q_nne (tgt := 24) hx hb dX9_valueOf_14 (by decide) (by omega) (by omega) (fun c_14 => ?_) (fun c_14 => ?_)
      · refine lv_iload_n hx hb dX9_valueOf_24 rfl (lv_at hl 0 rfl) ?_
        refine lv_iconst (v := nI 3) hx hb dX9_valueOf_25 (by decide) ?_
        refine q_nne (tgt := 37) hx hb dX9_valueOf_26 (by decide) (by omega) (by omega) (fun c_26 => ?_) (fun c_26 => ?_)
        · refine lv_iload_n hx hb dX9_valueOf_37 rfl (lv_at hl 1 rfl) ?_
          refine lv_iload_n hx hb dX9_valueOf_38 rfl (lv_at hl 3 rfl) ?_
          refine lv_bipush (v := nI 50) hx hb dX9_valueOf_39 (by decide) ?_
          refine q_isub (v := se - (nI 50)) hx hb dX9_valueOf_41 (rfl) ?_
          refine q_iadd (v := x + (se - (nI 50))) hx hb dX9_valueOf_42 (rfl) ?_
          refine lv_iload_n hx hb dX9_valueOf_43 rfl (lv_at hl 2 rfl) ?_
          refine lv_bipush (v := nI 9) hx hb dX9_valueOf_44 (by decide) ?_
          refine q_isub (v := (nI cc) - (nI 9)) hx hb dX9_valueOf_46 (rfl) ?_
          refine lv_iload hx hb dX9_valueOf_47 (lv_at hl 4 rfl) ?_
          refine q_imul (v := ((nI cc) - (nI 9)) * (nI o)) hx hb dX9_valueOf_49 (rfl) ?_
          refine q_iadd (v := (x + (se - (nI 50))) + (((nI cc) - (nI 9)) * (nI o))) hx hb dX9_valueOf_50 (rfl) ?_
          exact q_zret (v := (x + (se - (nI 50))) + (((nI cc) - (nI 9)) * (nI o))) hx hb hr hlocks (rfl) (show (x + (se - (nI 50))) + (((nI cc) - (nI 9)) * (nI o)) = q_wby k (x + (se - nI 50)) cc o from by unfold q_wby; (repeat' split) <;> first | rfl | omega) dX9_valueOf_51
        · refine lv_iload hx hb dX9_valueOf_29 (lv_at hl 4 rfl) ?_
          refine lv_iconst (v := nI 2) hx hb dX9_valueOf_31 (by decide) ?_
          refine q_nge (tgt := 37) hx hb dX9_valueOf_32 (by decide) (by omega) (by omega) (fun c_32 => ?_) (fun c_32 => ?_)
          · refine lv_iload_n hx hb dX9_valueOf_37 rfl (lv_at hl 1 rfl) ?_
            refine lv_iload_n hx hb dX9_valueOf_38 rfl (lv_at hl 3 rfl) ?_
            refine lv_bipush (v := nI 50) hx hb dX9_valueOf_39 (by decide) ?_
            refine q_isub (v := se - (nI 50)) hx hb dX9_valueOf_41 (rfl) ?_
            refine q_iadd (v := x + (se - (nI 50))) hx hb dX9_valueOf_42 (rfl) ?_
            refine lv_iload_n hx hb dX9_valueOf_43 rfl (lv_at hl 2 rfl) ?_
            refine lv_bipush (v := nI 9) hx hb dX9_valueOf_44 (by decide) ?_
            refine q_isub (v := (nI cc) - (nI 9)) hx hb dX9_valueOf_46 (rfl) ?_
            refine lv_iload hx hb dX9_valueOf_47 (lv_at hl 4 rfl) ?_
            refine q_imul (v := ((nI cc) - (nI 9)) * (nI o)) hx hb dX9_valueOf_49 (rfl) ?_
            refine q_iadd (v := (x + (se - (nI 50))) + (((nI cc) - (nI 9)) * (nI o))) hx hb dX9_valueOf_50 (rfl) ?_
            exact q_zret (v := (x + (se - (nI 50))) + (((nI cc) - (nI 9)) * (nI o))) hx hb hr hlocks (rfl) (show (x + (se - (nI 50))) + (((nI cc) - (nI 9)) * (nI o)) = q_wby k (x + (se - nI 50)) cc o from by unfold q_wby; (repeat' split) <;> first | rfl | omega) dX9_valueOf_51
          · refine lv_iconst (v := nI 0) hx hb dX9_valueOf_35 (by decide) ?_
            exact q_zret (v := nI 0) hx hb hr hlocks (rfl) (show nI 0 = q_wby k (x + (se - nI 50)) cc o from by unfold q_wby; (repeat' split) <;> first | rfl | omega) dX9_valueOf_36
      · refine lv_iload hx hb dX9_valueOf_17 (lv_at hl 4 rfl) ?_
        refine q_zle (tgt := 24) hx hb dX9_valueOf_19 (by decide) (by omega) (fun c_19 => ?_) (fun c_19 => ?_)
        · refine lv_iload_n hx hb dX9_valueOf_24 rfl (lv_at hl 0 rfl) ?_
          refine lv_iconst (v := nI 3) hx hb dX9_valueOf_25 (by decide) ?_
          refine q_nne (tgt := 37) hx hb dX9_valueOf_26 (by decide) (by omega) (by omega) (fun c_26 => ?_) (fun c_26 => ?_)
          · refine lv_iload_n hx hb dX9_valueOf_37 rfl (lv_at hl 1 rfl) ?_
            refine lv_iload_n hx hb dX9_valueOf_38 rfl (lv_at hl 3 rfl) ?_
            refine lv_bipush (v := nI 50) hx hb dX9_valueOf_39 (by decide) ?_
            refine q_isub (v := se - (nI 50)) hx hb dX9_valueOf_41 (rfl) ?_
            refine q_iadd (v := x + (se - (nI 50))) hx hb dX9_valueOf_42 (rfl) ?_
            refine lv_iload_n hx hb dX9_valueOf_43 rfl (lv_at hl 2 rfl) ?_
            refine lv_bipush (v := nI 9) hx hb dX9_valueOf_44 (by decide) ?_
            refine q_isub (v := (nI cc) - (nI 9)) hx hb dX9_valueOf_46 (rfl) ?_
            refine lv_iload hx hb dX9_valueOf_47 (lv_at hl 4 rfl) ?_
            refine q_imul (v := ((nI cc) - (nI 9)) * (nI o)) hx hb dX9_valueOf_49 (rfl) ?_
            refine q_iadd (v := (x + (se - (nI 50))) + (((nI cc) - (nI 9)) * (nI o))) hx hb dX9_valueOf_50 (rfl) ?_
            exact q_zret (v := (x + (se - (nI 50))) + (((nI cc) - (nI 9)) * (nI o))) hx hb hr hlocks (rfl) (show (x + (se - (nI 50))) + (((nI cc) - (nI 9)) * (nI o)) = q_wby k (x + (se - nI 50)) cc o from by unfold q_wby; (repeat' split) <;> first | rfl | omega) dX9_valueOf_51
          · refine lv_iload hx hb dX9_valueOf_29 (lv_at hl 4 rfl) ?_
            refine lv_iconst (v := nI 2) hx hb dX9_valueOf_31 (by decide) ?_
            refine q_nge (tgt := 37) hx hb dX9_valueOf_32 (by decide) (by omega) (by omega) (fun c_32 => ?_) (fun c_32 => ?_)
            · refine lv_iload_n hx hb dX9_valueOf_37 rfl (lv_at hl 1 rfl) ?_
              refine lv_iload_n hx hb dX9_valueOf_38 rfl (lv_at hl 3 rfl) ?_
              refine lv_bipush (v := nI 50) hx hb dX9_valueOf_39 (by decide) ?_
              refine q_isub (v := se - (nI 50)) hx hb dX9_valueOf_41 (rfl) ?_
              refine q_iadd (v := x + (se - (nI 50))) hx hb dX9_valueOf_42 (rfl) ?_
              refine lv_iload_n hx hb dX9_valueOf_43 rfl (lv_at hl 2 rfl) ?_
              refine lv_bipush (v := nI 9) hx hb dX9_valueOf_44 (by decide) ?_
              refine q_isub (v := (nI cc) - (nI 9)) hx hb dX9_valueOf_46 (rfl) ?_
              refine lv_iload hx hb dX9_valueOf_47 (lv_at hl 4 rfl) ?_
              refine q_imul (v := ((nI cc) - (nI 9)) * (nI o)) hx hb dX9_valueOf_49 (rfl) ?_
              refine q_iadd (v := (x + (se - (nI 50))) + (((nI cc) - (nI 9)) * (nI o))) hx hb dX9_valueOf_50 (rfl) ?_
              exact q_zret (v := (x + (se - (nI 50))) + (((nI cc) - (nI 9)) * (nI o))) hx hb hr hlocks (rfl) (show (x + (se - (nI 50))) + (((nI cc) - (nI 9)) * (nI o)) = q_wby k (x + (se - nI 50)) cc o from by unfold q_wby; (repeat' split) <;> first | rfl | omega) dX9_valueOf_51
            · refine lv_iconst (v := nI 0) hx hb dX9_valueOf_35 (by decide) ?_
              exact q_zret (v := nI 0) hx hb hr hlocks (rfl) (show nI 0 = q_wby k (x + (se - nI 50)) cc o from by unfold q_wby; (repeat' split) <;> first | rfl | omega) dX9_valueOf_36
        · refine lv_iconst (v := (-1 : Int32)) hx hb dX9_valueOf_22 (by decide) ?_
          exact q_zret (v := (-1 : Int32)) hx hb hr hlocks (rfl) (show (-1 : Int32) = q_wby k (x + (se - nI 50)) cc o from by unfold q_wby; (repeat' split) <;> first | rfl | omega) dX9_valueOf_23
    · refine lv_iconst (v := nI 0) hx hb dX9_valueOf_10 (by decide) ?_
      exact q_zret (v := nI 0) hx hb hr hlocks (rfl) (show nI 0 = q_wby k (x + (se - nI 50)) cc o from by unfold q_wby; (repeat' split) <;> first | rfl | omega) dX9_valueOf_11

set_option maxHeartbeats 4000000 in
set_option maxRecDepth 100000 in
theorem c_X9_isEither (l : Launch) {D : va_G} {cI cB cZ : ClassId} {w : Int32} : Met l yX9_isEither wsX9_isEither ({ frames := 0, cells := 0, slots := 0, locals := 0 } : Room) (va_Pc [.int w] (q_B D (q_tys cI cB cZ) [])) (vp_Si (fun r => r = bI (q_eit w))) 0 0 (fun _ => False) := by
  refine Met.ofW (cc := cX9_isEither) (maxL := 1) (ret := (some .boolean)) (by decide) rfl ?_
  intro p e s m args below meth c s₁ B hml hv
  obtain ⟨rfl, hP, hK⟩ := hv
  have hx := B.exec
  have hb := B.bytes
  have hr := B.returns
  have hts := atoms_spec (ws := wsX9_isEither) B.pre
  have hown : s.vm.findClass RX9 = some m.cls := findClass_of_methodNamed B.named
  have hlocks := B.notSynchronized
  have hP : va_P D vwCl [] s.heap := hP
  have hl := lv_entry ([.int w]) (n := 1) (Nat.le_of_ble_eq_true rfl)
  rw [lg_entry_eq]
  generalize (lg_sl ([.int w]) ++ List.replicate (1 - (lg_sl ([.int w])).length) Slot.unset).toArray = ls at hl ⊢
  have hl : lv_has ls 1 [(0, .int w)] := hl
  refine lv_iload_n hx hb dX9_isEither_0 rfl (lv_at hl 0 rfl) ?_
  refine lv_if_eq (x := w) (tgt := 9) hx hb dX9_isEither_1 (by decide) (fun c_1 => ?_) (fun c_1 => ?_)
  · refine lv_iconst (v := nI 1) hx hb dX9_isEither_9 (by decide) ?_
    refine lv_goto (tgt := 14) hx hb dX9_isEither_10 (by decide) ?_
    exact q_zret (v := nI 1) hx hb hr hlocks (q_nar1) (show nI 1 = bI (q_eit w) from by rw [c_1]; decide) dX9_isEither_14
  · refine lv_iload_n hx hb dX9_isEither_4 rfl (lv_at hl 0 rfl) ?_
    refine lv_iconst (v := nI 1) hx hb dX9_isEither_5 (by decide) ?_
    refine lv_icmp_ne (x := w) (y := nI 1) (tgt := 13) hx hb dX9_isEither_6 (by decide) (fun c_6 => ?_) (fun c_6 => ?_)
    · refine lv_iconst (v := nI 0) hx hb dX9_isEither_13 (by decide) ?_
      exact q_zret (v := nI 0) hx hb hr hlocks (q_nar0) (show nI 0 = bI (q_eit w) from by rw [show q_eit w = false from decide_eq_false (fun z => z.elim c_1 c_6)]; rfl) dX9_isEither_14
    · refine lv_iconst (v := nI 1) hx hb dX9_isEither_9 (by decide) ?_
      refine lv_goto (tgt := 14) hx hb dX9_isEither_10 (by decide) ?_
      exact q_zret (v := nI 1) hx hb hr hlocks (q_nar1) (show nI 1 = bI (q_eit w) from by rw [show w = 1 from c_6]; decide) dX9_isEither_14

set_option maxHeartbeats 4000000 in
set_option maxRecDepth 100000 in
theorem c_J6_bitCount_0f7a4 (l : Launch) {D : va_G} {cI cB cZ : ClassId} {k : Nat} (hk : k < 256) : Met l yJ6_bitCount_0f7a4 wsJ6_bitCount_0f7a4 ({ frames := 0, cells := 0, slots := 0, locals := 0 } : Room) (va_Pc [.int (nI k)] (q_B D (q_tys cI cB cZ) [])) (vp_Si (fun r => r = nI (pop8 k))) 0 0 (fun _ => False) := by
  refine Met.ofW (cc := cJ6_bitCount_0f7a4) (maxL := 1) (ret := (some .int)) (by decide) rfl ?_
  intro p e s m args below meth c s₁ B hml hv
  obtain ⟨rfl, hP, hK⟩ := hv
  have hx := B.exec
  have hb := B.bytes
  have hr := B.returns
  have hts := atoms_spec (ws := wsJ6_bitCount_0f7a4) B.pre
  have hown : s.vm.findClass RJ6 = some m.cls := findClass_of_methodNamed B.named
  have hlocks := B.notSynchronized
  have hP : va_P D vwCl [] s.heap := hP
  have hl := lv_entry ([.int (nI k)]) (n := 1) (Nat.le_of_ble_eq_true rfl)
  rw [lg_entry_eq]
  generalize (lg_sl ([.int (nI k)]) ++ List.replicate (1 - (lg_sl ([.int (nI k)])).length) Slot.unset).toArray = ls at hl ⊢
  have hl : lv_has ls 1 [(0, .int (nI k))] := hl
  refine lv_iload_n hx hb dJ6_bitCount_0f7a4_0 rfl (lv_at hl 0 rfl) ?_
  refine lv_iload_n hx hb dJ6_bitCount_0f7a4_1 rfl (lv_at hl 0 rfl) ?_
  refine lv_iconst (v := nI 1) hx hb dJ6_bitCount_0f7a4_2 (by decide) ?_
  refine q_iushr (v := ((nI k).toUInt32 >>> ((nI 1).toUInt32 &&& Int32.toUInt32 31)).toInt32) hx hb dJ6_bitCount_0f7a4_3 (rfl) ?_
  refine lv_ldcw (v := (1431655765 : Int32)) hx hb hown (hts (.constant RJ6 265 (1431655765)) (by decide +kernel)) dJ6_bitCount_0f7a4_4 ?_
  refine q_iand (v := (((nI k).toUInt32 >>> ((nI 1).toUInt32 &&& Int32.toUInt32 31)).toInt32) &&& (1431655765 : Int32)) hx hb dJ6_bitCount_0f7a4_7 (rfl) ?_
  refine q_isub (v := bc1 (nI k)) hx hb dJ6_bitCount_0f7a4_8 (rfl) ?_
  refine lv_istore_n (lv' := [(0, .int (bc1 (nI k)))]) hx hb dJ6_bitCount_0f7a4_9 rfl hl (by decide) rfl (fun ls hl => ?_)
  refine lv_iload_n hx hb dJ6_bitCount_0f7a4_10 rfl (lv_at hl 0 rfl) ?_
  refine lv_ldcw (v := (858993459 : Int32)) hx hb hown (hts (.constant RJ6 266 (858993459)) (by decide +kernel)) dJ6_bitCount_0f7a4_11 ?_
  refine q_iand (v := (bc1 (nI k)) &&& (858993459 : Int32)) hx hb dJ6_bitCount_0f7a4_14 (rfl) ?_
  refine lv_iload_n hx hb dJ6_bitCount_0f7a4_15 rfl (lv_at hl 0 rfl) ?_
  refine lv_iconst (v := nI 2) hx hb dJ6_bitCount_0f7a4_16 (by decide) ?_
  refine q_iushr (v := ((bc1 (nI k)).toUInt32 >>> ((nI 2).toUInt32 &&& Int32.toUInt32 31)).toInt32) hx hb dJ6_bitCount_0f7a4_17 (rfl) ?_
  refine lv_ldcw (v := (858993459 : Int32)) hx hb hown (hts (.constant RJ6 266 (858993459)) (by decide +kernel)) dJ6_bitCount_0f7a4_18 ?_
  refine q_iand (v := (((bc1 (nI k)).toUInt32 >>> ((nI 2).toUInt32 &&& Int32.toUInt32 31)).toInt32) &&& (858993459 : Int32)) hx hb dJ6_bitCount_0f7a4_21 (rfl) ?_
  refine q_iadd (v := bc2 (bc1 (nI k))) hx hb dJ6_bitCount_0f7a4_22 (rfl) ?_
  refine lv_istore_n (lv' := [(0, .int (bc2 (bc1 (nI k))))]) hx hb dJ6_bitCount_0f7a4_23 rfl hl (by decide) rfl (fun ls hl => ?_)
  refine lv_iload_n hx hb dJ6_bitCount_0f7a4_24 rfl (lv_at hl 0 rfl) ?_
  refine lv_iload_n hx hb dJ6_bitCount_0f7a4_25 rfl (lv_at hl 0 rfl) ?_
  refine lv_iconst (v := nI 4) hx hb dJ6_bitCount_0f7a4_26 (by decide) ?_
  refine q_iushr (v := ((bc2 (bc1 (nI k))).toUInt32 >>> ((nI 4).toUInt32 &&& Int32.toUInt32 31)).toInt32) hx hb dJ6_bitCount_0f7a4_27 (rfl) ?_
  refine q_iadd (v := (bc2 (bc1 (nI k))) + (((bc2 (bc1 (nI k))).toUInt32 >>> ((nI 4).toUInt32 &&& Int32.toUInt32 31)).toInt32)) hx hb dJ6_bitCount_0f7a4_28 (rfl) ?_
  refine lv_ldcw (v := (252645135 : Int32)) hx hb hown (hts (.constant RJ6 267 (252645135)) (by decide +kernel)) dJ6_bitCount_0f7a4_29 ?_
  refine q_iand (v := bc3 (bc2 (bc1 (nI k)))) hx hb dJ6_bitCount_0f7a4_32 (rfl) ?_
  refine lv_istore_n (lv' := [(0, .int (bc3 (bc2 (bc1 (nI k)))))]) hx hb dJ6_bitCount_0f7a4_33 rfl hl (by decide) rfl (fun ls hl => ?_)
  refine lv_iload_n hx hb dJ6_bitCount_0f7a4_34 rfl (lv_at hl 0 rfl) ?_
  refine lv_iload_n hx hb dJ6_bitCount_0f7a4_35 rfl (lv_at hl 0 rfl) ?_
  refine lv_bipush (v := nI 8) hx hb dJ6_bitCount_0f7a4_36 (by decide) ?_
  refine q_iushr (v := ((bc3 (bc2 (bc1 (nI k)))).toUInt32 >>> ((nI 8).toUInt32 &&& Int32.toUInt32 31)).toInt32) hx hb dJ6_bitCount_0f7a4_38 (rfl) ?_
  refine q_iadd (v := bc4 (bc3 (bc2 (bc1 (nI k))))) hx hb dJ6_bitCount_0f7a4_39 (rfl) ?_
  refine lv_istore_n (lv' := [(0, .int (bc4 (bc3 (bc2 (bc1 (nI k))))))]) hx hb dJ6_bitCount_0f7a4_40 rfl hl (by decide) rfl (fun ls hl => ?_)
  refine lv_iload_n hx hb dJ6_bitCount_0f7a4_41 rfl (lv_at hl 0 rfl) ?_
  refine lv_iload_n hx hb dJ6_bitCount_0f7a4_42 rfl (lv_at hl 0 rfl) ?_
  refine lv_bipush (v := nI 16) hx hb dJ6_bitCount_0f7a4_43 (by decide) ?_
  refine q_iushr (v := ((bc4 (bc3 (bc2 (bc1 (nI k))))).toUInt32 >>> ((nI 16).toUInt32 &&& Int32.toUInt32 31)).toInt32) hx hb dJ6_bitCount_0f7a4_45 (rfl) ?_
  refine q_iadd (v := bc5 (bc4 (bc3 (bc2 (bc1 (nI k)))))) hx hb dJ6_bitCount_0f7a4_46 (rfl) ?_
  refine lv_istore_n (lv' := [(0, .int (bc5 (bc4 (bc3 (bc2 (bc1 (nI k)))))))]) hx hb dJ6_bitCount_0f7a4_47 rfl hl (by decide) rfl (fun ls hl => ?_)
  refine lv_iload_n hx hb dJ6_bitCount_0f7a4_48 rfl (lv_at hl 0 rfl) ?_
  refine lv_bipush (v := nI 63) hx hb dJ6_bitCount_0f7a4_49 (by decide) ?_
  refine q_iand (v := nI (pop8 k)) hx hb dJ6_bitCount_0f7a4_51 (q_bc hk) ?_
  exact q_zret (v := nI (pop8 k)) hx hb hr hlocks (rfl) (show nI (pop8 k) = nI (pop8 k) from rfl) dJ6_bitCount_0f7a4_52

set_option maxHeartbeats 4000000 in
set_option maxRecDepth 100000 in
theorem c_X4_trait (l : Launch) {D : va_G} {cI cB cZ : ClassId} {hp : Nat} {ht : Nat} {i : Nat} {k : Nat} {sz : Int32} {fo : Int32} {ss : Int32} {tr : Nat → Int32} (hi : i < 7) (hk : k < 5) : Met l yX4_trait wsX4_trait ({ frames := 0, cells := 0, slots := 0, locals := 0 } : Room) (va_Pc [.ref hp, .int (nI i), .int (nI k)] (q_B D (q_tys cI cB cZ) [(hp, .inr (4, [.ref ht, .int sz, .int fo, .int ss])), (ht, .inl (cI, 35, .inl tr))])) (vp_Si (fun r => r = tr (i * 5 + k))) 0 0 (fun _ => False) := by
  refine Met.ofW (cc := cX4_trait) (maxL := 4) (ret := (some .int)) (by decide) rfl ?_
  intro p e s m args below meth c s₁ B hml hv
  obtain ⟨rfl, hP, hK⟩ := hv
  have hx := B.exec
  have hb := B.bytes
  have hr := B.returns
  have hts := atoms_spec (ws := wsX4_trait) B.pre
  have hown : s.vm.findClass RX4 = some m.cls := findClass_of_methodNamed B.named
  have hlocks := B.notSynchronized
  have hin4 : ∀ w ∈ u_ws RX4 TX4 4, w ∈ wsX4_trait := by decide +kernel
  have hP : va_P D vwCl [(hp, .inr (4, [.ref ht, .int sz, .int fo, .int ss])), (ht, .inl (cI, 35, .inl tr))] s.heap := hP
  have hl := lv_entry ([.ref hp, .int (nI i), .int (nI k)]) (n := 4) (Nat.le_of_ble_eq_true rfl)
  rw [lg_entry_eq]
  generalize (lg_sl ([.ref hp, .int (nI i), .int (nI k)]) ++ List.replicate (4 - (lg_sl ([.ref hp, .int (nI i), .int (nI k)])).length) Slot.unset).toArray = ls at hl ⊢
  have hl : lv_has ls 4 [(0, .ref hp), (1, .int (nI i)), (2, .int (nI k))] := hl
  refine lv_iload_n hx hb dX4_trait_0 rfl (lv_at hl 1 rfl) ?_
  refine lv_iconst (v := nI 5) hx hb dX4_trait_1 (by decide) ?_
  refine q_imul (v := nI (i * 5)) hx hb dX4_trait_2 (q_mul _ _) ?_
  refine lv_iload_n hx hb dX4_trait_3 rfl (lv_at hl 2 rfl) ?_
  refine q_iadd (v := nI ((i * 5) + k)) hx hb dX4_trait_4 (nI_add _ _) ?_
  refine lv_istore_n (lv' := [(3, .int (nI ((i * 5) + k))), (0, .ref hp), (1, .int (nI i)), (2, .int (nI k))]) hx hb dX4_trait_5 rfl hl (by decide) rfl (fun ls hl => ?_)
  refine lv_iload_n hx hb dX4_trait_6 rfl (lv_at hl 0 rfl) ?_
  refine q_zlt (tgt := 28) hx hb dX4_trait_7 (by decide) (by omega) (fun c_7 => ?_) (fun c_7 => ?_)
  · exact absurd c_7 (Nat.not_lt_zero _)
  · refine lv_iload_n hx hb dX4_trait_10 rfl (lv_at hl 0 rfl) ?_
    refine lv_aload_n hx hb dX4_trait_11 rfl (lv_at hl 1 rfl) ?_
    refine q_get (ci := 4) (CC := RX4) (T := TX4) (N := 4) (v := .ref ht) hx hb hts hin4 hown hK hP 0 rfl rfl 0 (by decide) (hts (.fieldLink RX4 9 "DearAsMany$People" "traits" "[I") (by decide +kernel)) rfl rfl dX4_trait_12 ?_
    refine q_alen hx hb hK hP 1 0 rfl rfl dX4_trait_15 ?_
    refine q_nge (tgt := 28) hx hb dX4_trait_16 (by decide) (by omega) (by omega) (fun c_16 => ?_) (fun c_16 => ?_)
    · exfalso; omega
    · refine lv_aload_n hx hb dX4_trait_19 rfl (lv_at hl 1 rfl) ?_
      refine q_get (ci := 4) (CC := RX4) (T := TX4) (N := 4) (v := .ref ht) hx hb hts hin4 hown hK hP 0 rfl rfl 0 (by decide) (hts (.fieldLink RX4 9 "DearAsMany$People" "traits" "[I") (by decide +kernel)) rfl rfl dX4_trait_20 ?_
      refine lv_iload_n hx hb dX4_trait_23 rfl (lv_at hl 0 rfl) ?_
      refine q_ald hx hb hK hP 1 0 rfl rfl (by omega) (by first | decide | omega) dX4_trait_24 ?_
      refine lv_goto (tgt := 29) hx hb dX4_trait_25 (by decide) ?_
      exact q_zret (v := tr ((i * 5) + k)) hx hb hr hlocks (rfl) (show tr ((i * 5) + k) = tr (i * 5 + k) from rfl) dX4_trait_29

set_option maxHeartbeats 4000000 in
set_option maxRecDepth 100000 in
theorem c_X4_sets (l : Launch) {D : va_G} {cI cB cZ : ClassId} {hp : Nat} {ht : Nat} {n : Nat} {fo : Int32} {ss : Int32} (hn : n < 31) : Met l yX4_sets wsX4_sets ({ frames := 0, cells := 0, slots := 0, locals := 0 } : Room) (va_Pc [.ref hp] (q_B D (q_tys cI cB cZ) [(hp, .inr (4, [.ref ht, .int (nI n), .int fo, .int ss]))])) (vp_Si (fun r => r = nI (2 ^ n))) 0 0 (fun _ => False) := by
  refine Met.ofW (cc := cX4_sets) (maxL := 1) (ret := (some .int)) (by decide) rfl ?_
  intro p e s m args below meth c s₁ B hml hv
  obtain ⟨rfl, hP, hK⟩ := hv
  have hx := B.exec
  have hb := B.bytes
  have hr := B.returns
  have hts := atoms_spec (ws := wsX4_sets) B.pre
  have hown : s.vm.findClass RX4 = some m.cls := findClass_of_methodNamed B.named
  have hlocks := B.notSynchronized
  have hin4 : ∀ w ∈ u_ws RX4 TX4 4, w ∈ wsX4_sets := by decide +kernel
  have hP : va_P D vwCl [(hp, .inr (4, [.ref ht, .int (nI n), .int fo, .int ss]))] s.heap := hP
  have hl := lv_entry ([.ref hp]) (n := 1) (Nat.le_of_ble_eq_true rfl)
  rw [lg_entry_eq]
  generalize (lg_sl ([.ref hp]) ++ List.replicate (1 - (lg_sl ([.ref hp])).length) Slot.unset).toArray = ls at hl ⊢
  have hl : lv_has ls 1 [(0, .ref hp)] := hl
  refine lv_iconst (v := nI 1) hx hb dX4_sets_0 (by decide) ?_
  refine lv_aload_n hx hb dX4_sets_1 rfl (lv_at hl 0 rfl) ?_
  refine q_get (ci := 4) (CC := RX4) (T := TX4) (N := 4) (v := .int (nI n)) hx hb hts hin4 hown hK hP 0 rfl rfl 1 (by decide) (hts (.fieldLink RX4 15 "DearAsMany$People" "size" "I") (by decide +kernel)) rfl rfl dX4_sets_2 ?_
  refine q_ishl (v := nI (2 ^ n)) hx hb dX4_sets_5 (q_shl1 hn) ?_
  exact q_zret (v := nI (2 ^ n)) hx hb hr hlocks (rfl) (show nI (2 ^ n) = nI (2 ^ n) from rfl) dX4_sets_6

set_option maxHeartbeats 4000000 in
set_option maxRecDepth 100000 in
theorem c_X2_owns (l : Launch) {D : va_G} {cI cB cZ : ClassId} {hn : Nat} {hq : Nat} {i : Nat} {ow : Nat} (hi : i < 31) (how : ow < 2147483648) : Met l yX2_owns wsX2_owns ({ frames := 2, cells := 0, slots := 0, locals := 41 } : Room) (va_Pc [.ref hn, .int (nI i)] (q_B D (q_tys cI cB cZ) [(hn, .inr (2, [.ref hq, .int (nI ow)]))])) (vp_Si (fun r => r = bI (ow.testBit i))) 0 0 (fun _ => False) := by
  refine Met.ofW (cc := cX2_owns) (maxL := 2) (ret := (some .boolean)) (by decide) rfl ?_
  intro p e s m args below meth c s₁ B hml hv
  obtain ⟨rfl, hP, hK⟩ := hv
  have hx := B.exec
  have hb := B.bytes
  have hr := B.returns
  have hts := atoms_spec (ws := wsX2_owns) B.pre
  have hown : s.vm.findClass RX2 = some m.cls := findClass_of_methodNamed B.named
  have hlocks := B.notSynchronized
  have hin2 : ∀ w ∈ u_ws RX2 TX2 2, w ∈ wsX2_owns := by decide +kernel
  have hP : va_P D vwCl [(hn, .inr (2, [.ref hq, .int (nI ow)]))] s.heap := hP
  have hl := lv_entry ([.ref hn, .int (nI i)]) (n := 2) (Nat.le_of_ble_eq_true rfl)
  rw [lg_entry_eq]
  generalize (lg_sl ([.ref hn, .int (nI i)]) ++ List.replicate (2 - (lg_sl ([.ref hn, .int (nI i)])).length) Slot.unset).toArray = ls at hl ⊢
  have hl : lv_has ls 2 [(0, .ref hn), (1, .int (nI i))] := hl
  refine lv_aload_n hx hb dX2_owns_0 rfl (lv_at hl 0 rfl) ?_
  refine q_get (ci := 2) (CC := RX2) (T := TX2) (N := 2) (v := .int (nI ow)) hx hb hts hin2 hown hK hP 0 rfl rfl 1 (by decide) (hts (.fieldLink RX2 15 "DearAsMany$Holding" "owners" "I") (by decide +kernel)) rfl rfl dX2_owns_1 ?_
  refine lv_iload_n hx hb dX2_owns_4 rfl (lv_at hl 1 rfl) ?_
  refine q_ni (As := [.int (nI ow), .int (nI i)]) (rest := []) ⟨hx, hb, hml, hown, hts⟩ (c_X9_has l (D := D) (cI := cI) (cB := cB) (cZ := cZ) (S := ow) (i := i) (by first | assumption | omega) (by first | assumption | omega)) ⟨va_cnB 2 hts gX2_owns_X9_has_n32 rfl rfl rfl (hK.2.at 5 rfl) (hts (.initialized RX9) (by decide +kernel)) (by decide +kernel) ⟨Nat.le_of_ble_eq_true rfl, Nat.le_of_ble_eq_true rfl⟩, hts (.static yX9_has) (by decide +kernel), trivial⟩ hK hP [] rfl rfl hl.1 rfl (Nat.le_of_ble_eq_true rfl) dX2_owns_5 ⟨Nat.zero_le _, Nat.zero_le _⟩ (fun r_5 hr_5 => ?_)
  obtain rfl : r_5 = bI (ow.testBit i) := hr_5
  exact q_zret (v := bI (ow.testBit i)) hx hb hr hlocks (q_narB _) (show bI (ow.testBit i) = bI (ow.testBit i) from rfl) dX2_owns_8

set_option maxHeartbeats 4000000 in
set_option maxRecDepth 100000 in
theorem c_X2_penniesOf (l : Launch) {D : va_G} {cI cB cZ : ClassId} {hn : Nat} {hq : Nat} {i : Nat} {ow : Int32} {pn : Nat → Int32} (hi : i < 7) : Met l yX2_penniesOf wsX2_penniesOf ({ frames := 1, cells := 0, slots := 0, locals := 21 } : Room) (va_Pc [.ref hn, .int (nI i)] (q_B D (q_tys cI cB cZ) [(hn, .inr (2, [.ref hq, .int ow])), (hq, .inl (cI, 7, .inl pn))])) (vp_Si (fun r => r = pn i)) 0 0 (fun _ => False) := by
  refine Met.ofW (cc := cX2_penniesOf) (maxL := 2) (ret := (some .int)) (by decide) rfl ?_
  intro p e s m args below meth c s₁ B hml hv
  obtain ⟨rfl, hP, hK⟩ := hv
  have hx := B.exec
  have hb := B.bytes
  have hr := B.returns
  have hts := atoms_spec (ws := wsX2_penniesOf) B.pre
  have hown : s.vm.findClass RX2 = some m.cls := findClass_of_methodNamed B.named
  have hlocks := B.notSynchronized
  have hin2 : ∀ w ∈ u_ws RX2 TX2 2, w ∈ wsX2_penniesOf := by decide +kernel
  have hP : va_P D vwCl [(hn, .inr (2, [.ref hq, .int ow])), (hq, .inl (cI, 7, .inl pn))] s.heap := hP
  have hl := lv_entry ([.ref hn, .int (nI i)]) (n := 2) (Nat.le_of_ble_eq_true rfl)
  rw [lg_entry_eq]
  generalize (lg_sl ([.ref hn, .int (nI i)]) ++ List.replicate (2 - (lg_sl ([.ref hn, .int (nI i)])).length) Slot.unset).toArray = ls at hl ⊢
  have hl : lv_has ls 2 [(0, .ref hn), (1, .int (nI i))] := hl
  refine lv_aload_n hx hb dX2_penniesOf_0 rfl (lv_at hl 0 rfl) ?_
  refine q_get (ci := 2) (CC := RX2) (T := TX2) (N := 2) (v := .ref hq) hx hb hts hin2 hown hK hP 0 rfl rfl 0 (by decide) (hts (.fieldLink RX2 9 "DearAsMany$Holding" "pennies" "[I") (by decide +kernel)) rfl rfl dX2_penniesOf_1 ?_
  refine lv_iload_n hx hb dX2_penniesOf_4 rfl (lv_at hl 1 rfl) ?_
  refine q_ni (As := [.ref hq, .int (nI i)]) (rest := []) ⟨hx, hb, hml, hown, hts⟩ (c_X9_at l (D := D) (cI := cI) (cB := cB) (cZ := cZ) (a := hq) (N := 7) (k := i) (f := pn) (by first | assumption | omega) (by first | assumption | omega)) ⟨va_cnB 2 hts gX2_penniesOf_X9_at_n36 rfl rfl rfl (hK.2.at 6 rfl) (hts (.initialized RX9) (by decide +kernel)) (by decide +kernel) ⟨Nat.le_of_ble_eq_true rfl, Nat.le_of_ble_eq_true rfl⟩, hts (.static yX9_at) (by decide +kernel), trivial⟩ hK hP [1] rfl rfl hl.1 rfl (Nat.le_of_ble_eq_true rfl) dX2_penniesOf_5 ⟨Nat.zero_le _, Nat.zero_le _⟩ (fun r_5 hr_5 => ?_)
  obtain rfl : r_5 = pn i := hr_5
  exact q_zret (v := pn i) hx hb hr hlocks (rfl) (show pn i = pn i from rfl) dX2_penniesOf_8

set_option maxHeartbeats 4000000 in
set_option maxRecDepth 100000 in
/-- OTHERS -/
theorem c_X3_othersOf (l : Launch) {D : va_G} {cI cB cZ : ClassId} {hm : Nat} {hp : Nat} {hh : Nat} {ht : Nat} {n : Nat} {fo : Int32} {ss : Int32} {tr : Nat → Int32} {hom : Nat → Int32} {T : Nat → Nat → Nat} {i : Nat} {S : Nat} (hT : q_Tr T n tr) (hB : q_Bd T n) (hH : q_Hm T n hom) (hi : i < n) (hS : S < 2 ^ n) : Met l yX3_othersOf wsX3_othersOf ({ frames := 1, cells := 0, slots := 0, locals := 23 } : Room) (va_Pc [.ref hm, .int (nI i), .int (nI S)] (q_B D (q_tys cI cB cZ) [(hm, .inr (3, [.ref hp, .ref hh])), (hp, .inr (4, [.ref ht, .int (nI n), .int fo, .int ss])), (ht, .inl (cI, 35, .inl tr)), (hh, .inl (cI, 128, .inl hom))])) (vp_Si (fun r => r = nI (q_oth T n i S))) 0 0 (fun _ => False) := by
  refine Met.ofW (cc := cX3_othersOf) (maxL := 3) (ret := (some .int)) (by decide) rfl ?_
  intro p e s m args below meth c s₁ B hml hv
  obtain ⟨rfl, hP, hK⟩ := hv
  have hx := B.exec
  have hb := B.bytes
  have hr := B.returns
  have hts := atoms_spec (ws := wsX3_othersOf) B.pre
  have hown : s.vm.findClass RX3 = some m.cls := findClass_of_methodNamed B.named
  have hlocks := B.notSynchronized
  have hin3 : ∀ w ∈ u_ws RX3 TX3 2, w ∈ wsX3_othersOf := by decide +kernel
  have hP : va_P D vwCl [(hm, .inr (3, [.ref hp, .ref hh])), (hp, .inr (4, [.ref ht, .int (nI n), .int fo, .int ss])), (ht, .inl (cI, 35, .inl tr)), (hh, .inl (cI, 128, .inl hom))] s.heap := hP
  have hl := lv_entry ([.ref hm, .int (nI i), .int (nI S)]) (n := 3) (Nat.le_of_ble_eq_true rfl)
  rw [lg_entry_eq]
  generalize (lg_sl ([.ref hm, .int (nI i), .int (nI S)]) ++ List.replicate (3 - (lg_sl ([.ref hm, .int (nI i), .int (nI S)])).length) Slot.unset).toArray = ls at hl ⊢
  have hl : lv_has ls 3 [(0, .ref hm), (1, .int (nI i)), (2, .int (nI S))] := hl
  refine lv_aload_n hx hb dX3_othersOf_0 rfl (lv_at hl 0 rfl) ?_
  refine q_get (ci := 3) (CC := RX3) (T := TX3) (N := 2) (v := .ref hh) hx hb hts hin3 hown hK hP 0 rfl rfl 1 (by decide) (hts (.fieldLink RX3 18 "DearAsMany$Market" "homes" "[I") (by decide +kernel)) rfl rfl dX3_othersOf_1 ?_
  refine lv_iload_n hx hb dX3_othersOf_4 rfl (lv_at hl 2 rfl) ?_
  refine q_ni (As := [.ref hh, .int (nI S)]) (rest := []) ⟨hx, hb, hml, hown, hts⟩ (c_X9_at l (D := D) (cI := cI) (cB := cB) (cZ := cZ) (a := hh) (N := 128) (k := S) (f := hom) (q_S128 hB hS) (by decide)) ⟨va_cnB 2 hts gX3_othersOf_X9_at_n38 rfl rfl rfl (hK.2.at 9 rfl) (hts (.initialized RX9) (by decide +kernel)) (by decide +kernel) ⟨Nat.le_of_ble_eq_true rfl, Nat.le_of_ble_eq_true rfl⟩, hts (.static yX9_at) (by decide +kernel), trivial⟩ hK hP [3] rfl rfl hl.1 rfl (Nat.le_of_ble_eq_true rfl) dX3_othersOf_5 ⟨Nat.zero_le _, Nat.zero_le _⟩ (fun r_5 hr_5 => ?_)
  have hr_5 : r_5 = nI (q_hm T S n) := Eq.trans (show r_5 = hom S from hr_5) (hH S hS)
  subst hr_5
  refine lv_aload_n hx hb dX3_othersOf_8 rfl (lv_at hl 0 rfl) ?_
  refine q_get (ci := 3) (CC := RX3) (T := TX3) (N := 2) (v := .ref hp) hx hb hts hin3 hown hK hP 0 rfl rfl 0 (by decide) (hts (.fieldLink RX3 12 "DearAsMany$Market" "people" "LDearAsMany$People;") (by decide +kernel)) rfl rfl dX3_othersOf_9 ?_
  refine lv_iload_n hx hb dX3_othersOf_12 rfl (lv_at hl 1 rfl) ?_
  refine lv_iconst (v := nI 3) hx hb dX3_othersOf_13 (by decide) ?_
  refine q_vi (As := [.int (nI i), .int (nI 3)]) (rest := [.int (nI (q_hm T S n))]) ⟨hx, hb, hml, hown, hts⟩ (c_X4_trait l (D := D) (cI := cI) (cB := cB) (cZ := cZ) (hp := hp) (ht := ht) (i := i) (k := 3) (sz := nI n) (fo := fo) (ss := ss) (tr := tr) (by have := hB.1; omega) (by decide)) (cwV 2 hts gX3_othersOf_X4_trait rfl rfl rfl (by decide +kernel) ⟨Nat.le_of_ble_eq_true rfl, Nat.le_of_ble_eq_true rfl⟩) hK hP [1, 2] rfl 1 4 rfl rfl rfl rfl hl.1 rfl (Nat.le_of_ble_eq_true rfl) dX3_othersOf_14 ⟨Nat.zero_le _, Nat.zero_le _⟩ (fun r_14 hr_14 => ?_)
  have hr_14 : r_14 = nI (T i 3) := Eq.trans (show r_14 = tr (i * 5 + 3) from hr_14) (hT i hi 3 (by decide))
  subst hr_14
  refine q_ni (As := [.int (nI (T i 3))]) (rest := [.int (nI (q_hm T S n))]) ⟨hx, hb, hml, hown, hts⟩ (c_X9_bit l (D := D) (cI := cI) (cB := cB) (cZ := cZ) (i := T i 3) (by have := (hB.2 i hi).2.2.2.1; omega)) ⟨va_cnB 1 hts gX3_othersOf_X9_bit_n34 rfl rfl rfl (hK.2.at 8 rfl) (hts (.initialized RX9) (by decide +kernel)) (by decide +kernel) ⟨Nat.le_of_ble_eq_true rfl, Nat.le_of_ble_eq_true rfl⟩, hts (.static yX9_bit) (by decide +kernel), trivial⟩ hK hP [] rfl rfl hl.1 rfl (Nat.le_of_ble_eq_true rfl) dX3_othersOf_17 ⟨Nat.zero_le _, Nat.zero_le _⟩ (fun r_17 hr_17 => ?_)
  obtain rfl : r_17 = nI (2 ^ (T i 3)) := hr_17
  refine lv_iconst (v := (-1 : Int32)) hx hb dX3_othersOf_20 (by decide) ?_
  refine q_ixor (v := (nI (2 ^ (T i 3))) ^^^ (-1 : Int32)) hx hb dX3_othersOf_21 (rfl) ?_
  refine q_iand (v := nI (q_wo (q_hm T S n) (T i 3))) hx hb dX3_othersOf_22 (q_mask8 (q_hm_lt' hB) (hB.2 i hi).2.2.2.1) ?_
  refine q_si (As := [.int (nI (q_wo (q_hm T S n) (T i 3)))]) (rest := []) ⟨hx, hb, hml, hown, hts⟩ (c_J6_bitCount_0f7a4 l (D := D) (cI := cI) (cB := cB) (cZ := cZ) (k := q_wo (q_hm T S n) (T i 3)) (q_wo_lt (q_hm_lt' hB))) (va_cwS 1 hts gX3_othersOf_J6_bitCount_0f7a4 rfl rfl rfl (by decide +kernel) ⟨Nat.le_of_ble_eq_true rfl, Nat.le_of_ble_eq_true rfl⟩) hK hP [] rfl rfl hl.1 rfl (Nat.le_of_ble_eq_true rfl) dX3_othersOf_23 ⟨Nat.zero_le _, Nat.zero_le _⟩ (fun r_23 hr_23 => ?_)
  obtain rfl : r_23 = nI (pop8 (q_wo (q_hm T S n) (T i 3))) := hr_23
  exact q_zret (v := nI (pop8 (q_wo (q_hm T S n) (T i 3)))) hx hb hr hlocks (rfl) (show nI (pop8 (q_wo (q_hm T S n) (T i 3))) = nI (q_oth T n i S) from rfl) dX3_othersOf_26

set_option maxHeartbeats 4000000 in
set_option maxRecDepth 100000 in
theorem c_X3_valueWith (l : Launch) {D : va_G} {cI cB cZ : ClassId} {hm : Nat} {hp : Nat} {hh : Nat} {ht : Nat} {n : Nat} {fo : Int32} {ss : Int32} {tr : Nat → Int32} {hom : Nat → Int32} {T : Nat → Nat → Nat} {i : Nat} {o : Nat} {se : Int32} (hT : q_Tr T n tr) (hB : q_Bd T n) (hH : q_Hm T n hom) (hi : i < n) (ho : o ≤ 8) : Met l yX3_valueWith wsX3_valueWith ({ frames := 1, cells := 0, slots := 0, locals := 24 } : Room) (va_Pc [.ref hm, .int (nI i), .int (nI o), .int se] (q_B D (q_tys cI cB cZ) [(hm, .inr (3, [.ref hp, .ref hh])), (hp, .inr (4, [.ref ht, .int (nI n), .int fo, .int ss])), (ht, .inl (cI, 35, .inl tr)), (hh, .inl (cI, 128, .inl hom))])) (vp_Si (fun r => r = q_wby (T i 0) (nI (T i 1) + (se - nI 50)) (T i 2) o)) 0 0 (fun _ => False) := by
  refine Met.ofW (cc := cX3_valueWith) (maxL := 4) (ret := (some .int)) (by decide) rfl ?_
  intro p e s m args below meth c s₁ B hml hv
  obtain ⟨rfl, hP, hK⟩ := hv
  have hx := B.exec
  have hb := B.bytes
  have hr := B.returns
  have hts := atoms_spec (ws := wsX3_valueWith) B.pre
  have hown : s.vm.findClass RX3 = some m.cls := findClass_of_methodNamed B.named
  have hlocks := B.notSynchronized
  have hin3 : ∀ w ∈ u_ws RX3 TX3 2, w ∈ wsX3_valueWith := by decide +kernel
  have hP : va_P D vwCl [(hm, .inr (3, [.ref hp, .ref hh])), (hp, .inr (4, [.ref ht, .int (nI n), .int fo, .int ss])), (ht, .inl (cI, 35, .inl tr)), (hh, .inl (cI, 128, .inl hom))] s.heap := hP
  have hl := lv_entry ([.ref hm, .int (nI i), .int (nI o), .int se]) (n := 4) (Nat.le_of_ble_eq_true rfl)
  rw [lg_entry_eq]
  generalize (lg_sl ([.ref hm, .int (nI i), .int (nI o), .int se]) ++ List.replicate (4 - (lg_sl ([.ref hm, .int (nI i), .int (nI o), .int se])).length) Slot.unset).toArray = ls at hl ⊢
  have hl : lv_has ls 4 [(0, .ref hm), (1, .int (nI i)), (2, .int (nI o)), (3, .int se)] := hl
  refine lv_aload_n hx hb dX3_valueWith_0 rfl (lv_at hl 0 rfl) ?_
  refine q_get (ci := 3) (CC := RX3) (T := TX3) (N := 2) (v := .ref hp) hx hb hts hin3 hown hK hP 0 rfl rfl 0 (by decide) (hts (.fieldLink RX3 12 "DearAsMany$Market" "people" "LDearAsMany$People;") (by decide +kernel)) rfl rfl dX3_valueWith_1 ?_
  refine lv_iload_n hx hb dX3_valueWith_4 rfl (lv_at hl 1 rfl) ?_
  refine lv_iconst (v := nI 0) hx hb dX3_valueWith_5 (by decide) ?_
  refine q_vi (As := [.int (nI i), .int (nI 0)]) (rest := []) ⟨hx, hb, hml, hown, hts⟩ (c_X4_trait l (D := D) (cI := cI) (cB := cB) (cZ := cZ) (hp := hp) (ht := ht) (i := i) (k := 0) (sz := nI n) (fo := fo) (ss := ss) (tr := tr) (by have := hB.1; omega) (by decide)) (cwV 2 hts gX3_valueWith_X4_trait rfl rfl rfl (by decide +kernel) ⟨Nat.le_of_ble_eq_true rfl, Nat.le_of_ble_eq_true rfl⟩) hK hP [1, 2] rfl 1 4 rfl rfl rfl rfl hl.1 rfl (Nat.le_of_ble_eq_true rfl) dX3_valueWith_6 ⟨Nat.zero_le _, Nat.zero_le _⟩ (fun r_6 hr_6 => ?_)
  have hr_6 : r_6 = nI (T i 0) := Eq.trans (show r_6 = tr (i * 5 + 0) from hr_6) (hT i hi 0 (by decide))
  subst hr_6
  refine lv_aload_n hx hb dX3_valueWith_9 rfl (lv_at hl 0 rfl) ?_
  refine q_get (ci := 3) (CC := RX3) (T := TX3) (N := 2) (v := .ref hp) hx hb hts hin3 hown hK hP 0 rfl rfl 0 (by decide) (hts (.fieldLink RX3 12 "DearAsMany$Market" "people" "LDearAsMany$People;") (by decide +kernel)) rfl rfl dX3_valueWith_10 ?_
  refine lv_iload_n hx hb dX3_valueWith_13 rfl (lv_at hl 1 rfl) ?_
  refine lv_iconst (v := nI 1) hx hb dX3_valueWith_14 (by decide) ?_
  refine q_vi (As := [.int (nI i), .int (nI 1)]) (rest := [.int (nI (T i 0))]) ⟨hx, hb, hml, hown, hts⟩ (c_X4_trait l (D := D) (cI := cI) (cB := cB) (cZ := cZ) (hp := hp) (ht := ht) (i := i) (k := 1) (sz := nI n) (fo := fo) (ss := ss) (tr := tr) (by have := hB.1; omega) (by decide)) (cwV 2 hts gX3_valueWith_X4_trait rfl rfl rfl (by decide +kernel) ⟨Nat.le_of_ble_eq_true rfl, Nat.le_of_ble_eq_true rfl⟩) hK hP [1, 2] rfl 1 4 rfl rfl rfl rfl hl.1 rfl (Nat.le_of_ble_eq_true rfl) dX3_valueWith_15 ⟨Nat.zero_le _, Nat.zero_le _⟩ (fun r_15 hr_15 => ?_)
  have hr_15 : r_15 = nI (T i 1) := Eq.trans (show r_15 = tr (i * 5 + 1) from hr_15) (hT i hi 1 (by decide))
  subst hr_15
  refine lv_aload_n hx hb dX3_valueWith_18 rfl (lv_at hl 0 rfl) ?_
  refine q_get (ci := 3) (CC := RX3) (T := TX3) (N := 2) (v := .ref hp) hx hb hts hin3 hown hK hP 0 rfl rfl 0 (by decide) (hts (.fieldLink RX3 12 "DearAsMany$Market" "people" "LDearAsMany$People;") (by decide +kernel)) rfl rfl dX3_valueWith_19 ?_
  refine lv_iload_n hx hb dX3_valueWith_22 rfl (lv_at hl 1 rfl) ?_
  refine lv_iconst (v := nI 2) hx hb dX3_valueWith_23 (by decide) ?_
  refine q_vi (As := [.int (nI i), .int (nI 2)]) (rest := [.int (nI (T i 1)), .int (nI (T i 0))]) ⟨hx, hb, hml, hown, hts⟩ (c_X4_trait l (D := D) (cI := cI) (cB := cB) (cZ := cZ) (hp := hp) (ht := ht) (i := i) (k := 2) (sz := nI n) (fo := fo) (ss := ss) (tr := tr) (by have := hB.1; omega) (by decide)) (cwV 2 hts gX3_valueWith_X4_trait rfl rfl rfl (by decide +kernel) ⟨Nat.le_of_ble_eq_true rfl, Nat.le_of_ble_eq_true rfl⟩) hK hP [1, 2] rfl 1 4 rfl rfl rfl rfl hl.1 rfl (Nat.le_of_ble_eq_true rfl) dX3_valueWith_24 ⟨Nat.zero_le _, Nat.zero_le _⟩ (fun r_24 hr_24 => ?_)
  have hr_24 : r_24 = nI (T i 2) := Eq.trans (show r_24 = tr (i * 5 + 2) from hr_24) (hT i hi 2 (by decide))
  subst hr_24
  refine lv_iload_n hx hb dX3_valueWith_27 rfl (lv_at hl 3 rfl) ?_
  refine lv_iload_n hx hb dX3_valueWith_28 rfl (lv_at hl 2 rfl) ?_
  refine q_ni (As := [.int (nI (T i 0)), .int (nI (T i 1)), .int (nI (T i 2)), .int se, .int (nI o)]) (rest := []) ⟨hx, hb, hml, hown, hts⟩ (c_X9_valueOf l (D := D) (cI := cI) (cB := cB) (cZ := cZ) (k := T i 0) (cc := T i 2) (o := o) (x := nI (T i 1)) (se := se) ((hB.2 i hi).1) (by first | assumption | omega)) ⟨va_cnB 5 hts gX3_valueWith_X9_valueOf_n58 rfl rfl rfl (hK.2.at 11 rfl) (hts (.initialized RX9) (by decide +kernel)) (by decide +kernel) ⟨Nat.le_of_ble_eq_true rfl, Nat.le_of_ble_eq_true rfl⟩, hts (.static yX9_valueOf) (by decide +kernel), trivial⟩ hK hP [] rfl rfl hl.1 rfl (Nat.le_of_ble_eq_true rfl) dX3_valueWith_29 ⟨Nat.zero_le _, Nat.zero_le _⟩ (fun r_29 hr_29 => ?_)
  obtain rfl : r_29 = q_wby (T i 0) ((nI (T i 1)) + (se - nI 50)) (T i 2) o := hr_29
  exact q_zret (v := q_wby (T i 0) ((nI (T i 1)) + (se - nI 50)) (T i 2) o) hx hb hr hlocks (rfl) (show q_wby (T i 0) ((nI (T i 1)) + (se - nI 50)) (T i 2) o = q_wby (T i 0) (nI (T i 1) + (se - nI 50)) (T i 2) o from rfl) dX3_valueWith_32

set_option maxHeartbeats 4000000 in
set_option maxRecDepth 100000 in
/-- WORTH -/
theorem c_X3_valueTo (l : Launch) {D : va_G} {cI cB cZ : ClassId} {hm : Nat} {hp : Nat} {hh : Nat} {ht : Nat} {n : Nat} {fo : Int32} {ss : Int32} {tr : Nat → Int32} {hom : Nat → Int32} {T : Nat → Nat → Nat} {i : Nat} {S : Nat} {se : Int32} (hT : q_Tr T n tr) (hB : q_Bd T n) (hH : q_Hm T n hom) (hi : i < n) (hS : S < 2 ^ n) : Met l yX3_valueTo wsX3_valueTo ({ frames := 2, cells := 0, slots := 0, locals := 47 } : Room) (va_Pc [.ref hm, .int (nI i), .int (nI S), .int se] (q_B D (q_tys cI cB cZ) [(hm, .inr (3, [.ref hp, .ref hh])), (hp, .inr (4, [.ref ht, .int (nI n), .int fo, .int ss])), (ht, .inl (cI, 35, .inl tr)), (hh, .inl (cI, 128, .inl hom))])) (vp_Si (fun r => r = q_wor T n se i S)) 0 0 (fun _ => False) := by
  refine Met.ofW (cc := cX3_valueTo) (maxL := 4) (ret := (some .int)) (by decide) rfl ?_
  intro p e s m args below meth c s₁ B hml hv
  obtain ⟨rfl, hP, hK⟩ := hv
  have hx := B.exec
  have hb := B.bytes
  have hr := B.returns
  have hts := atoms_spec (ws := wsX3_valueTo) B.pre
  have hown : s.vm.findClass RX3 = some m.cls := findClass_of_methodNamed B.named
  have hlocks := B.notSynchronized
  have hP : va_P D vwCl [(hm, .inr (3, [.ref hp, .ref hh])), (hp, .inr (4, [.ref ht, .int (nI n), .int fo, .int ss])), (ht, .inl (cI, 35, .inl tr)), (hh, .inl (cI, 128, .inl hom))] s.heap := hP
  have hl := lv_entry ([.ref hm, .int (nI i), .int (nI S), .int se]) (n := 4) (Nat.le_of_ble_eq_true rfl)
  rw [lg_entry_eq]
  generalize (lg_sl ([.ref hm, .int (nI i), .int (nI S), .int se]) ++ List.replicate (4 - (lg_sl ([.ref hm, .int (nI i), .int (nI S), .int se])).length) Slot.unset).toArray = ls at hl ⊢
  have hl : lv_has ls 4 [(0, .ref hm), (1, .int (nI i)), (2, .int (nI S)), (3, .int se)] := hl
  refine lv_aload_n hx hb dX3_valueTo_0 rfl (lv_at hl 0 rfl) ?_
  refine lv_iload_n hx hb dX3_valueTo_1 rfl (lv_at hl 1 rfl) ?_
  refine lv_aload_n hx hb dX3_valueTo_2 rfl (lv_at hl 0 rfl) ?_
  refine lv_iload_n hx hb dX3_valueTo_3 rfl (lv_at hl 1 rfl) ?_
  refine lv_iload_n hx hb dX3_valueTo_4 rfl (lv_at hl 2 rfl) ?_
  refine q_vi (As := [.int (nI i), .int (nI S)]) (rest := [.int (nI i), .ref hm]) ⟨hx, hb, hml, hown, hts⟩ (c_X3_othersOf l (D := D) (cI := cI) (cB := cB) (cZ := cZ) (hm := hm) (hp := hp) (hh := hh) (ht := ht) (n := n) (fo := fo) (ss := ss) (tr := tr) (hom := hom) (T := T) (i := i) (S := S) (by first | assumption | omega) (by first | assumption | omega) (by first | assumption | omega) (by first | assumption | omega) (by first | assumption | omega)) (cwV 2 hts gX3_valueTo_X3_othersOf rfl rfl rfl (by decide +kernel) ⟨Nat.le_of_ble_eq_true rfl, Nat.le_of_ble_eq_true rfl⟩) hK hP [0, 1, 2, 3] rfl 0 3 rfl rfl rfl rfl hl.1 rfl (Nat.le_of_ble_eq_true rfl) dX3_valueTo_5 ⟨Nat.zero_le _, Nat.zero_le _⟩ (fun r_5 hr_5 => ?_)
  obtain rfl : r_5 = nI (q_oth T n i S) := hr_5
  refine lv_iload_n hx hb dX3_valueTo_8 rfl (lv_at hl 3 rfl) ?_
  refine q_vi (As := [.int (nI i), .int (nI (q_oth T n i S)), .int se]) (rest := []) ⟨hx, hb, hml, hown, hts⟩ (c_X3_valueWith l (D := D) (cI := cI) (cB := cB) (cZ := cZ) (hm := hm) (hp := hp) (hh := hh) (ht := ht) (n := n) (fo := fo) (ss := ss) (tr := tr) (hom := hom) (T := T) (i := i) (o := q_oth T n i S) (se := se) (by first | assumption | omega) (by first | assumption | omega) (by first | assumption | omega) (by first | assumption | omega) (q_oth_le _ _ _ _)) (cwV 3 hts gX3_valueTo_X3_valueWith rfl rfl rfl (by decide +kernel) ⟨Nat.le_of_ble_eq_true rfl, Nat.le_of_ble_eq_true rfl⟩) hK hP [0, 1, 2, 3] rfl 0 3 rfl rfl rfl rfl hl.1 rfl (Nat.le_of_ble_eq_true rfl) dX3_valueTo_9 ⟨Nat.zero_le _, Nat.zero_le _⟩ (fun r_9 hr_9 => ?_)
  obtain rfl : r_9 = q_wby (T i 0) (nI (T i 1) + (se - nI 50)) (T i 2) (q_oth T n i S) := hr_9
  exact q_zret (v := q_wby (T i 0) (nI (T i 1) + (se - nI 50)) (T i 2) (q_oth T n i S)) hx hb hr hlocks (rfl) (show q_wby (T i 0) (nI (T i 1) + (se - nI 50)) (T i 2) (q_oth T n i S) = q_wor T n se i S from rfl) dX3_valueTo_12

set_option maxHeartbeats 4000000 in
set_option maxRecDepth 100000 in
/-- who owns none WOULD buy -/
theorem c_X3_wants (l : Launch) {D : va_G} {cI cB cZ : ClassId} {hm : Nat} {hp : Nat} {hh : Nat} {ht : Nat} {n : Nat} {fo : Int32} {ss : Int32} {tr : Nat → Int32} {hom : Nat → Int32} {T : Nat → Nat → Nat} {i : Nat} {S : Nat} {se : Int32} (hT : q_Tr T n tr) (hB : q_Bd T n) (hH : q_Hm T n hom) (hi : i < n) (hS : S < 2 ^ n) : Met l yX3_wants wsX3_wants ({ frames := 2, cells := 0, slots := 0, locals := 47 } : Room) (va_Pc [.ref hm, .int (nI i), .int (nI S), .int se] (q_B D (q_tys cI cB cZ) [(hm, .inr (3, [.ref hp, .ref hh])), (hp, .inr (4, [.ref ht, .int (nI n), .int fo, .int ss])), (ht, .inl (cI, 35, .inl tr)), (hh, .inl (cI, 128, .inl hom))])) (vp_Si (fun r => r = bI (q_want T n se i S))) 0 0 (fun _ => False) := by
  refine Met.ofW (cc := cX3_wants) (maxL := 5) (ret := (some .boolean)) (by decide) rfl ?_
  intro p e s m args below meth c s₁ B hml hv
  obtain ⟨rfl, hP, hK⟩ := hv
  have hx := B.exec
  have hb := B.bytes
  have hr := B.returns
  have hts := atoms_spec (ws := wsX3_wants) B.pre
  have hown : s.vm.findClass RX3 = some m.cls := findClass_of_methodNamed B.named
  have hlocks := B.notSynchronized
  have hP : va_P D vwCl [(hm, .inr (3, [.ref hp, .ref hh])), (hp, .inr (4, [.ref ht, .int (nI n), .int fo, .int ss])), (ht, .inl (cI, 35, .inl tr)), (hh, .inl (cI, 128, .inl hom))] s.heap := hP
  have hl := lv_entry ([.ref hm, .int (nI i), .int (nI S), .int se]) (n := 5) (Nat.le_of_ble_eq_true rfl)
  rw [lg_entry_eq]
  generalize (lg_sl ([.ref hm, .int (nI i), .int (nI S), .int se]) ++ List.replicate (5 - (lg_sl ([.ref hm, .int (nI i), .int (nI S), .int se])).length) Slot.unset).toArray = ls at hl ⊢
  have hl : lv_has ls 5 [(0, .ref hm), (1, .int (nI i)), (2, .int (nI S)), (3, .int se)] := hl
  refine lv_aload_n hx hb dX3_wants_0 rfl (lv_at hl 0 rfl) ?_
  refine lv_iload_n hx hb dX3_wants_1 rfl (lv_at hl 1 rfl) ?_
  refine lv_iload_n hx hb dX3_wants_2 rfl (lv_at hl 2 rfl) ?_
  refine q_vi (As := [.int (nI i), .int (nI S)]) (rest := []) ⟨hx, hb, hml, hown, hts⟩ (c_X3_othersOf l (D := D) (cI := cI) (cB := cB) (cZ := cZ) (hm := hm) (hp := hp) (hh := hh) (ht := ht) (n := n) (fo := fo) (ss := ss) (tr := tr) (hom := hom) (T := T) (i := i) (S := S) (by first | assumption | omega) (by first | assumption | omega) (by first | assumption | omega) (by first | assumption | omega) (by first | assumption | omega)) (cwV 2 hts gX3_wants_X3_othersOf rfl rfl rfl (by decide +kernel) ⟨Nat.le_of_ble_eq_true rfl, Nat.le_of_ble_eq_true rfl⟩) hK hP [0, 1, 2, 3] rfl 0 3 rfl rfl rfl rfl hl.1 rfl (Nat.le_of_ble_eq_true rfl) dX3_wants_3 ⟨Nat.zero_le _, Nat.zero_le _⟩ (fun r_3 hr_3 => ?_)
  obtain rfl : r_3 = nI (q_oth T n i S) := hr_3
  refine lv_istore (lv' := [(4, .int (nI (q_oth T n i S))), (0, .ref hm), (1, .int (nI i)), (2, .int (nI S)), (3, .int se)]) hx hb dX3_wants_6 hl (by decide) rfl (fun ls hl => ?_)
  refine lv_aload_n hx hb dX3_wants_8 rfl (lv_at hl 1 rfl) ?_
  refine lv_iload_n hx hb dX3_wants_9 rfl (lv_at hl 2 rfl) ?_
  refine lv_iload hx hb dX3_wants_10 (lv_at hl 0 rfl) ?_
  refine lv_iload_n hx hb dX3_wants_12 rfl (lv_at hl 4 rfl) ?_
  refine q_vi (As := [.int (nI i), .int (nI (q_oth T n i S)), .int se]) (rest := []) ⟨hx, hb, hml, hown, hts⟩ (c_X3_valueWith l (D := D) (cI := cI) (cB := cB) (cZ := cZ) (hm := hm) (hp := hp) (hh := hh) (ht := ht) (n := n) (fo := fo) (ss := ss) (tr := tr) (hom := hom) (T := T) (i := i) (o := q_oth T n i S) (se := se) (by first | assumption | omega) (by first | assumption | omega) (by first | assumption | omega) (by first | assumption | omega) (q_oth_le _ _ _ _)) (cwV 3 hts gX3_wants_X3_valueWith rfl rfl rfl (by decide +kernel) ⟨Nat.le_of_ble_eq_true rfl, Nat.le_of_ble_eq_true rfl⟩) hK hP [0, 1, 2, 3] rfl 0 3 rfl rfl rfl rfl hl.1 rfl (Nat.le_of_ble_eq_true rfl) dX3_wants_13 ⟨Nat.zero_le _, Nat.zero_le _⟩ (fun r_13 hr_13 => ?_)
  obtain rfl : r_13 = q_wby (T i 0) (nI (T i 1) + (se - nI 50)) (T i 2) (q_oth T n i S) := hr_13
  refine lv_iload hx hb dX3_wants_16 (lv_at hl 0 rfl) ?_
  refine lv_icmp_le (x := q_wby (T i 0) (nI (T i 1) + (se - nI 50)) (T i 2) (q_oth T n i S)) (y := nI (q_oth T n i S)) (tgt := 25) hx hb dX3_wants_18 (by decide) (fun c_18 => ?_) (fun c_18 => ?_)
  · refine lv_iconst (v := nI 0) hx hb dX3_wants_25 (by decide) ?_
    exact q_zret (v := nI 0) hx hb hr hlocks (q_nar0) (show nI 0 = bI (q_want T n se i S) from by rw [show q_want T n se i S = false from q_dF c_18]; rfl) dX3_wants_26
  · refine lv_iconst (v := nI 1) hx hb dX3_wants_21 (by decide) ?_
    refine lv_goto (tgt := 26) hx hb dX3_wants_22 (by decide) ?_
    exact q_zret (v := nI 1) hx hb hr hlocks (q_nar1) (show nI 1 = bI (q_want T n se i S) from by rw [show q_want T n se i S = true from q_dT c_18]; rfl) dX3_wants_26

set_option maxHeartbeats 4000000 in
set_option maxRecDepth 100000 in
theorem c_X3_changes (l : Launch) {D : va_G} {cI cB cZ : ClassId} {hm : Nat} {hp : Nat} {hh : Nat} {ht : Nat} {n : Nat} {fo : Int32} {ss : Int32} {tr : Nat → Int32} {hom : Nat → Int32} {T : Nat → Nat → Nat} {i : Nat} {S : Nat} {se : Int32} (hT : q_Tr T n tr) (hB : q_Bd T n) (hH : q_Hm T n hom) (hi : i < n) (hS : S < 2 ^ n) : Met l yX3_changes wsX3_changes ({ frames := 2, cells := 0, slots := 0, locals := 47 } : Room) (va_Pc [.ref hm, .int (nI i), .int (nI S), .int se] (q_B D (q_tys cI cB cZ) [(hm, .inr (3, [.ref hp, .ref hh])), (hp, .inr (4, [.ref ht, .int (nI n), .int fo, .int ss])), (ht, .inl (cI, 35, .inl tr)), (hh, .inl (cI, 128, .inl hom))])) (vp_Si (fun r => r = bI (q_chg T n se i S))) 0 0 (fun _ => False) := by
  refine Met.ofW (cc := cX3_changes) (maxL := 6) (ret := (some .boolean)) (by decide) rfl ?_
  intro p e s m args below meth c s₁ B hml hv
  obtain ⟨rfl, hP, hK⟩ := hv
  have hx := B.exec
  have hb := B.bytes
  have hr := B.returns
  have hts := atoms_spec (ws := wsX3_changes) B.pre
  have hown : s.vm.findClass RX3 = some m.cls := findClass_of_methodNamed B.named
  have hlocks := B.notSynchronized
  have hP : va_P D vwCl [(hm, .inr (3, [.ref hp, .ref hh])), (hp, .inr (4, [.ref ht, .int (nI n), .int fo, .int ss])), (ht, .inl (cI, 35, .inl tr)), (hh, .inl (cI, 128, .inl hom))] s.heap := hP
  have hl := lv_entry ([.ref hm, .int (nI i), .int (nI S), .int se]) (n := 6) (Nat.le_of_ble_eq_true rfl)
  rw [lg_entry_eq]
  generalize (lg_sl ([.ref hm, .int (nI i), .int (nI S), .int se]) ++ List.replicate (6 - (lg_sl ([.ref hm, .int (nI i), .int (nI S), .int se])).length) Slot.unset).toArray = ls at hl ⊢
  have hl : lv_has ls 6 [(0, .ref hm), (1, .int (nI i)), (2, .int (nI S)), (3, .int se)] := hl
  refine lv_aload_n hx hb dX3_changes_0 rfl (lv_at hl 0 rfl) ?_
  refine lv_iload_n hx hb dX3_changes_1 rfl (lv_at hl 1 rfl) ?_
  refine lv_iload_n hx hb dX3_changes_2 rfl (lv_at hl 2 rfl) ?_
  refine q_vi (As := [.int (nI i), .int (nI S)]) (rest := []) ⟨hx, hb, hml, hown, hts⟩ (c_X3_othersOf l (D := D) (cI := cI) (cB := cB) (cZ := cZ) (hm := hm) (hp := hp) (hh := hh) (ht := ht) (n := n) (fo := fo) (ss := ss) (tr := tr) (hom := hom) (T := T) (i := i) (S := S) (by first | assumption | omega) (by first | assumption | omega) (by first | assumption | omega) (by first | assumption | omega) (by first | assumption | omega)) (cwV 2 hts gX3_changes_X3_othersOf rfl rfl rfl (by decide +kernel) ⟨Nat.le_of_ble_eq_true rfl, Nat.le_of_ble_eq_true rfl⟩) hK hP [0, 1, 2, 3] rfl 0 3 rfl rfl rfl rfl hl.1 rfl (Nat.le_of_ble_eq_true rfl) dX3_changes_3 ⟨Nat.zero_le _, Nat.zero_le _⟩ (fun r_3 hr_3 => ?_)
  obtain rfl : r_3 = nI (q_oth T n i S) := hr_3
  refine lv_istore (lv' := [(4, .int (nI (q_oth T n i S))), (0, .ref hm), (1, .int (nI i)), (2, .int (nI S)), (3, .int se)]) hx hb dX3_changes_6 hl (by decide) rfl (fun ls hl => ?_)
  refine lv_aload_n hx hb dX3_changes_8 rfl (lv_at hl 1 rfl) ?_
  refine lv_iload_n hx hb dX3_changes_9 rfl (lv_at hl 2 rfl) ?_
  refine lv_iload hx hb dX3_changes_10 (lv_at hl 0 rfl) ?_
  refine lv_iload_n hx hb dX3_changes_12 rfl (lv_at hl 4 rfl) ?_
  refine q_vi (As := [.int (nI i), .int (nI (q_oth T n i S)), .int se]) (rest := []) ⟨hx, hb, hml, hown, hts⟩ (c_X3_valueWith l (D := D) (cI := cI) (cB := cB) (cZ := cZ) (hm := hm) (hp := hp) (hh := hh) (ht := ht) (n := n) (fo := fo) (ss := ss) (tr := tr) (hom := hom) (T := T) (i := i) (o := q_oth T n i S) (se := se) (by first | assumption | omega) (by first | assumption | omega) (by first | assumption | omega) (by first | assumption | omega) (q_oth_le _ _ _ _)) (cwV 3 hts gX3_changes_X3_valueWith rfl rfl rfl (by decide +kernel) ⟨Nat.le_of_ble_eq_true rfl, Nat.le_of_ble_eq_true rfl⟩) hK hP [0, 1, 2, 3] rfl 0 3 rfl rfl rfl rfl hl.1 rfl (Nat.le_of_ble_eq_true rfl) dX3_changes_13 ⟨Nat.zero_le _, Nat.zero_le _⟩ (fun r_13 hr_13 => ?_)
  obtain rfl : r_13 = q_wby (T i 0) (nI (T i 1) + (se - nI 50)) (T i 2) (q_oth T n i S) := hr_13
  refine lv_istore (lv' := [(5, .int (q_wby (T i 0) (nI (T i 1) + (se - nI 50)) (T i 2) (q_oth T n i S))), (4, .int (nI (q_oth T n i S))), (0, .ref hm), (1, .int (nI i)), (2, .int (nI S)), (3, .int se)]) hx hb dX3_changes_16 hl (by decide) rfl (fun ls hl => ?_)
  refine lv_iload_n hx hb dX3_changes_18 rfl (lv_at hl 4 rfl) ?_
  refine lv_iload_n hx hb dX3_changes_19 rfl (lv_at hl 3 rfl) ?_
  refine q_ni (As := [.int (nI S), .int (nI i)]) (rest := []) ⟨hx, hb, hml, hown, hts⟩ (c_X9_has l (D := D) (cI := cI) (cB := cB) (cZ := cZ) (S := S) (i := i) (by have := hB.1; omega) (by have := q_S128 hB hS; omega)) ⟨va_cnB 2 hts gX3_changes_X9_has_n62 rfl rfl rfl (hK.2.at 12 rfl) (hts (.initialized RX9) (by decide +kernel)) (by decide +kernel) ⟨Nat.le_of_ble_eq_true rfl, Nat.le_of_ble_eq_true rfl⟩, hts (.static yX9_has) (by decide +kernel), trivial⟩ hK hP [] rfl rfl hl.1 rfl (Nat.le_of_ble_eq_true rfl) dX3_changes_20 ⟨Nat.zero_le _, Nat.zero_le _⟩ (fun r_20 hr_20 => ?_)
  obtain rfl : r_20 = bI (S.testBit i) := hr_20
  refine q_beq (tgt := 39) hx hb dX3_changes_23 (by decide) (fun c_23 => ?_) (fun c_23 => ?_)
  · refine lv_iload hx hb dX3_changes_39 (lv_at hl 0 rfl) ?_
    refine lv_iload hx hb dX3_changes_41 (lv_at hl 1 rfl) ?_
    refine lv_icmp_le (x := q_wby (T i 0) (nI (T i 1) + (se - nI 50)) (T i 2) (q_oth T n i S)) (y := nI (q_oth T n i S)) (tgt := 50) hx hb dX3_changes_43 (by decide) (fun c_43 => ?_) (fun c_43 => ?_)
    · refine lv_iconst (v := nI 0) hx hb dX3_changes_50 (by decide) ?_
      exact q_zret (v := nI 0) hx hb hr hlocks (q_nar0) (show nI 0 = bI (q_chg T n se i S) from by rw [show q_chg T n se i S = false from by unfold q_chg; rw [if_neg (by rw [c_23]; decide)]; exact q_dF c_43]; rfl) dX3_changes_51
    · refine lv_iconst (v := nI 1) hx hb dX3_changes_46 (by decide) ?_
      refine lv_goto (tgt := 51) hx hb dX3_changes_47 (by decide) ?_
      exact q_zret (v := nI 1) hx hb hr hlocks (q_nar1) (show nI 1 = bI (q_chg T n se i S) from by rw [show q_chg T n se i S = true from by unfold q_chg; rw [if_neg (by rw [c_23]; decide)]; exact q_dT c_43]; rfl) dX3_changes_51
  · refine lv_iload hx hb dX3_changes_26 (lv_at hl 0 rfl) ?_
    refine lv_if_ge (x := q_wby (T i 0) (nI (T i 1) + (se - nI 50)) (T i 2) (q_oth T n i S)) (tgt := 35) hx hb dX3_changes_28 (by decide) (fun c_28 => ?_) (fun c_28 => ?_)
    · refine lv_iconst (v := nI 0) hx hb dX3_changes_35 (by decide) ?_
      refine lv_goto (tgt := 51) hx hb dX3_changes_36 (by decide) ?_
      exact q_zret (v := nI 0) hx hb hr hlocks (q_nar0) (show nI 0 = bI (q_chg T n se i S) from by rw [show q_chg T n se i S = false from by unfold q_chg; rw [if_pos c_23]; exact q_dF c_28]; rfl) dX3_changes_51
    · refine lv_iconst (v := nI 1) hx hb dX3_changes_31 (by decide) ?_
      refine lv_goto (tgt := 51) hx hb dX3_changes_32 (by decide) ?_
      exact q_zret (v := nI 1) hx hb hr hlocks (q_nar1) (show nI 1 = bI (q_chg T n se i S) from by rw [show q_chg T n se i S = true from by unfold q_chg; rw [if_pos c_23]; exact q_dT c_28]; rfl) dX3_changes_51

set_option maxHeartbeats 4000000 in
set_option maxRecDepth 100000 in
theorem c_X3_changersBy (l : Launch) {D : va_G} {cI cB cZ : ClassId} {hm : Nat} {hp : Nat} {hh : Nat} {ht : Nat} {n : Nat} {fo : Int32} {ss : Int32} {tr : Nat → Int32} {hom : Nat → Int32} {T : Nat → Nat → Nat} {S : Nat} {se : Int32} (hT : q_Tr T n tr) (hB : q_Bd T n) (hH : q_Hm T n hom) (hS : S < 2 ^ n) : Met l yX3_changersBy wsX3_changersBy ({ frames := 3, cells := 0, slots := 0, locals := 72 } : Room) (va_Pc [.ref hm, .int (nI S), .int se] (q_B D (q_tys cI cB cZ) [(hm, .inr (3, [.ref hp, .ref hh])), (hp, .inr (4, [.ref ht, .int (nI n), .int fo, .int ss])), (ht, .inl (cI, 35, .inl tr)), (hh, .inl (cI, 128, .inl hom))])) (vp_Si (fun r => r = nI (q_cs T n se S n))) 0 0 (fun _ => False) := by
  refine Met.ofW (cc := cX3_changersBy) (maxL := 5) (ret := (some .int)) (by decide) rfl ?_
  intro p e s m args below meth c s₁ B hml hv
  obtain ⟨rfl, hP, hK⟩ := hv
  have hx := B.exec
  have hb := B.bytes
  have hr := B.returns
  have hts := atoms_spec (ws := wsX3_changersBy) B.pre
  have hown : s.vm.findClass RX3 = some m.cls := findClass_of_methodNamed B.named
  have hlocks := B.notSynchronized
  have hin3 : ∀ w ∈ u_ws RX3 TX3 2, w ∈ wsX3_changersBy := by decide +kernel
  have hin4 : ∀ w ∈ u_ws RX4 TX4 4, w ∈ wsX3_changersBy := by decide +kernel
  have hP : va_P D vwCl [(hm, .inr (3, [.ref hp, .ref hh])), (hp, .inr (4, [.ref ht, .int (nI n), .int fo, .int ss])), (ht, .inl (cI, 35, .inl tr)), (hh, .inl (cI, 128, .inl hom))] s.heap := hP
  have hl := lv_entry ([.ref hm, .int (nI S), .int se]) (n := 5) (Nat.le_of_ble_eq_true rfl)
  rw [lg_entry_eq]
  generalize (lg_sl ([.ref hm, .int (nI S), .int se]) ++ List.replicate (5 - (lg_sl ([.ref hm, .int (nI S), .int se])).length) Slot.unset).toArray = ls at hl ⊢
  have hl : lv_has ls 5 [(0, .ref hm), (1, .int (nI S)), (2, .int se)] := hl
  have hn7 := hB.1
  have L5 : ∀ (fuel : Nat) (i : Nat) (hi : i ≤ n) (hf : n - i < fuel) (ls : Array Slot) (hl : lv_has ls 5 [(0, .ref hm), (1, .int (nI S)), (2, .int se), (3, .int (nI (q_cs T n se S i))), (4, .int (nI i))]), W p l e (headSpec wsX3_changersBy ({ frames := 3, cells := 0, slots := 0, locals := 72 } : Room)).room s m ([.ref hm, .int (nI S), .int se] : List Value).toArray below meth c s.heap [] 0 0 (MQ below (vp_Si (fun r => r = nI (q_cs T n se S n))) ([.ref hm, .int (nI S), .int se] : List Value).toArray s 0 0 (fun _ => False)) (F0 m 5 ls []) := by
    intro fuel
    induction fuel with
    | zero =>
      intro i hi hf ls hl
      exact absurd hf (Nat.not_lt_zero _)
    | succ fuel ih5 =>
      intro i hi hf ls hl
      refine lv_iload hx hb dX3_changersBy_5 (lv_at hl 4 rfl) ?_
      refine lv_aload_n hx hb dX3_changersBy_7 rfl (lv_at hl 0 rfl) ?_
      refine q_get (ci := 3) (CC := RX3) (T := TX3) (N := 2) (v := .ref hp) hx hb hts hin3 hown hK hP 0 rfl rfl 0 (by decide) (hts (.fieldLink RX3 12 "DearAsMany$Market" "people" "LDearAsMany$People;") (by decide +kernel)) rfl rfl dX3_changersBy_8 ?_
      refine q_get (ci := 4) (CC := RX4) (T := TX4) (N := 4) (v := .int (nI n)) hx hb hts hin4 hown hK hP 1 rfl rfl 1 (by decide) (hts (.fieldLink RX3 26 "DearAsMany$People" "size" "I") (by decide +kernel)) rfl rfl dX3_changersBy_11 ?_
      refine q_nge (tgt := 42) hx hb dX3_changersBy_14 (by decide) (by omega) (by omega) (fun c_14 => ?_) (fun c_14 => ?_)
      · refine lv_iload_n hx hb dX3_changersBy_42 rfl (lv_at hl 3 rfl) ?_
        exact q_zret (v := nI (q_cs T n se S i)) hx hb hr hlocks (rfl) (show nI (q_cs T n se S i) = nI (q_cs T n se S n) from by rw [show i = n from by omega]) dX3_changersBy_43
      · refine lv_aload_n hx hb dX3_changersBy_17 rfl (lv_at hl 0 rfl) ?_
        refine lv_iload hx hb dX3_changersBy_18 (lv_at hl 4 rfl) ?_
        refine lv_iload_n hx hb dX3_changersBy_20 rfl (lv_at hl 1 rfl) ?_
        refine lv_iload_n hx hb dX3_changersBy_21 rfl (lv_at hl 2 rfl) ?_
        refine q_vi (As := [.int (nI i), .int (nI S), .int se]) (rest := []) ⟨hx, hb, hml, hown, hts⟩ (c_X3_changes l (D := D) (cI := cI) (cB := cB) (cZ := cZ) (hm := hm) (hp := hp) (hh := hh) (ht := ht) (n := n) (fo := fo) (ss := ss) (tr := tr) (hom := hom) (T := T) (i := i) (S := S) (se := se) (by first | assumption | omega) (by first | assumption | omega) (by first | assumption | omega) (by omega) (by first | assumption | omega)) (cwV 3 hts gX3_changersBy_X3_changes rfl rfl rfl (by decide +kernel) ⟨Nat.le_of_ble_eq_true rfl, Nat.le_of_ble_eq_true rfl⟩) hK hP [0, 1, 2, 3] rfl 0 3 rfl rfl rfl rfl hl.1 rfl (Nat.le_of_ble_eq_true rfl) dX3_changersBy_22 ⟨Nat.zero_le _, Nat.zero_le _⟩ (fun r_22 hr_22 => ?_)
        obtain rfl : r_22 = bI (q_chg T n se i S) := hr_22
        refine q_beq (tgt := 36) hx hb dX3_changersBy_25 (by decide) (fun c_25 => ?_) (fun c_25 => ?_)
        · refine lv_iinc (v := nI (i + 1)) (lv' := [(4, .int (nI (i + 1))), (0, .ref hm), (1, .int (nI S)), (2, .int se), (3, .int (nI (q_cs T n se S i)))]) hx hb dX3_changersBy_36 hl (k := 4) rfl (nI_add _ 1) (by decide) rfl (fun ls hl => ?_)
          refine lv_goto (tgt := 5) hx hb dX3_changersBy_39 (by decide) ?_
          have hl : lv_has ls 5 [(4, .int (nI (i + 1))), (0, .ref hm), (1, .int (nI S)), (2, .int se), (3, .int (nI (q_cs T n se S (i + 1))))] := by rw [← show nI (q_cs T n se S i) = nI (q_cs T n se S (i + 1)) from by show nI _ = nI (if q_chg T n se i S then _ else _); rw [if_neg (by rw [c_25]; decide)]]; exact hl
          exact ih5 (i + 1) (by first | assumption | omega) (by omega) ls (lv_sub hl [1, 2, 3, 4, 0] rfl)
        · refine lv_iload_n hx hb dX3_changersBy_28 rfl (lv_at hl 3 rfl) ?_
          refine lv_iload hx hb dX3_changersBy_29 (lv_at hl 4 rfl) ?_
          refine q_ni (As := [.int (nI i)]) (rest := [.int (nI (q_cs T n se S i))]) ⟨hx, hb, hml, hown, hts⟩ (c_X9_bit l (D := D) (cI := cI) (cB := cB) (cZ := cZ) (i := i) (by omega)) ⟨va_cnB 1 hts gX3_changersBy_X9_bit_n34 rfl rfl rfl (hK.2.at 8 rfl) (hts (.initialized RX9) (by decide +kernel)) (by decide +kernel) ⟨Nat.le_of_ble_eq_true rfl, Nat.le_of_ble_eq_true rfl⟩, hts (.static yX9_bit) (by decide +kernel), trivial⟩ hK hP [] rfl rfl hl.1 rfl (Nat.le_of_ble_eq_true rfl) dX3_changersBy_31 ⟨Nat.zero_le _, Nat.zero_le _⟩ (fun r_31 hr_31 => ?_)
          obtain rfl : r_31 = nI (2 ^ i) := hr_31
          refine q_ior (v := nI ((q_cs T n se S i) ||| (2 ^ i))) hx hb dX3_changersBy_34 (q_or _ _) ?_
          refine lv_istore_n (lv' := [(3, .int (nI ((q_cs T n se S i) ||| (2 ^ i)))), (0, .ref hm), (1, .int (nI S)), (2, .int se), (4, .int (nI i))]) hx hb dX3_changersBy_35 rfl hl (by decide) rfl (fun ls hl => ?_)
          refine lv_iinc (v := nI (i + 1)) (lv' := [(4, .int (nI (i + 1))), (3, .int (nI ((q_cs T n se S i) ||| (2 ^ i)))), (0, .ref hm), (1, .int (nI S)), (2, .int se)]) hx hb dX3_changersBy_36 hl (k := 4) rfl (nI_add _ 1) (by decide) rfl (fun ls hl => ?_)
          refine lv_goto (tgt := 5) hx hb dX3_changersBy_39 (by decide) ?_
          have hl : lv_has ls 5 [(4, .int (nI (i + 1))), (3, .int (nI (q_cs T n se S (i + 1)))), (0, .ref hm), (1, .int (nI S)), (2, .int se)] := by rw [← show nI ((q_cs T n se S i) ||| (2 ^ i)) = nI (q_cs T n se S (i + 1)) from by show nI _ = nI (if q_chg T n se i S then _ else _); rw [if_pos c_25]]; exact hl
          exact ih5 (i + 1) (by first | assumption | omega) (by omega) ls (lv_sub hl [2, 3, 4, 1, 0] rfl)
  refine lv_iconst (v := nI 0) hx hb dX3_changersBy_0 (by decide) ?_
  refine lv_istore_n (lv' := [(3, .int (nI 0)), (0, .ref hm), (1, .int (nI S)), (2, .int se)]) hx hb dX3_changersBy_1 rfl hl (by decide) rfl (fun ls hl => ?_)
  refine lv_iconst (v := nI 0) hx hb dX3_changersBy_2 (by decide) ?_
  refine lv_istore (lv' := [(4, .int (nI 0)), (3, .int (nI 0)), (0, .ref hm), (1, .int (nI S)), (2, .int se)]) hx hb dX3_changersBy_3 hl (by decide) rfl (fun ls hl => ?_)
  exact L5 _ 0 (by first | assumption | omega) (Nat.lt_succ_self _) ls (lv_sub hl [2, 3, 4, 1, 0] rfl)

set_option maxHeartbeats 4000000 in
set_option maxRecDepth 100000 in
/-- a ROUND -/
theorem c_X3_nextOwners (l : Launch) {D : va_G} {cI cB cZ : ClassId} {hm : Nat} {hp : Nat} {hh : Nat} {ht : Nat} {n : Nat} {fo : Int32} {ss : Int32} {tr : Nat → Int32} {hom : Nat → Int32} {T : Nat → Nat → Nat} {S : Nat} {t : Bool} {se : Int32} (hT : q_Tr T n tr) (hB : q_Bd T n) (hH : q_Hm T n hom) (hS : S < 2 ^ n) : Met l yX3_nextOwners wsX3_nextOwners ({ frames := 3, cells := 0, slots := 0, locals := 72 } : Room) (va_Pc [.ref hm, .int (nI S), .int (bI t), .int se] (q_B D (q_tys cI cB cZ) [(hm, .inr (3, [.ref hp, .ref hh])), (hp, .inr (4, [.ref ht, .int (nI n), .int fo, .int ss])), (ht, .inl (cI, 35, .inl tr)), (hh, .inl (cI, 128, .inl hom))])) (vp_Si (fun r => r = nI (q_rd T n se t S))) 0 0 (fun _ => False) := by
  refine Met.ofW (cc := cX3_nextOwners) (maxL := 6) (ret := (some .int)) (by decide) rfl ?_
  intro p e s m args below meth c s₁ B hml hv
  obtain ⟨rfl, hP, hK⟩ := hv
  have hx := B.exec
  have hb := B.bytes
  have hr := B.returns
  have hts := atoms_spec (ws := wsX3_nextOwners) B.pre
  have hown : s.vm.findClass RX3 = some m.cls := findClass_of_methodNamed B.named
  have hlocks := B.notSynchronized
  have hin3 : ∀ w ∈ u_ws RX3 TX3 2, w ∈ wsX3_nextOwners := by decide +kernel
  have hin4 : ∀ w ∈ u_ws RX4 TX4 4, w ∈ wsX3_nextOwners := by decide +kernel
  have hP : va_P D vwCl [(hm, .inr (3, [.ref hp, .ref hh])), (hp, .inr (4, [.ref ht, .int (nI n), .int fo, .int ss])), (ht, .inl (cI, 35, .inl tr)), (hh, .inl (cI, 128, .inl hom))] s.heap := hP
  have hl := lv_entry ([.ref hm, .int (nI S), .int (bI t), .int se]) (n := 6) (Nat.le_of_ble_eq_true rfl)
  rw [lg_entry_eq]
  generalize (lg_sl ([.ref hm, .int (nI S), .int (bI t), .int se]) ++ List.replicate (6 - (lg_sl ([.ref hm, .int (nI S), .int (bI t), .int se])).length) Slot.unset).toArray = ls at hl ⊢
  have hl : lv_has ls 6 [(0, .ref hm), (1, .int (nI S)), (2, .int (bI t)), (3, .int se)] := hl
  have hn7 := hB.1
  have L6 : ∀ (fuel : Nat) (i : Nat) (hi : i ≤ n) (hf : n - i < fuel) (ls : Array Slot) (hl : lv_has ls 6 [(0, .ref hm), (1, .int (nI S)), (2, .int (bI t)), (3, .int se), (4, .int (nI (q_rn T n se t S i))), (5, .int (nI i))]), W p l e (headSpec wsX3_nextOwners ({ frames := 3, cells := 0, slots := 0, locals := 72 } : Room)).room s m ([.ref hm, .int (nI S), .int (bI t), .int se] : List Value).toArray below meth c s.heap [] 0 0 (MQ below (vp_Si (fun r => r = nI (q_rd T n se t S))) ([.ref hm, .int (nI S), .int (bI t), .int se] : List Value).toArray s 0 0 (fun _ => False)) (F0 m 6 ls []) := by
    intro fuel
    induction fuel with
    | zero =>
      intro i hi hf ls hl
      exact absurd hf (Nat.not_lt_zero _)
    | succ fuel ih6 =>
      intro i hi hf ls hl
      refine lv_iload hx hb dX3_nextOwners_6 (lv_at hl 5 rfl) ?_
      refine lv_aload_n hx hb dX3_nextOwners_8 rfl (lv_at hl 0 rfl) ?_
      refine q_get (ci := 3) (CC := RX3) (T := TX3) (N := 2) (v := .ref hp) hx hb hts hin3 hown hK hP 0 rfl rfl 0 (by decide) (hts (.fieldLink RX3 12 "DearAsMany$Market" "people" "LDearAsMany$People;") (by decide +kernel)) rfl rfl dX3_nextOwners_9 ?_
      refine q_get (ci := 4) (CC := RX4) (T := TX4) (N := 4) (v := .int (nI n)) hx hb hts hin4 hown hK hP 1 rfl rfl 1 (by decide) (hts (.fieldLink RX3 26 "DearAsMany$People" "size" "I") (by decide +kernel)) rfl rfl dX3_nextOwners_12 ?_
      refine q_nge (tgt := 54) hx hb dX3_nextOwners_15 (by decide) (by omega) (by omega) (fun c_15 => ?_) (fun c_15 => ?_)
      · refine lv_iload hx hb dX3_nextOwners_54 (lv_at hl 4 rfl) ?_
        exact q_zret (v := nI (q_rn T n se t S i)) hx hb hr hlocks (rfl) (show nI (q_rn T n se t S i) = nI (q_rd T n se t S) from by rw [show i = n from by omega]; rfl) dX3_nextOwners_56
      · refine lv_aload_n hx hb dX3_nextOwners_18 rfl (lv_at hl 0 rfl) ?_
        refine lv_iload hx hb dX3_nextOwners_19 (lv_at hl 5 rfl) ?_
        refine lv_iload_n hx hb dX3_nextOwners_21 rfl (lv_at hl 2 rfl) ?_
        refine q_beq (tgt := 30) hx hb dX3_nextOwners_22 (by decide) (fun c_22 => ?_) (fun c_22 => ?_)
        · refine lv_iload_n hx hb dX3_nextOwners_30 rfl (lv_at hl 1 rfl) ?_
          refine lv_iload_n hx hb dX3_nextOwners_31 rfl (lv_at hl 3 rfl) ?_
          refine q_vi (As := [.int (nI i), .int (nI S), .int se]) (rest := []) ⟨hx, hb, hml, hown, hts⟩ (c_X3_changes l (D := D) (cI := cI) (cB := cB) (cZ := cZ) (hm := hm) (hp := hp) (hh := hh) (ht := ht) (n := n) (fo := fo) (ss := ss) (tr := tr) (hom := hom) (T := T) (i := i) (S := S) (se := se) (by first | assumption | omega) (by first | assumption | omega) (by first | assumption | omega) (by omega) (hS)) (cwV 3 hts gX3_nextOwners_X3_changes rfl rfl rfl (by decide +kernel) ⟨Nat.le_of_ble_eq_true rfl, Nat.le_of_ble_eq_true rfl⟩) hK hP [0, 1, 2, 3] rfl 0 3 rfl rfl rfl rfl hl.1 rfl (Nat.le_of_ble_eq_true rfl) dX3_nextOwners_32 ⟨Nat.zero_le _, Nat.zero_le _⟩ (fun r_32 hr_32 => ?_)
          obtain rfl : r_32 = bI (q_chg T n se i S) := hr_32
          refine q_beq (tgt := 48) hx hb dX3_nextOwners_35 (by decide) (fun c_35 => ?_) (fun c_35 => ?_)
          · refine lv_iinc (v := nI (i + 1)) (lv' := [(5, .int (nI (i + 1))), (0, .ref hm), (1, .int (nI S)), (2, .int (bI t)), (3, .int se), (4, .int (nI (q_rn T n se t S i)))]) hx hb dX3_nextOwners_48 hl (k := 5) rfl (nI_add _ 1) (by decide) rfl (fun ls hl => ?_)
            refine lv_goto (tgt := 6) hx hb dX3_nextOwners_51 (by decide) ?_
            have hl : lv_has ls 6 [(5, .int (nI (i + 1))), (0, .ref hm), (1, .int (nI S)), (2, .int (bI t)), (3, .int se), (4, .int (nI (q_rn T n se t S (i + 1))))] := by rw [← show nI (q_rn T n se t S i) = nI (q_rn T n se t S (i + 1)) from by show nI _ = nI (if q_chg T n se i (if t then q_rn T n se t S i else S) then _ else _); rw [if_neg (c := t = true) (by rw [c_22]; decide), if_neg (by rw [c_35]; decide)]]; exact hl
            exact ih6 (i + 1) (by first | assumption | omega) (by omega) ls (lv_sub hl [1, 2, 3, 4, 5, 0] rfl)
          · refine lv_iload hx hb dX3_nextOwners_38 (lv_at hl 4 rfl) ?_
            refine lv_iload hx hb dX3_nextOwners_40 (lv_at hl 5 rfl) ?_
            refine q_ni (As := [.int (nI i)]) (rest := [.int (nI (q_rn T n se t S i))]) ⟨hx, hb, hml, hown, hts⟩ (c_X9_bit l (D := D) (cI := cI) (cB := cB) (cZ := cZ) (i := i) (by omega)) ⟨va_cnB 1 hts gX3_nextOwners_X9_bit_n34 rfl rfl rfl (hK.2.at 8 rfl) (hts (.initialized RX9) (by decide +kernel)) (by decide +kernel) ⟨Nat.le_of_ble_eq_true rfl, Nat.le_of_ble_eq_true rfl⟩, hts (.static yX9_bit) (by decide +kernel), trivial⟩ hK hP [] rfl rfl hl.1 rfl (Nat.le_of_ble_eq_true rfl) dX3_nextOwners_42 ⟨Nat.zero_le _, Nat.zero_le _⟩ (fun r_42 hr_42 => ?_)
            obtain rfl : r_42 = nI (2 ^ i) := hr_42
            refine q_ixor (v := nI ((q_rn T n se t S i) ^^^ (2 ^ i))) hx hb dX3_nextOwners_45 (q_xor _ _) ?_
            refine lv_istore (lv' := [(4, .int (nI ((q_rn T n se t S i) ^^^ (2 ^ i)))), (0, .ref hm), (1, .int (nI S)), (2, .int (bI t)), (3, .int se), (5, .int (nI i))]) hx hb dX3_nextOwners_46 hl (by decide) rfl (fun ls hl => ?_)
            refine lv_iinc (v := nI (i + 1)) (lv' := [(5, .int (nI (i + 1))), (4, .int (nI ((q_rn T n se t S i) ^^^ (2 ^ i)))), (0, .ref hm), (1, .int (nI S)), (2, .int (bI t)), (3, .int se)]) hx hb dX3_nextOwners_48 hl (k := 5) rfl (nI_add _ 1) (by decide) rfl (fun ls hl => ?_)
            refine lv_goto (tgt := 6) hx hb dX3_nextOwners_51 (by decide) ?_
            have hl : lv_has ls 6 [(5, .int (nI (i + 1))), (4, .int (nI (q_rn T n se t S (i + 1)))), (0, .ref hm), (1, .int (nI S)), (2, .int (bI t)), (3, .int se)] := by rw [← show nI ((q_rn T n se t S i) ^^^ (2 ^ i)) = nI (q_rn T n se t S (i + 1)) from by show nI _ = nI (if q_chg T n se i (if t then q_rn T n se t S i else S) then _ else _); rw [if_neg (c := t = true) (by rw [c_22]; decide), if_pos c_35]]; exact hl
            exact ih6 (i + 1) (by first | assumption | omega) (by omega) ls (lv_sub hl [2, 3, 4, 5, 1, 0] rfl)
        · refine lv_iload hx hb dX3_nextOwners_25 (lv_at hl 4 rfl) ?_
          refine lv_goto (tgt := 31) hx hb dX3_nextOwners_27 (by decide) ?_
          refine lv_iload_n hx hb dX3_nextOwners_31 rfl (lv_at hl 3 rfl) ?_
          refine q_vi (As := [.int (nI i), .int (nI (q_rn T n se t S i)), .int se]) (rest := []) ⟨hx, hb, hml, hown, hts⟩ (c_X3_changes l (D := D) (cI := cI) (cB := cB) (cZ := cZ) (hm := hm) (hp := hp) (hh := hh) (ht := ht) (n := n) (fo := fo) (ss := ss) (tr := tr) (hom := hom) (T := T) (i := i) (S := q_rn T n se t S i) (se := se) (by first | assumption | omega) (by first | assumption | omega) (by first | assumption | omega) (by omega) (q_rn_lt hS hi)) (cwV 3 hts gX3_nextOwners_X3_changes rfl rfl rfl (by decide +kernel) ⟨Nat.le_of_ble_eq_true rfl, Nat.le_of_ble_eq_true rfl⟩) hK hP [0, 1, 2, 3] rfl 0 3 rfl rfl rfl rfl hl.1 rfl (Nat.le_of_ble_eq_true rfl) dX3_nextOwners_32 ⟨Nat.zero_le _, Nat.zero_le _⟩ (fun r_32 hr_32 => ?_)
          obtain rfl : r_32 = bI (q_chg T n se i (q_rn T n se t S i)) := hr_32
          refine q_beq (tgt := 48) hx hb dX3_nextOwners_35 (by decide) (fun c_35 => ?_) (fun c_35 => ?_)
          · refine lv_iinc (v := nI (i + 1)) (lv' := [(5, .int (nI (i + 1))), (0, .ref hm), (1, .int (nI S)), (2, .int (bI t)), (3, .int se), (4, .int (nI (q_rn T n se t S i)))]) hx hb dX3_nextOwners_48 hl (k := 5) rfl (nI_add _ 1) (by decide) rfl (fun ls hl => ?_)
            refine lv_goto (tgt := 6) hx hb dX3_nextOwners_51 (by decide) ?_
            have hl : lv_has ls 6 [(5, .int (nI (i + 1))), (0, .ref hm), (1, .int (nI S)), (2, .int (bI t)), (3, .int se), (4, .int (nI (q_rn T n se t S (i + 1))))] := by rw [← show nI (q_rn T n se t S i) = nI (q_rn T n se t S (i + 1)) from by show nI _ = nI (if q_chg T n se i (if t then q_rn T n se t S i else S) then _ else _); rw [if_pos (c := t = true) c_22, if_neg (by rw [c_35]; decide)]]; exact hl
            exact ih6 (i + 1) (by first | assumption | omega) (by omega) ls (lv_sub hl [1, 2, 3, 4, 5, 0] rfl)
          · refine lv_iload hx hb dX3_nextOwners_38 (lv_at hl 4 rfl) ?_
            refine lv_iload hx hb dX3_nextOwners_40 (lv_at hl 5 rfl) ?_
            refine q_ni (As := [.int (nI i)]) (rest := [.int (nI (q_rn T n se t S i))]) ⟨hx, hb, hml, hown, hts⟩ (c_X9_bit l (D := D) (cI := cI) (cB := cB) (cZ := cZ) (i := i) (by omega)) ⟨va_cnB 1 hts gX3_nextOwners_X9_bit_n34 rfl rfl rfl (hK.2.at 8 rfl) (hts (.initialized RX9) (by decide +kernel)) (by decide +kernel) ⟨Nat.le_of_ble_eq_true rfl, Nat.le_of_ble_eq_true rfl⟩, hts (.static yX9_bit) (by decide +kernel), trivial⟩ hK hP [] rfl rfl hl.1 rfl (Nat.le_of_ble_eq_true rfl) dX3_nextOwners_42 ⟨Nat.zero_le _, Nat.zero_le _⟩ (fun r_42 hr_42 => ?_)
            obtain rfl : r_42 = nI (2 ^ i) := hr_42
            refine q_ixor (v := nI ((q_rn T n se t S i) ^^^ (2 ^ i))) hx hb dX3_nextOwners_45 (q_xor _ _) ?_
            refine lv_istore (lv' := [(4, .int (nI ((q_rn T n se t S i) ^^^ (2 ^ i)))), (0, .ref hm), (1, .int (nI S)), (2, .int (bI t)), (3, .int se), (5, .int (nI i))]) hx hb dX3_nextOwners_46 hl (by decide) rfl (fun ls hl => ?_)
            refine lv_iinc (v := nI (i + 1)) (lv' := [(5, .int (nI (i + 1))), (4, .int (nI ((q_rn T n se t S i) ^^^ (2 ^ i)))), (0, .ref hm), (1, .int (nI S)), (2, .int (bI t)), (3, .int se)]) hx hb dX3_nextOwners_48 hl (k := 5) rfl (nI_add _ 1) (by decide) rfl (fun ls hl => ?_)
            refine lv_goto (tgt := 6) hx hb dX3_nextOwners_51 (by decide) ?_
            have hl : lv_has ls 6 [(5, .int (nI (i + 1))), (4, .int (nI (q_rn T n se t S (i + 1)))), (0, .ref hm), (1, .int (nI S)), (2, .int (bI t)), (3, .int se)] := by rw [← show nI ((q_rn T n se t S i) ^^^ (2 ^ i)) = nI (q_rn T n se t S (i + 1)) from by show nI _ = nI (if q_chg T n se i (if t then q_rn T n se t S i else S) then _ else _); rw [if_pos (c := t = true) c_22, if_pos c_35]]; exact hl
            exact ih6 (i + 1) (by first | assumption | omega) (by omega) ls (lv_sub hl [2, 3, 4, 5, 1, 0] rfl)
  refine lv_iload_n hx hb dX3_nextOwners_0 rfl (lv_at hl 1 rfl) ?_
  refine lv_istore (lv' := [(4, .int (nI S)), (0, .ref hm), (1, .int (nI S)), (2, .int (bI t)), (3, .int se)]) hx hb dX3_nextOwners_1 hl (by decide) rfl (fun ls hl => ?_)
  refine lv_iconst (v := nI 0) hx hb dX3_nextOwners_3 (by decide) ?_
  refine lv_istore (lv' := [(5, .int (nI 0)), (4, .int (nI S)), (0, .ref hm), (1, .int (nI S)), (2, .int (bI t)), (3, .int se)]) hx hb dX3_nextOwners_4 hl (by decide) rfl (fun ls hl => ?_)
  exact L6 _ 0 (by first | assumption | omega) (Nat.lt_succ_self _) ls (lv_sub hl [2, 3, 4, 5, 1, 0] rfl)
end
