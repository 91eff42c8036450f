-- ===== PART A: goes FIRST, ahead of the names: the tables' words, and 'selects' of the private methods out of them =====
/-- a private method of a class that the tables say can be made, by its rows of tables_1 -/
def lw_okq (q : MethodName × Nat) : Prop := (q.1.cls ≠ "java/lang/invoke/MethodHandle" ∧ q.1.cls ≠ "java/lang/invoke/VarHandle") ∧ Cond.instantiable q.1.cls q.2 ∈ tables_1 ∧ Cond.privateMethod q.1 ∈ tables_1 ∧ Cond.instanceMethod q.1 ∈ tables_1
theorem lw_p0 : lw_okq (⟨"HedgeDuel", "layPaper", "()V"⟩, 8) := ⟨⟨by decide +kernel, by decide +kernel⟩, List.mem_of_getElem? (i := 16) (by decide +kernel), List.mem_of_getElem? (i := 271) (by decide +kernel), List.mem_of_getElem? (i := 272) (by decide +kernel)⟩
theorem lw_p1 : lw_okq (⟨"HedgeDuel", "layItem", "(I[I)V"⟩, 8) := ⟨⟨by decide +kernel, by decide +kernel⟩, List.mem_of_getElem? (i := 16) (by decide +kernel), List.mem_of_getElem? (i := 315) (by decide +kernel), List.mem_of_getElem? (i := 316) (by decide +kernel)⟩
theorem lw_p2 : lw_okq (⟨"HedgeDuel", "isOver", "()Z"⟩, 8) := ⟨⟨by decide +kernel, by decide +kernel⟩, List.mem_of_getElem? (i := 16) (by decide +kernel), List.mem_of_getElem? (i := 414) (by decide +kernel), List.mem_of_getElem? (i := 415) (by decide +kernel)⟩
theorem lw_p3 : lw_okq (⟨"HedgeDuel", "outcome", "(I)I"⟩, 8) := ⟨⟨by decide +kernel, by decide +kernel⟩, List.mem_of_getElem? (i := 16) (by decide +kernel), List.mem_of_getElem? (i := 521) (by decide +kernel), List.mem_of_getElem? (i := 522) (by decide +kernel)⟩
theorem lw_p4 : lw_okq (⟨"HedgeDuel", "soonestLength", "(I)I"⟩, 8) := ⟨⟨by decide +kernel, by decide +kernel⟩, List.mem_of_getElem? (i := 16) (by decide +kernel), List.mem_of_getElem? (i := 529) (by decide +kernel), List.mem_of_getElem? (i := 530) (by decide +kernel)⟩
theorem lw_p5 : lw_okq (⟨"HedgeDuel", "comesAsSeen", "(II)Z"⟩, 8) := ⟨⟨by decide +kernel, by decide +kernel⟩, List.mem_of_getElem? (i := 16) (by decide +kernel), List.mem_of_getElem? (i := 600) (by decide +kernel), List.mem_of_getElem? (i := 601) (by decide +kernel)⟩
theorem lw_p6 : lw_okq (⟨"HedgeDuel", "playDrought", "(III)I"⟩, 8) := ⟨⟨by decide +kernel, by decide +kernel⟩, List.mem_of_getElem? (i := 16) (by decide +kernel), List.mem_of_getElem? (i := 618) (by decide +kernel), List.mem_of_getElem? (i := 619) (by decide +kernel)⟩
theorem lw_p7 : lw_okq (⟨"HedgeDuelModel", "reads", "()Z"⟩, 23) := ⟨⟨by decide +kernel, by decide +kernel⟩, List.mem_of_getElem? (i := 649) (by decide +kernel), List.mem_of_getElem? (i := 742) (by decide +kernel), List.mem_of_getElem? (i := 743) (by decide +kernel)⟩
theorem lw_p8 : lw_okq (⟨"HedgeDuelModel", "next", "()I"⟩, 23) := ⟨⟨by decide +kernel, by decide +kernel⟩, List.mem_of_getElem? (i := 649) (by decide +kernel), List.mem_of_getElem? (i := 746) (by decide +kernel), List.mem_of_getElem? (i := 747) (by decide +kernel)⟩
theorem lw_p9 : lw_okq (⟨"HedgeDuelModel", "item", "(I)V"⟩, 23) := ⟨⟨by decide +kernel, by decide +kernel⟩, List.mem_of_getElem? (i := 649) (by decide +kernel), List.mem_of_getElem? (i := 750) (by decide +kernel), List.mem_of_getElem? (i := 751) (by decide +kernel)⟩
theorem lw_p10 : lw_okq (⟨"HedgeDuelModel", "number", "(II)I"⟩, 23) := ⟨⟨by decide +kernel, by decide +kernel⟩, List.mem_of_getElem? (i := 649) (by decide +kernel), List.mem_of_getElem? (i := 754) (by decide +kernel), List.mem_of_getElem? (i := 755) (by decide +kernel)⟩
theorem lw_p11 : lw_okq (⟨"HedgeDuelModel", "hedgeItem", "()V"⟩, 23) := ⟨⟨by decide +kernel, by decide +kernel⟩, List.mem_of_getElem? (i := 649) (by decide +kernel), List.mem_of_getElem? (i := 760) (by decide +kernel), List.mem_of_getElem? (i := 761) (by decide +kernel)⟩
theorem lw_p12 : lw_okq (⟨"HedgeDuelModel", "more", "(II)I"⟩, 23) := ⟨⟨by decide +kernel, by decide +kernel⟩, List.mem_of_getElem? (i := 649) (by decide +kernel), List.mem_of_getElem? (i := 764) (by decide +kernel), List.mem_of_getElem? (i := 765) (by decide +kernel)⟩
theorem lw_p13 : lw_okq (⟨"HedgeDuelModel", "copies", "(II)V"⟩, 23) := ⟨⟨by decide +kernel, by decide +kernel⟩, List.mem_of_getElem? (i := 649) (by decide +kernel), List.mem_of_getElem? (i := 772) (by decide +kernel), List.mem_of_getElem? (i := 773) (by decide +kernel)⟩
theorem lw_p14 : lw_okq (⟨"HedgeDuelModel", "shadow", "(II)I"⟩, 23) := ⟨⟨by decide +kernel, by decide +kernel⟩, List.mem_of_getElem? (i := 649) (by decide +kernel), List.mem_of_getElem? (i := 784) (by decide +kernel), List.mem_of_getElem? (i := 785) (by decide +kernel)⟩
theorem lw_p15 : lw_okq (⟨"HedgeDuelModel", "sunIn", "(I)I"⟩, 23) := ⟨⟨by decide +kernel, by decide +kernel⟩, List.mem_of_getElem? (i := 649) (by decide +kernel), List.mem_of_getElem? (i := 788) (by decide +kernel), List.mem_of_getElem? (i := 789) (by decide +kernel)⟩
def lw_privs_1 : List (MethodName × Nat) := [(⟨"HedgeDuel", "layPaper", "()V"⟩, 8), (⟨"HedgeDuel", "layItem", "(I[I)V"⟩, 8), (⟨"HedgeDuel", "isOver", "()Z"⟩, 8), (⟨"HedgeDuel", "outcome", "(I)I"⟩, 8), (⟨"HedgeDuel", "soonestLength", "(I)I"⟩, 8), (⟨"HedgeDuel", "comesAsSeen", "(II)Z"⟩, 8), (⟨"HedgeDuel", "playDrought", "(III)I"⟩, 8), (⟨"HedgeDuelModel", "reads", "()Z"⟩, 23), (⟨"HedgeDuelModel", "next", "()I"⟩, 23), (⟨"HedgeDuelModel", "item", "(I)V"⟩, 23), (⟨"HedgeDuelModel", "number", "(II)I"⟩, 23), (⟨"HedgeDuelModel", "hedgeItem", "()V"⟩, 23), (⟨"HedgeDuelModel", "more", "(II)I"⟩, 23), (⟨"HedgeDuelModel", "copies", "(II)V"⟩, 23), (⟨"HedgeDuelModel", "shadow", "(II)I"⟩, 23), (⟨"HedgeDuelModel", "sunIn", "(I)I"⟩, 23)]
theorem lw_r1 : ∀ q ∈ lw_privs_1, lw_okq q := List.forall_mem_cons.mpr ⟨lw_p0, List.forall_mem_cons.mpr ⟨lw_p1, List.forall_mem_cons.mpr ⟨lw_p2, List.forall_mem_cons.mpr ⟨lw_p3, List.forall_mem_cons.mpr ⟨lw_p4, List.forall_mem_cons.mpr ⟨lw_p5, List.forall_mem_cons.mpr ⟨lw_p6, List.forall_mem_cons.mpr ⟨lw_p7, List.forall_mem_cons.mpr ⟨lw_p8, List.forall_mem_cons.mpr ⟨lw_p9, List.forall_mem_cons.mpr ⟨lw_p10, List.forall_mem_cons.mpr ⟨lw_p11, List.forall_mem_cons.mpr ⟨lw_p12, List.forall_mem_cons.mpr ⟨lw_p13, List.forall_mem_cons.mpr ⟨lw_p14, List.forall_mem_cons.mpr ⟨lw_p15, fun _ h => absurd h List.not_mem_nil⟩⟩⟩⟩⟩⟩⟩⟩⟩⟩⟩⟩⟩⟩⟩⟩
theorem lw_p16 : lw_okq (⟨"HedgeDuelModel", "isShaded", "(II)Z"⟩, 23) := ⟨⟨by decide +kernel, by decide +kernel⟩, List.mem_of_getElem? (i := 649) (by decide +kernel), List.mem_of_getElem? (i := 792) (by decide +kernel), List.mem_of_getElem? (i := 793) (by decide +kernel)⟩
theorem lw_p17 : lw_okq (⟨"HedgeDuelModel", "isOver", "()Z"⟩, 23) := ⟨⟨by decide +kernel, by decide +kernel⟩, List.mem_of_getElem? (i := 649) (by decide +kernel), List.mem_of_getElem? (i := 806) (by decide +kernel), List.mem_of_getElem? (i := 807) (by decide +kernel)⟩
theorem lw_p18 : lw_okq (⟨"HedgeDuelModel", "known", "()V"⟩, 23) := ⟨⟨by decide +kernel, by decide +kernel⟩, List.mem_of_getElem? (i := 649) (by decide +kernel), List.mem_of_getElem? (i := 810) (by decide +kernel), List.mem_of_getElem? (i := 811) (by decide +kernel)⟩
theorem lw_p19 : lw_okq (⟨"HedgeDuelModel", "told", "(III)I"⟩, 23) := ⟨⟨by decide +kernel, by decide +kernel⟩, List.mem_of_getElem? (i := 649) (by decide +kernel), List.mem_of_getElem? (i := 814) (by decide +kernel), List.mem_of_getElem? (i := 815) (by decide +kernel)⟩
theorem lw_p20 : lw_okq (⟨"HedgeDuelModel", "isDryNow", "(I)Z"⟩, 23) := ⟨⟨by decide +kernel, by decide +kernel⟩, List.mem_of_getElem? (i := 649) (by decide +kernel), List.mem_of_getElem? (i := 818) (by decide +kernel), List.mem_of_getElem? (i := 819) (by decide +kernel)⟩
theorem lw_p21 : lw_okq (⟨"HedgeDuelModel", "goes", "(IIIZ)I"⟩, 23) := ⟨⟨by decide +kernel, by decide +kernel⟩, List.mem_of_getElem? (i := 649) (by decide +kernel), List.mem_of_getElem? (i := 822) (by decide +kernel), List.mem_of_getElem? (i := 823) (by decide +kernel)⟩
theorem lw_p22 : lw_okq (⟨"HedgeDuelModel", "does", "(III)I"⟩, 23) := ⟨⟨by decide +kernel, by decide +kernel⟩, List.mem_of_getElem? (i := 649) (by decide +kernel), List.mem_of_getElem? (i := 826) (by decide +kernel), List.mem_of_getElem? (i := 827) (by decide +kernel)⟩
theorem lw_p23 : lw_okq (⟨"HedgeDuelModel", "rises", "(IIIZ)V"⟩, 23) := ⟨⟨by decide +kernel, by decide +kernel⟩, List.mem_of_getElem? (i := 649) (by decide +kernel), List.mem_of_getElem? (i := 836) (by decide +kernel), List.mem_of_getElem? (i := 837) (by decide +kernel)⟩
theorem lw_p24 : lw_okq (⟨"HedgeDuelModel", "idles", "(I)I"⟩, 23) := ⟨⟨by decide +kernel, by decide +kernel⟩, List.mem_of_getElem? (i := 649) (by decide +kernel), List.mem_of_getElem? (i := 865) (by decide +kernel), List.mem_of_getElem? (i := 866) (by decide +kernel)⟩
theorem lw_p25 : lw_okq (⟨"HedgeDuelModel", "rows", "(IIII)I"⟩, 23) := ⟨⟨by decide +kernel, by decide +kernel⟩, List.mem_of_getElem? (i := 649) (by decide +kernel), List.mem_of_getElem? (i := 877) (by decide +kernel), List.mem_of_getElem? (i := 878) (by decide +kernel)⟩
theorem lw_p26 : lw_okq (⟨"HedgeDuelModel", "forgets", "(I)V"⟩, 23) := ⟨⟨by decide +kernel, by decide +kernel⟩, List.mem_of_getElem? (i := 649) (by decide +kernel), List.mem_of_getElem? (i := 893) (by decide +kernel), List.mem_of_getElem? (i := 894) (by decide +kernel)⟩
theorem lw_p27 : lw_okq (⟨"HedgeDuelModel", "folds", "(II)V"⟩, 23) := ⟨⟨by decide +kernel, by decide +kernel⟩, List.mem_of_getElem? (i := 649) (by decide +kernel), List.mem_of_getElem? (i := 897) (by decide +kernel), List.mem_of_getElem? (i := 898) (by decide +kernel)⟩
theorem lw_p28 : lw_okq (⟨"HedgeDuelModel", "isSo", "(II)Z"⟩, 23) := ⟨⟨by decide +kernel, by decide +kernel⟩, List.mem_of_getElem? (i := 649) (by decide +kernel), List.mem_of_getElem? (i := 918) (by decide +kernel), List.mem_of_getElem? (i := 919) (by decide +kernel)⟩
def lw_privs_2 : List (MethodName × Nat) := [(⟨"HedgeDuelModel", "isShaded", "(II)Z"⟩, 23), (⟨"HedgeDuelModel", "isOver", "()Z"⟩, 23), (⟨"HedgeDuelModel", "known", "()V"⟩, 23), (⟨"HedgeDuelModel", "told", "(III)I"⟩, 23), (⟨"HedgeDuelModel", "isDryNow", "(I)Z"⟩, 23), (⟨"HedgeDuelModel", "goes", "(IIIZ)I"⟩, 23), (⟨"HedgeDuelModel", "does", "(III)I"⟩, 23), (⟨"HedgeDuelModel", "rises", "(IIIZ)V"⟩, 23), (⟨"HedgeDuelModel", "idles", "(I)I"⟩, 23), (⟨"HedgeDuelModel", "rows", "(IIII)I"⟩, 23), (⟨"HedgeDuelModel", "forgets", "(I)V"⟩, 23), (⟨"HedgeDuelModel", "folds", "(II)V"⟩, 23), (⟨"HedgeDuelModel", "isSo", "(II)Z"⟩, 23)]
theorem lw_r2 : ∀ q ∈ lw_privs_2, lw_okq q := List.forall_mem_cons.mpr ⟨lw_p16, List.forall_mem_cons.mpr ⟨lw_p17, List.forall_mem_cons.mpr ⟨lw_p18, List.forall_mem_cons.mpr ⟨lw_p19, List.forall_mem_cons.mpr ⟨lw_p20, List.forall_mem_cons.mpr ⟨lw_p21, List.forall_mem_cons.mpr ⟨lw_p22, List.forall_mem_cons.mpr ⟨lw_p23, List.forall_mem_cons.mpr ⟨lw_p24, List.forall_mem_cons.mpr ⟨lw_p25, List.forall_mem_cons.mpr ⟨lw_p26, List.forall_mem_cons.mpr ⟨lw_p27, List.forall_mem_cons.mpr ⟨lw_p28, fun _ h => absurd h List.not_mem_nil⟩⟩⟩⟩⟩⟩⟩⟩⟩⟩⟩⟩⟩
def lw_privs : List (MethodName × Nat) := lw_privs_1 ++ (lw_privs_2)
def lw_tbl : List Cond := k2_sels lw_privs ++ tables_1
theorem lw_privs_ok : ∀ q ∈ lw_privs, lw_okq q := by
  show ∀ q ∈ lw_privs_1 ++ (lw_privs_2), lw_okq q
  exact List.forall_mem_append.mpr ⟨lw_r1, lw_r2⟩
theorem goodIn_r {big : List Cond} (ws : List Cond) (ps : List Nat) (hp : ws = ps.filterMap (fun i => big[i]?)) (h : ws.all goodWord = true) : GoodIn big ws := by
  intro w hw
  have h1 := List.all_eq_true.mp h w hw
  rw [hp] at hw
  obtain ⟨i, -, hi⟩ := List.mem_filterMap.mp hw
  have hm : w ∈ big := by first | exact List.mem_of_getElem? hi | exact List.getElem?_mem hi
  exact ⟨hm, good_of_word h1⟩
theorem goodIn_app {big a b : List Cond} (ha : GoodIn big a) (hb : GoodIn big b) : GoodIn big (a ++ b) := fun w h => (List.mem_append.mp h).elim (ha w) (hb w)
theorem goodIn_ca {big a b : List Cond} {c : Cond} (ha : GoodIn big (c :: a)) (hb : GoodIn big b) : GoodIn big (c :: (a ++ b)) := fun w h => (List.mem_cons.mp h).elim (fun e => ha w (List.mem_cons.mpr (Or.inl e))) (fun h => (List.mem_append.mp h).elim (fun h => ha w (List.mem_cons.mpr (Or.inr h))) (hb w))
theorem goodIn_sub {big ws : List Cond} (hm : ∀ w ∈ ws, w ∈ big) (h : ws.all goodWord = true) : GoodIn big ws := fun w hw => ⟨hm w hw, good_of_word (List.all_eq_true.mp h w hw)⟩
def RX0 : String := "HedgeDuel$Garden"
def TX0 : u_T := fun k => match k with
  | 0 => ("HedgeDuel$Garden", "first", "LHedgeDuel$Hedge;", true)
  | 1 => ("HedgeDuel$Garden", "second", "LHedgeDuel$Hedge;", true)
  | 2 => ("HedgeDuel$Garden", "well", "I", false)
  | _ => ("HedgeDuel$Garden", "months", "I", false)
def tyX0 : Nat → FieldType := fun k => match k with
  | 0 => .object "HedgeDuel$Hedge"
  | 1 => .object "HedgeDuel$Hedge"
  | 2 => .int
  | _ => .int
abbrev wsX00 : List Cond := u_ws RX0 TX0 4
theorem nmX0 : ∀ a, a < 4 → ∀ b, b < 4 → a ≠ b → (TX0 a).2.1 ≠ (TX0 b).2.1 := by decide +kernel
theorem tyX0_ok : ∀ k, k < 4 → parseFieldDescriptor (TX0 k).2.2.1 = some (tyX0 k) := by decide +kernel
abbrev cX0_init : ByteArray := prog_2_method_1_code
def yX0_init : MethodName := ⟨RX0, "<init>", "()V"⟩
abbrev cX0_of : ByteArray := prog_2_method_2_code
def yX0_of : MethodName := ⟨RX0, "of", "(I)LHedgeDuel$Hedge;"⟩
abbrev cX0_clear : ByteArray := prog_2_method_3_code
def yX0_clear : MethodName := ⟨RX0, "clear", "()V"⟩
abbrev cX0_copy : ByteArray := prog_2_method_4_code
def yX0_copy : MethodName := ⟨RX0, "copy", "(LHedgeDuel$Garden;)V"⟩
abbrev cX0_store : ByteArray := prog_2_method_5_code
def yX0_store : MethodName := ⟨RX0, "store", "([II)V"⟩
abbrev cX0_restore : ByteArray := prog_2_method_6_code
def yX0_restore : MethodName := ⟨RX0, "restore", "([II)V"⟩
abbrev cX0_loser : ByteArray := prog_2_method_7_code
def yX0_loser : MethodName := ⟨RX0, "loser", "(LHedgeDuel$Strip;)I"⟩
abbrev cX0_isShaded : ByteArray := prog_2_method_8_code
def yX0_isShaded : MethodName := ⟨RX0, "isShaded", "(III)Z"⟩
abbrev cX0_idle : ByteArray := prog_2_method_9_code
def yX0_idle : MethodName := ⟨RX0, "idle", "(LHedgeDuel$Strip;I)V"⟩
abbrev cX0_turn : ByteArray := prog_2_method_10_code
def yX0_turn : MethodName := ⟨RX0, "turn", "(LHedgeDuel$Strip;II)V"⟩
abbrev cX0_turnBy : ByteArray := prog_2_method_11_code
def yX0_turnBy : MethodName := ⟨RX0, "turnBy", "(LHedgeDuel$Strip;IIZ)V"⟩
abbrev cX0_tend : ByteArray := prog_2_method_12_code
def yX0_tend : MethodName := ⟨RX0, "tend", "(LHedgeDuel$Hedge;I)V"⟩
def RX1 : String := "HedgeDuel$Hedge"
def TX1 : u_T := fun k => match k with
  | 0 => ("HedgeDuel$Hedge", "sort", "I", false)
  | 1 => ("HedgeDuel$Hedge", "high", "I", false)
  | 2 => ("HedgeDuel$Hedge", "lean", "I", false)
  | 3 => ("HedgeDuel$Hedge", "coins", "I", false)
  | 4 => ("HedgeDuel$Hedge", "dark", "I", false)
  | 5 => ("HedgeDuel$Hedge", "more", "I", false)
  | _ => ("HedgeDuel$Hedge", "wet", "Z", false)
def tyX1 : Nat → FieldType := fun k => match k with
  | 0 => .int
  | 1 => .int
  | 2 => .int
  | 3 => .int
  | 4 => .int
  | 5 => .int
  | _ => .boolean
abbrev wsX10 : List Cond := u_ws RX1 TX1 7
theorem nmX1 : ∀ a, a < 7 → ∀ b, b < 7 → a ≠ b → (TX1 a).2.1 ≠ (TX1 b).2.1 := by decide +kernel
theorem tyX1_ok : ∀ k, k < 7 → parseFieldDescriptor (TX1 k).2.2.1 = some (tyX1 k) := by decide +kernel
abbrev cX1_init : ByteArray := prog_3_method_1_code
def yX1_init : MethodName := ⟨RX1, "<init>", "()V"⟩
abbrev cX1_begin : ByteArray := prog_3_method_2_code
def yX1_begin : MethodName := ⟨RX1, "begin", "(III)V"⟩
abbrev cX1_copy : ByteArray := prog_3_method_3_code
def yX1_copy : MethodName := ⟨RX1, "copy", "(LHedgeDuel$Hedge;)V"⟩
abbrev cX1_store : ByteArray := prog_3_method_4_code
def yX1_store : MethodName := ⟨RX1, "store", "([II)V"⟩
abbrev cX1_restore : ByteArray := prog_3_method_5_code
def yX1_restore : MethodName := ⟨RX1, "restore", "([II)V"⟩
abbrev cX1_shadowLength : ByteArray := prog_3_method_6_code
def yX1_shadowLength : MethodName := ⟨RX1, "shadowLength", "(I)I"⟩
abbrev cX1_takeDung : ByteArray := prog_3_method_7_code
def yX1_takeDung : MethodName := ⟨RX1, "takeDung", "()V"⟩
abbrev cX1_grow : ByteArray := prog_3_method_8_code
def yX1_grow : MethodName := ⟨RX1, "grow", "(IZ)V"⟩
def RX2 : String := "HedgeDuel$Paper"
def TX2 : u_T := fun k => match k with
  | 0 => ("HedgeDuel$Paper", "letters", "[I", true)
  | 1 => ("HedgeDuel$Paper", "numbers", "[I", true)
  | 2 => ("HedgeDuel$Paper", "size", "I", false)
  | _ => ("HedgeDuel$Paper", "amount", "I", false)
def tyX2 : Nat → FieldType := fun k => match k with
  | 0 => .array .int
  | 1 => .array .int
  | 2 => .int
  | _ => .int
abbrev wsX20 : List Cond := u_ws RX2 TX2 4
theorem nmX2 : ∀ a, a < 4 → ∀ b, b < 4 → a ≠ b → (TX2 a).2.1 ≠ (TX2 b).2.1 := by decide +kernel
theorem tyX2_ok : ∀ k, k < 4 → parseFieldDescriptor (TX2 k).2.2.1 = some (tyX2 k) := by decide +kernel
abbrev cX2_init : ByteArray := prog_4_method_1_code
def yX2_init : MethodName := ⟨RX2, "<init>", "()V"⟩
abbrev cX2_add : ByteArray := prog_4_method_2_code
def yX2_add : MethodName := ⟨RX2, "add", "(I)V"⟩
abbrev cX2_letterAt : ByteArray := prog_4_method_3_code
def yX2_letterAt : MethodName := ⟨RX2, "letterAt", "(I)I"⟩
abbrev cX2_figureAt : ByteArray := prog_4_method_4_code
def yX2_figureAt : MethodName := ⟨RX2, "figureAt", "(I)I"⟩
abbrev cX2_firstFault : ByteArray := prog_4_method_5_code
def yX2_firstFault : MethodName := ⟨RX2, "firstFault", "()I"⟩
abbrev cX2_readItem : ByteArray := prog_4_method_6_code
def yX2_readItem : MethodName := ⟨RX2, "readItem", "(I)I"⟩
abbrev cX2_isSo : ByteArray := prog_4_method_7_code
def yX2_isSo : MethodName := ⟨RX2, "isSo", "(I)Z"⟩
abbrev cX2_number : ByteArray := prog_4_method_8_code
def yX2_number : MethodName := ⟨RX2, "number", "(III)Z"⟩
def RX3 : String := "HedgeDuel$Plan"
def TX3 : u_T := fun k => match k with
  | 0 => ("HedgeDuel$Plan", "strip", "LHedgeDuel$Strip;", true)
  | 1 => ("HedgeDuel$Plan", "work", "LHedgeDuel$Garden;", true)
  | 2 => ("HedgeDuel$Plan", "levels", "[I", true)
  | 3 => ("HedgeDuel$Plan", "row", "[I", true)
  | 4 => ("HedgeDuel$Plan", "side", "I", false)
  | 5 => ("HedgeDuel$Plan", "months", "I", false)
  | _ => ("HedgeDuel$Plan", "attack", "Z", false)
def tyX3 : Nat → FieldType := fun k => match k with
  | 0 => .object "HedgeDuel$Strip"
  | 1 => .object "HedgeDuel$Garden"
  | 2 => .array .int
  | 3 => .array .int
  | 4 => .int
  | 5 => .int
  | _ => .boolean
abbrev wsX30 : List Cond := u_ws RX3 TX3 7
theorem nmX3 : ∀ a, a < 7 → ∀ b, b < 7 → a ≠ b → (TX3 a).2.1 ≠ (TX3 b).2.1 := by decide +kernel
theorem tyX3_ok : ∀ k, k < 7 → parseFieldDescriptor (TX3 k).2.2.1 = some (tyX3 k) := by decide +kernel
abbrev cX3_init : ByteArray := prog_5_method_1_code
def yX3_init : MethodName := ⟨RX3, "<init>", "(LHedgeDuel$Strip;)V"⟩
abbrev cX3_begin : ByteArray := prog_5_method_2_code
def yX3_begin : MethodName := ⟨RX3, "begin", "(LHedgeDuel$Garden;IIZ)V"⟩
abbrev cX3_open : ByteArray := prog_5_method_3_code
def yX3_open : MethodName := ⟨RX3, "open", "(I)V"⟩
abbrev cX3_attempt : ByteArray := prog_5_method_4_code
def yX3_attempt : MethodName := ⟨RX3, "attempt", "(III)V"⟩
abbrev cX3_isReached : ByteArray := prog_5_method_5_code
def yX3_isReached : MethodName := ⟨RX3, "isReached", "(I)Z"⟩
abbrev cX3_isOver : ByteArray := prog_5_method_6_code
def yX3_isOver : MethodName := ⟨RX3, "isOver", "(I)Z"⟩
abbrev cX3_leadAt : ByteArray := prog_5_method_7_code
def yX3_leadAt : MethodName := ⟨RX3, "leadAt", "(I)I"⟩
def RX4 : String := "HedgeDuel$Shelf"
def TX4 : u_T := fun k => match k with
  | 0 => ("HedgeDuel$Shelf", "slots", "I", true)
  | 1 => ("HedgeDuel$Shelf", "cells", "[I", true)
  | _ => ("HedgeDuel$Shelf", "size", "I", false)
def tyX4 : Nat → FieldType := fun k => match k with
  | 0 => .int
  | 1 => .array .int
  | _ => .int
abbrev wsX40 : List Cond := u_ws RX4 TX4 3
theorem nmX4 : ∀ a, a < 3 → ∀ b, b < 3 → a ≠ b → (TX4 a).2.1 ≠ (TX4 b).2.1 := by decide +kernel
theorem tyX4_ok : ∀ k, k < 3 → parseFieldDescriptor (TX4 k).2.2.1 = some (tyX4 k) := by decide +kernel
abbrev cX4_init : ByteArray := prog_6_method_1_code
def yX4_init : MethodName := ⟨RX4, "<init>", "(I)V"⟩
abbrev cX4_push : ByteArray := prog_6_method_2_code
def yX4_push : MethodName := ⟨RX4, "push", "(LHedgeDuel$Garden;)V"⟩
abbrev cX4_pop : ByteArray := prog_6_method_3_code
def yX4_pop : MethodName := ⟨RX4, "pop", "(LHedgeDuel$Garden;)V"⟩
abbrev cX4_dropOldest : ByteArray := prog_6_method_4_code
def yX4_dropOldest : MethodName := ⟨RX4, "dropOldest", "()V"⟩
def RX5 : String := "HedgeDuel$Sights"
def TX5 : u_T := fun k => match k with
  | 0 => ("HedgeDuel$Sights", "sides", "[I", true)
  | 1 => ("HedgeDuel$Sights", "times", "[I", true)
  | 2 => ("HedgeDuel$Sights", "heights", "[I", true)
  | _ => ("HedgeDuel$Sights", "size", "I", false)
def tyX5 : Nat → FieldType := fun k => match k with
  | 0 => .array .int
  | 1 => .array .int
  | 2 => .array .int
  | _ => .int
abbrev wsX50 : List Cond := u_ws RX5 TX5 4
theorem nmX5 : ∀ a, a < 4 → ∀ b, b < 4 → a ≠ b → (TX5 a).2.1 ≠ (TX5 b).2.1 := by decide +kernel
theorem tyX5_ok : ∀ k, k < 4 → parseFieldDescriptor (TX5 k).2.2.1 = some (tyX5 k) := by decide +kernel
abbrev cX5_init : ByteArray := prog_7_method_1_code
def yX5_init : MethodName := ⟨RX5, "<init>", "()V"⟩
abbrev cX5_add : ByteArray := prog_7_method_2_code
def yX5_add : MethodName := ⟨RX5, "add", "(III)V"⟩
abbrev cX5_agree : ByteArray := prog_7_method_3_code
def yX5_agree : MethodName := ⟨RX5, "agree", "(ILHedgeDuel$Garden;)Z"⟩
def RX6 : String := "HedgeDuel$Strip"
def TX6 : u_T := fun k => match k with
  | 0 => ("HedgeDuel$Strip", "sun", "[I", true)
  | 1 => ("HedgeDuel$Strip", "dry", "[I", true)
  | 2 => ("HedgeDuel$Strip", "length", "I", false)
  | _ => ("HedgeDuel$Strip", "need", "I", false)
def tyX6 : Nat → FieldType := fun k => match k with
  | 0 => .array .int
  | 1 => .array .int
  | 2 => .int
  | _ => .int
abbrev wsX60 : List Cond := u_ws RX6 TX6 4
theorem nmX6 : ∀ a, a < 4 → ∀ b, b < 4 → a ≠ b → (TX6 a).2.1 ≠ (TX6 b).2.1 := by decide +kernel
theorem tyX6_ok : ∀ k, k < 4 → parseFieldDescriptor (TX6 k).2.2.1 = some (tyX6 k) := by decide +kernel
abbrev cX6_init : ByteArray := prog_8_method_1_code
def yX6_init : MethodName := ⟨RX6, "<init>", "()V"⟩
abbrev cX6_clear : ByteArray := prog_8_method_2_code
def yX6_clear : MethodName := ⟨RX6, "clear", "()V"⟩
abbrev cX6_sunIn : ByteArray := prog_8_method_3_code
def yX6_sunIn : MethodName := ⟨RX6, "sunIn", "(I)I"⟩
abbrev cX6_isDry : ByteArray := prog_8_method_4_code
def yX6_isDry : MethodName := ⟨RX6, "isDry", "(I)Z"⟩
def RX7 : String := "HedgeDuel"
def TX7 : u_T := fun k => match k with
  | 0 => ("HedgeDuel", "paper", "LHedgeDuel$Paper;", true)
  | 1 => ("HedgeDuel", "strip", "LHedgeDuel$Strip;", true)
  | 2 => ("HedgeDuel", "now", "LHedgeDuel$Garden;", true)
  | 3 => ("HedgeDuel", "trial", "LHedgeDuel$Garden;", true)
  | 4 => ("HedgeDuel", "past", "LHedgeDuel$Shelf;", true)
  | 5 => ("HedgeDuel", "kept", "LHedgeDuel$Shelf;", true)
  | 6 => ("HedgeDuel", "seen", "LHedgeDuel$Sights;", true)
  | _ => ("HedgeDuel", "plan", "LHedgeDuel$Plan;", true)
def tyX7 : Nat → FieldType := fun k => match k with
  | 0 => .object "HedgeDuel$Paper"
  | 1 => .object "HedgeDuel$Strip"
  | 2 => .object "HedgeDuel$Garden"
  | 3 => .object "HedgeDuel$Garden"
  | 4 => .object "HedgeDuel$Shelf"
  | 5 => .object "HedgeDuel$Shelf"
  | 6 => .object "HedgeDuel$Sights"
  | _ => .object "HedgeDuel$Plan"
abbrev wsX70 : List Cond := u_ws RX7 TX7 8
theorem nmX7 : ∀ a, a < 8 → ∀ b, b < 8 → a ≠ b → (TX7 a).2.1 ≠ (TX7 b).2.1 := by decide +kernel
theorem tyX7_ok : ∀ k, k < 8 → parseFieldDescriptor (TX7 k).2.2.1 = some (tyX7 k) := by decide +kernel
abbrev cX7_init : ByteArray := prog_1_method_1_code
def yX7_init : MethodName := ⟨RX7, "<init>", "()V"⟩
abbrev cX7_write : ByteArray := prog_1_method_2_code
def yX7_write : MethodName := ⟨RX7, "write", "(I)I"⟩
abbrev cX7_wipe : ByteArray := prog_1_method_3_code
def yX7_wipe : MethodName := ⟨RX7, "wipe", "()I"⟩
abbrev cX7_fault : ByteArray := prog_1_method_4_code
def yX7_fault : MethodName := ⟨RX7, "fault", "()I"⟩
abbrev cX7_lay : ByteArray := prog_1_method_5_code
def yX7_lay : MethodName := ⟨RX7, "lay", "()I"⟩
abbrev cX7_hedge : ByteArray := prog_1_method_6_code
def yX7_hedge : MethodName := ⟨RX7, "hedge", "(II)I"⟩
abbrev cX7_month : ByteArray := prog_1_method_7_code
def yX7_month : MethodName := ⟨RX7, "month", "(II)I"⟩
abbrev cX7_act : ByteArray := prog_1_method_8_code
def yX7_act : MethodName := ⟨RX7, "act", "(II)I"⟩
abbrev cX7_pass : ByteArray := prog_1_method_9_code
def yX7_pass : MethodName := ⟨RX7, "pass", "(I)I"⟩
abbrev cX7_plant : ByteArray := prog_1_method_10_code
def yX7_plant : MethodName := ⟨RX7, "plant", "(II)I"⟩
abbrev cX7_undo : ByteArray := prog_1_method_11_code
def yX7_undo : MethodName := ⟨RX7, "undo", "()I"⟩
abbrev cX7_behind : ByteArray := prog_1_method_12_code
def yX7_behind : MethodName := ⟨RX7, "behind", "(II)I"⟩
abbrev cX7_soonest : ByteArray := prog_1_method_13_code
def yX7_soonest : MethodName := ⟨RX7, "soonest", "(II)I"⟩
abbrev cX7_hold : ByteArray := prog_1_method_14_code
def yX7_hold : MethodName := ⟨RX7, "hold", "(III)I"⟩
abbrev cX7_play : ByteArray := prog_1_method_15_code
def yX7_play : MethodName := ⟨RX7, "play", "(II)I"⟩
abbrev cX7_kind : ByteArray := prog_1_method_16_code
def yX7_kind : MethodName := ⟨RX7, "kind", "(III)I"⟩
abbrev cX7_see : ByteArray := prog_1_method_17_code
def yX7_see : MethodName := ⟨RX7, "see", "(III)I"⟩
abbrev cX7_forget : ByteArray := prog_1_method_18_code
def yX7_forget : MethodName := ⟨RX7, "forget", "()I"⟩
abbrev cX7_did : ByteArray := prog_1_method_19_code
def yX7_did : MethodName := ⟨RX7, "did", "(I)I"⟩
abbrev cX7_was : ByteArray := prog_1_method_20_code
def yX7_was : MethodName := ⟨RX7, "was", "(I)I"⟩
abbrev cX7_drought : ByteArray := prog_1_method_21_code
def yX7_drought : MethodName := ⟨RX7, "drought", "(IIII)I"⟩
abbrev cX7_year : ByteArray := prog_1_method_22_code
def yX7_year : MethodName := ⟨RX7, "year", "(III)I"⟩
abbrev cX7_keep : ByteArray := prog_1_method_23_code
def yX7_keep : MethodName := ⟨RX7, "keep", "()I"⟩
abbrev cX7_back : ByteArray := prog_1_method_24_code
def yX7_back : MethodName := ⟨RX7, "back", "()I"⟩
abbrev cX7_count : ByteArray := prog_1_method_25_code
def yX7_count : MethodName := ⟨RX7, "count", "(I)I"⟩
abbrev cX7_within : ByteArray := prog_1_method_26_code
def yX7_within : MethodName := ⟨RX7, "within", "(III)Z"⟩
abbrev cX7_isSide : ByteArray := prog_1_method_27_code
def yX7_isSide : MethodName := ⟨RX7, "isSide", "(I)Z"⟩
abbrev cX7_isKind : ByteArray := prog_1_method_28_code
def yX7_isKind : MethodName := ⟨RX7, "isKind", "(I)Z"⟩
abbrev cX7_isDeed : ByteArray := prog_1_method_29_code
def yX7_isDeed : MethodName := ⟨RX7, "isDeed", "(I)Z"⟩
abbrev cX7_cell : ByteArray := prog_1_method_30_code
def yX7_cell : MethodName := ⟨RX7, "cell", "([II)I"⟩
abbrev cX7_setCell : ByteArray := prog_1_method_31_code
def yX7_setCell : MethodName := ⟨RX7, "setCell", "([III)V"⟩
abbrev cX7_isOver : ByteArray := prog_1_method_32_code
def yX7_isOver : MethodName := ⟨RX7, "isOver", "()Z"⟩
abbrev cX7_outcome : ByteArray := prog_1_method_33_code
def yX7_outcome : MethodName := ⟨RX7, "outcome", "(I)I"⟩
abbrev cX7_layPaper : ByteArray := prog_1_method_34_code
def yX7_layPaper : MethodName := ⟨RX7, "layPaper", "()V"⟩
abbrev cX7_layItem : ByteArray := prog_1_method_35_code
def yX7_layItem : MethodName := ⟨RX7, "layItem", "(I[I)V"⟩
abbrev cX7_soonestLength : ByteArray := prog_1_method_36_code
def yX7_soonestLength : MethodName := ⟨RX7, "soonestLength", "(I)I"⟩
abbrev cX7_finds : ByteArray := prog_1_method_37_code
def yX7_finds : MethodName := ⟨RX7, "finds", "(LHedgeDuel$Plan;I)Z"⟩
abbrev cX7_bestLead : ByteArray := prog_1_method_38_code
def yX7_bestLead : MethodName := ⟨RX7, "bestLead", "(LHedgeDuel$Plan;I)I"⟩
abbrev cX7_comesAsSeen : ByteArray := prog_1_method_39_code
def yX7_comesAsSeen : MethodName := ⟨RX7, "comesAsSeen", "(II)Z"⟩
abbrev cX7_playDrought : ByteArray := prog_1_method_40_code
def yX7_playDrought : MethodName := ⟨RX7, "playDrought", "(III)I"⟩
abbrev cX7_commonDivisor : ByteArray := prog_1_method_41_code
def yX7_commonDivisor : MethodName := ⟨RX7, "commonDivisor", "(II)I"⟩
abbrev cX7_drawOf : ByteArray := prog_1_method_42_code
def yX7_drawOf : MethodName := ⟨RX7, "drawOf", "(II)I"⟩
def RX8 : String := "HedgeDuelModel"
def TX8 : u_T := fun k => match k with
  | 0 => ("HedgeDuelModel", "strip", "I", false)
  | 1 => ("HedgeDuelModel", "ends", "I", false)
  | 2 => ("HedgeDuelModel", "sun", "[I", true)
  | 3 => ("HedgeDuelModel", "dry", "I", false)
  | 4 => ("HedgeDuelModel", "newStrip", "I", false)
  | 5 => ("HedgeDuelModel", "newEnds", "I", false)
  | 6 => ("HedgeDuelModel", "newSun", "[I", true)
  | 7 => ("HedgeDuelModel", "newDry", "I", false)
  | 8 => ("HedgeDuelModel", "slot", "[I", true)
  | 9 => ("HedgeDuelModel", "acts", "I", false)
  | 10 => ("HedgeDuelModel", "keeps", "I", false)
  | 11 => ("HedgeDuelModel", "length", "I", false)
  | 12 => ("HedgeDuelModel", "text", "[B", true)
  | 13 => ("HedgeDuelModel", "at", "I", false)
  | 14 => ("HedgeDuelModel", "begin", "I", false)
  | 15 => ("HedgeDuelModel", "isWrong", "Z", false)
  | 16 => ("HedgeDuelModel", "seens", "I", false)
  | 17 => ("HedgeDuelModel", "sawWho", "[I", true)
  | 18 => ("HedgeDuelModel", "sawTime", "[I", true)
  | 19 => ("HedgeDuelModel", "sawHigh", "[I", true)
  | 20 => ("HedgeDuelModel", "best", "[I", true)
  | 21 => ("HedgeDuelModel", "firstAct", "I", false)
  | _ => ("HedgeDuelModel", "found", "I", false)
def tyX8 : Nat → FieldType := fun k => match k with
  | 0 => .int
  | 1 => .int
  | 2 => .array .int
  | 3 => .int
  | 4 => .int
  | 5 => .int
  | 6 => .array .int
  | 7 => .int
  | 8 => .array .int
  | 9 => .int
  | 10 => .int
  | 11 => .int
  | 12 => .array .byte
  | 13 => .int
  | 14 => .int
  | 15 => .boolean
  | 16 => .int
  | 17 => .array .int
  | 18 => .array .int
  | 19 => .array .int
  | 20 => .array .int
  | 21 => .int
  | _ => .int
abbrev wsX80 : List Cond := u_ws RX8 TX8 23
theorem nmX8 : ∀ a, a < 23 → ∀ b, b < 23 → a ≠ b → (TX8 a).2.1 ≠ (TX8 b).2.1 := by decide +kernel
theorem tyX8_ok : ∀ k, k < 23 → parseFieldDescriptor (TX8 k).2.2.1 = some (tyX8 k) := by decide +kernel
abbrev cX8_init : ByteArray := prog_10_method_1_code
def yX8_init : MethodName := ⟨RX8, "<init>", "()V"⟩
abbrev cX8_in : ByteArray := prog_10_method_2_code
def yX8_in : MethodName := ⟨RX8, "in", "(JJJ)Z"⟩
abbrev cX8_larger : ByteArray := prog_10_method_3_code
def yX8_larger : MethodName := ⟨RX8, "larger", "(II)I"⟩
abbrev cX8_smaller : ByteArray := prog_10_method_4_code
def yX8_smaller : MethodName := ⟨RX8, "smaller", "(II)I"⟩
abbrev cX8_copies : ByteArray := prog_10_method_5_code
def yX8_copies : MethodName := ⟨RX8, "copies", "(II)V"⟩
abbrev cX8_write : ByteArray := prog_10_method_6_code
def yX8_write : MethodName := ⟨RX8, "write", "(I)I"⟩
abbrev cX8_wipe : ByteArray := prog_10_method_7_code
def yX8_wipe : MethodName := ⟨RX8, "wipe", "()I"⟩
abbrev cX8_next : ByteArray := prog_10_method_8_code
def yX8_next : MethodName := ⟨RX8, "next", "()I"⟩
abbrev cX8_number : ByteArray := prog_10_method_9_code
def yX8_number : MethodName := ⟨RX8, "number", "(II)I"⟩
abbrev cX8_more : ByteArray := prog_10_method_10_code
def yX8_more : MethodName := ⟨RX8, "more", "(II)I"⟩
abbrev cX8_hedgeItem : ByteArray := prog_10_method_11_code
def yX8_hedgeItem : MethodName := ⟨RX8, "hedgeItem", "()V"⟩
abbrev cX8_item : ByteArray := prog_10_method_12_code
def yX8_item : MethodName := ⟨RX8, "item", "(I)V"⟩
abbrev cX8_reads : ByteArray := prog_10_method_13_code
def yX8_reads : MethodName := ⟨RX8, "reads", "()Z"⟩
abbrev cX8_fault : ByteArray := prog_10_method_14_code
def yX8_fault : MethodName := ⟨RX8, "fault", "()I"⟩
abbrev cX8_lay : ByteArray := prog_10_method_15_code
def yX8_lay : MethodName := ⟨RX8, "lay", "()I"⟩
abbrev cX8_isOne : ByteArray := prog_10_method_16_code
def yX8_isOne : MethodName := ⟨RX8, "isOne", "(I)Z"⟩
abbrev cX8_sunIn : ByteArray := prog_10_method_17_code
def yX8_sunIn : MethodName := ⟨RX8, "sunIn", "(I)I"⟩
abbrev cX8_shadow : ByteArray := prog_10_method_18_code
def yX8_shadow : MethodName := ⟨RX8, "shadow", "(II)I"⟩
abbrev cX8_isShaded : ByteArray := prog_10_method_19_code
def yX8_isShaded : MethodName := ⟨RX8, "isShaded", "(II)Z"⟩
abbrev cX8_hedge : ByteArray := prog_10_method_20_code
def yX8_hedge : MethodName := ⟨RX8, "hedge", "(II)I"⟩
abbrev cX8_month : ByteArray := prog_10_method_21_code
def yX8_month : MethodName := ⟨RX8, "month", "(II)I"⟩
abbrev cX8_bound : ByteArray := prog_10_method_22_code
def yX8_bound : MethodName := ⟨RX8, "bound", "(I)I"⟩
abbrev cX8_grows : ByteArray := prog_10_method_23_code
def yX8_grows : MethodName := ⟨RX8, "grows", "(II)I"⟩
abbrev cX8_does : ByteArray := prog_10_method_24_code
def yX8_does : MethodName := ⟨RX8, "does", "(III)I"⟩
abbrev cX8_rises : ByteArray := prog_10_method_25_code
def yX8_rises : MethodName := ⟨RX8, "rises", "(IIIZ)V"⟩
abbrev cX8_goes : ByteArray := prog_10_method_26_code
def yX8_goes : MethodName := ⟨RX8, "goes", "(IIIZ)I"⟩
abbrev cX8_isDryNow : ByteArray := prog_10_method_27_code
def yX8_isDryNow : MethodName := ⟨RX8, "isDryNow", "(I)Z"⟩
abbrev cX8_told : ByteArray := prog_10_method_28_code
def yX8_told : MethodName := ⟨RX8, "told", "(III)I"⟩
abbrev cX8_known : ByteArray := prog_10_method_29_code
def yX8_known : MethodName := ⟨RX8, "known", "()V"⟩
abbrev cX8_isOver : ByteArray := prog_10_method_30_code
def yX8_isOver : MethodName := ⟨RX8, "isOver", "()Z"⟩
abbrev cX8_act : ByteArray := prog_10_method_31_code
def yX8_act : MethodName := ⟨RX8, "act", "(II)I"⟩
abbrev cX8_pass : ByteArray := prog_10_method_32_code
def yX8_pass : MethodName := ⟨RX8, "pass", "(I)I"⟩
abbrev cX8_plant : ByteArray := prog_10_method_33_code
def yX8_plant : MethodName := ⟨RX8, "plant", "(II)I"⟩
abbrev cX8_undo : ByteArray := prog_10_method_34_code
def yX8_undo : MethodName := ⟨RX8, "undo", "()I"⟩
abbrev cX8_idles : ByteArray := prog_10_method_35_code
def yX8_idles : MethodName := ⟨RX8, "idles", "(I)I"⟩
abbrev cX8_behind : ByteArray := prog_10_method_36_code
def yX8_behind : MethodName := ⟨RX8, "behind", "(II)I"⟩
abbrev cX8_doneIn : ByteArray := prog_10_method_37_code
def yX8_doneIn : MethodName := ⟨RX8, "doneIn", "(III)I"⟩
abbrev cX8_rowsOf : ByteArray := prog_10_method_38_code
def yX8_rowsOf : MethodName := ⟨RX8, "rowsOf", "(I)I"⟩
abbrev cX8_rows : ByteArray := prog_10_method_39_code
def yX8_rows : MethodName := ⟨RX8, "rows", "(IIII)I"⟩
abbrev cX8_soonest : ByteArray := prog_10_method_40_code
def yX8_soonest : MethodName := ⟨RX8, "soonest", "(II)I"⟩
abbrev cX8_hold : ByteArray := prog_10_method_41_code
def yX8_hold : MethodName := ⟨RX8, "hold", "(III)I"⟩
abbrev cX8_folds : ByteArray := prog_10_method_42_code
def yX8_folds : MethodName := ⟨RX8, "folds", "(II)V"⟩
abbrev cX8_forgets : ByteArray := prog_10_method_43_code
def yX8_forgets : MethodName := ⟨RX8, "forgets", "(I)V"⟩
abbrev cX8_play : ByteArray := prog_10_method_44_code
def yX8_play : MethodName := ⟨RX8, "play", "(II)I"⟩
abbrev cX8_kind : ByteArray := prog_10_method_45_code
def yX8_kind : MethodName := ⟨RX8, "kind", "(III)I"⟩
abbrev cX8_see : ByteArray := prog_10_method_46_code
def yX8_see : MethodName := ⟨RX8, "see", "(III)I"⟩
abbrev cX8_forget : ByteArray := prog_10_method_47_code
def yX8_forget : MethodName := ⟨RX8, "forget", "()I"⟩
abbrev cX8_isSo : ByteArray := prog_10_method_48_code
def yX8_isSo : MethodName := ⟨RX8, "isSo", "(II)Z"⟩
abbrev cX8_did : ByteArray := prog_10_method_49_code
def yX8_did : MethodName := ⟨RX8, "did", "(I)I"⟩
abbrev cX8_was : ByteArray := prog_10_method_50_code
def yX8_was : MethodName := ⟨RX8, "was", "(I)I"⟩
abbrev cX8_drought : ByteArray := prog_10_method_51_code
def yX8_drought : MethodName := ⟨RX8, "drought", "(IIII)I"⟩
abbrev cX8_year : ByteArray := prog_10_method_52_code
def yX8_year : MethodName := ⟨RX8, "year", "(III)I"⟩
abbrev cX8_keep : ByteArray := prog_10_method_53_code
def yX8_keep : MethodName := ⟨RX8, "keep", "()I"⟩
abbrev cX8_back : ByteArray := prog_10_method_54_code
def yX8_back : MethodName := ⟨RX8, "back", "()I"⟩
abbrev cX8_count : ByteArray := prog_10_method_55_code
def yX8_count : MethodName := ⟨RX8, "count", "(I)I"⟩
def RJ9 : String := "java/lang/Math"
def TJ9 : u_T := fun k => match k with
  | _ => ("", "", "", false)
def tyJ9 : Nat → FieldType := fun k => match k with
  | _ => .int
abbrev wsJ90 : List Cond := u_ws RJ9 TJ9 0
theorem nmJ9 : ∀ a, a < 0 → ∀ b, b < 0 → a ≠ b → (TJ9 a).2.1 ≠ (TJ9 b).2.1 := by decide +kernel
theorem tyJ9_ok : ∀ k, k < 0 → parseFieldDescriptor (TJ9 k).2.2.1 = some (tyJ9 k) := by decide +kernel
abbrev cJ9_floorMod_7cf53 : ByteArray := prog_11_method_50_code
def yJ9_floorMod_7cf53 : MethodName := ⟨RJ9, "floorMod", "(II)I"⟩
abbrev cJ9_max_7cf53 : ByteArray := prog_11_method_65_code
def yJ9_max_7cf53 : MethodName := ⟨RJ9, "max", "(II)I"⟩
abbrev cJ9_min_7cf53 : ByteArray := prog_11_method_69_code
def yJ9_min_7cf53 : MethodName := ⟨RJ9, "min", "(II)I"⟩
def RJ0 : String := "java/lang/String"
def TJ0 : u_T := fun k => match k with
  | _ => ("", "", "", false)
def tyJ0 : Nat → FieldType := fun k => match k with
  | _ => .int
abbrev wsJ00 : List Cond := u_ws RJ0 TJ0 0
theorem nmJ0 : ∀ a, a < 0 → ∀ b, b < 0 → a ≠ b → (TJ0 a).2.1 ≠ (TJ0 b).2.1 := by decide +kernel
theorem tyJ0_ok : ∀ k, k < 0 → parseFieldDescriptor (TJ0 k).2.2.1 = some (tyJ0 k) := by decide +kernel
abbrev cJ0_length_8abf5 : ByteArray := prog_12_method_54_code
def yJ0_length_8abf5 : MethodName := ⟨RJ0, "length", "()I"⟩
abbrev cJ0_charAt_5068e : ByteArray := prog_12_method_56_code
def yJ0_charAt_5068e : MethodName := ⟨RJ0, "charAt", "(I)C"⟩
abbrev cJ0_coder_7d493 : ByteArray := prog_12_method_152_code
def yJ0_coder_7d493 : MethodName := ⟨RJ0, "coder", "()B"⟩
abbrev cJ0_isLatin1_aae02 : ByteArray := prog_12_method_154_code
def yJ0_isLatin1_aae02 : MethodName := ⟨RJ0, "isLatin1", "()Z"⟩
abbrev cJ0_checkIndex_df160 : ByteArray := prog_12_method_155_code
def yJ0_checkIndex_df160 : MethodName := ⟨RJ0, "checkIndex", "(II)V"⟩
def RJ1 : String := "java/lang/StringLatin1"
def TJ1 : u_T := fun k => match k with
  | _ => ("", "", "", false)
def tyJ1 : Nat → FieldType := fun k => match k with
  | _ => .int
abbrev wsJ10 : List Cond := u_ws RJ1 TJ1 0
theorem nmJ1 : ∀ a, a < 0 → ∀ b, b < 0 → a ≠ b → (TJ1 a).2.1 ≠ (TJ1 b).2.1 := by decide +kernel
theorem tyJ1_ok : ∀ k, k < 0 → parseFieldDescriptor (TJ1 k).2.2.1 = some (tyJ1 k) := by decide +kernel
abbrev cJ1_charAt_3b067 : ByteArray := prog_13_method_2_code
def yJ1_charAt_3b067 : MethodName := ⟨RJ1, "charAt", "([BI)C"⟩
def RJ2 : String := "java/lang/StringUTF16"
def TJ2 : u_T := fun k => match k with
  | _ => ("", "", "", false)
def tyJ2 : Nat → FieldType := fun k => match k with
  | _ => .int
abbrev wsJ20 : List Cond := u_ws RJ2 TJ2 0
theorem nmJ2 : ∀ a, a < 0 → ∀ b, b < 0 → a ≠ b → (TJ2 a).2.1 ≠ (TJ2 b).2.1 := by decide +kernel
theorem tyJ2_ok : ∀ k, k < 0 → parseFieldDescriptor (TJ2 k).2.2.1 = some (tyJ2 k) := by decide +kernel
abbrev cJ2_getChar_3b067 : ByteArray := prog_14_method_5_code
def yJ2_getChar_3b067 : MethodName := ⟨RJ2, "getChar", "([BI)C"⟩
abbrev cJ2_length_9d52b : ByteArray := prog_14_method_6_code
def yJ2_length_9d52b : MethodName := ⟨RJ2, "length", "([B)I"⟩
abbrev cJ2_charAt_3b067 : ByteArray := prog_14_method_83_code
def yJ2_charAt_3b067 : MethodName := ⟨RJ2, "charAt", "([BI)C"⟩
abbrev cJ2_checkIndex_2214a : ByteArray := prog_14_method_91_code
def yJ2_checkIndex_2214a : MethodName := ⟨RJ2, "checkIndex", "(I[B)V"⟩
def RJ3 : String := "jdk/internal/util/Preconditions"
def TJ3 : u_T := fun k => match k with
  | _ => ("", "", "", false)
def tyJ3 : Nat → FieldType := fun k => match k with
  | _ => .int
abbrev wsJ30 : List Cond := u_ws RJ3 TJ3 0
theorem nmJ3 : ∀ a, a < 0 → ∀ b, b < 0 → a ≠ b → (TJ3 a).2.1 ≠ (TJ3 b).2.1 := by decide +kernel
theorem tyJ3_ok : ∀ k, k < 0 → parseFieldDescriptor (TJ3 k).2.2.1 = some (tyJ3 k) := by decide +kernel
abbrev cJ3_checkIndex_8e157 : ByteArray := prog_15_method_11_code
def yJ3_checkIndex_8e157 : MethodName := ⟨RJ3, "checkIndex", "(IILjava/util/function/BiFunction;)I"⟩
def RL : String := "HedgeDuelLaw"
abbrev cL_law : ByteArray := code
def yL_law : MethodName := ⟨RL, "law", "([I)Z"⟩
def wsL_law_r1 : List Cond := [Cond.classLink RL 7 RX7, Cond.instantiable RX7 8, Cond.initialized RX7, Cond.classLink RL 10 RX8, Cond.instantiable RX8 23, Cond.initialized RX8, Cond.methodLink RL 9 yX7_init, Cond.instanceMethod yX7_init, Cond.code yX7_init cX7_init 2 none, Cond.methodLink RX7 1 objectInit, Cond.instanceMethod objectInit, Cond.code objectInit ⟨#[0xb1]⟩ 1 none, Cond.classLink RX7 7 RX2, Cond.instantiable RX2 4, Cond.initialized RX2, Cond.fieldLink RX7 10 "HedgeDuel" "paper" "LHedgeDuel$Paper;", Cond.classLink RX7 16 RX6, Cond.instantiable RX6 4, Cond.initialized RX6, Cond.fieldLink RX7 19 "HedgeDuel" "strip" "LHedgeDuel$Strip;", Cond.classLink RX7 23 RX0, Cond.instantiable RX0 4, Cond.initialized RX0, Cond.fieldLink RX7 26 "HedgeDuel" "now" "LHedgeDuel$Garden;"]
def wsL_law_r2 : List Cond := [Cond.fieldLink RX7 30 "HedgeDuel" "trial" "LHedgeDuel$Garden;", Cond.classLink RX7 33 RX4, Cond.instantiable RX4 3, Cond.initialized RX4, Cond.fieldLink RX7 38 "HedgeDuel" "past" "LHedgeDuel$Shelf;", Cond.fieldLink RX7 42 "HedgeDuel" "kept" "LHedgeDuel$Shelf;", Cond.classLink RX7 45 RX5, Cond.instantiable RX5 4, Cond.initialized RX5, Cond.fieldLink RX7 48 "HedgeDuel" "seen" "LHedgeDuel$Sights;", Cond.classLink RX7 52 RX3, Cond.instantiable RX3 7, Cond.initialized RX3, Cond.fieldLink RX7 57 "HedgeDuel" "plan" "LHedgeDuel$Plan;", Cond.fieldLink RX7 79 "HedgeDuel$Paper" "size" "I", Cond.instanceMethod yX2_init, Cond.code yX2_init cX2_init 1 none, Cond.methodLink RX2 3 objectInit, Cond.arrayClass .int, Cond.fieldLink RX2 9 "HedgeDuel$Paper" "letters" "[I", Cond.fieldLink RX2 15 "HedgeDuel$Paper" "numbers" "[I", Cond.instanceMethod yX6_init, Cond.code yX6_init cX6_init 1 none, Cond.methodLink RX6 3 objectInit]
def wsL_law_r3 : List Cond := [Cond.fieldLink RX6 9 "HedgeDuel$Strip" "sun" "[I", Cond.fieldLink RX6 15 "HedgeDuel$Strip" "dry" "[I", Cond.instanceMethod yX0_init, Cond.code yX0_init cX0_init 1 none, Cond.methodLink RX0 5 objectInit, Cond.classLink RX0 1 RX1, Cond.instantiable RX1 7, Cond.initialized RX1, Cond.fieldLink RX0 12 "HedgeDuel$Garden" "first" "LHedgeDuel$Hedge;", Cond.fieldLink RX0 18 "HedgeDuel$Garden" "second" "LHedgeDuel$Hedge;", Cond.instanceMethod yX1_init, Cond.code yX1_init cX1_init 1 none, Cond.methodLink RX1 3 objectInit, Cond.methodLink RX7 35 yX4_init, Cond.instanceMethod yX4_init, Cond.code yX4_init cX4_init 2 none, Cond.methodLink RX4 3 objectInit, Cond.methodLink RX4 9 Lib.Math.min.name, Cond.static Lib.Math.min.name, Cond.initialized "java/lang/Math", Cond.code Lib.Math.min.name Lib.Math.min.code 2 (some .int), Cond.methodLink RX4 15 Lib.Math.max.name, Cond.static Lib.Math.max.name, Cond.code Lib.Math.max.name Lib.Math.max.code 2 (some .int)]
def wsL_law_r4 : List Cond := [Cond.fieldLink RX4 18 "HedgeDuel$Shelf" "slots" "I", Cond.fieldLink RX4 26 "HedgeDuel$Shelf" "cells" "[I", Cond.instanceMethod yX5_init, Cond.code yX5_init cX5_init 1 none, Cond.methodLink RX5 3 objectInit, Cond.fieldLink RX5 9 "HedgeDuel$Sights" "sides" "[I", Cond.fieldLink RX5 15 "HedgeDuel$Sights" "times" "[I", Cond.fieldLink RX5 18 "HedgeDuel$Sights" "heights" "[I", Cond.methodLink RX7 54 yX3_init, Cond.instanceMethod yX3_init, Cond.code yX3_init cX3_init 2 none, Cond.methodLink RX3 3 objectInit, Cond.classLink RX3 9 RX0, Cond.fieldLink RX3 12 "HedgeDuel$Plan" "work" "LHedgeDuel$Garden;", Cond.fieldLink RX3 18 "HedgeDuel$Plan" "levels" "[I", Cond.fieldLink RX3 22 "HedgeDuel$Plan" "row" "[I", Cond.fieldLink RX3 25 "HedgeDuel$Plan" "strip" "LHedgeDuel$Strip;", Cond.methodLink RX7 63 yJ0_length_8abf5, Cond.instanceMethod yJ0_length_8abf5, Cond.selects RJ0 yJ0_length_8abf5 yJ0_length_8abf5, Cond.initialized RJ0, Cond.code yJ0_length_8abf5 cJ0_length_8abf5 1 (some .int), Cond.fieldLink RJ0 9 "java/lang/String" "value" "[B", Cond.methodLink RJ0 335 yJ0_coder_7d493]
def wsL_law_r5 : List Cond := [Cond.instanceMethod yJ0_coder_7d493, Cond.selects RJ0 yJ0_coder_7d493 yJ0_coder_7d493, Cond.code yJ0_coder_7d493 cJ0_coder_7d493 1 (some .byte), Cond.fieldLink RJ0 38 "java/lang/String" "COMPACT_STRINGS" "Z", Cond.fieldLink RJ0 15 "java/lang/String" "coder" "B", Cond.methodLink RX7 69 yJ0_charAt_5068e, Cond.instanceMethod yJ0_charAt_5068e, Cond.selects RJ0 yJ0_charAt_5068e yJ0_charAt_5068e, Cond.code yJ0_charAt_5068e cJ0_charAt_5068e 2 (some .char), Cond.methodLink RJ0 492 yJ0_isLatin1_aae02, Cond.instanceMethod yJ0_isLatin1_aae02, Cond.selects RJ0 yJ0_isLatin1_aae02 yJ0_isLatin1_aae02, Cond.code yJ0_isLatin1_aae02 cJ0_isLatin1_aae02 1 (some .boolean), Cond.methodLink RJ0 495 yJ1_charAt_3b067, Cond.static yJ1_charAt_3b067, Cond.initialized RJ1, Cond.code yJ1_charAt_3b067 cJ1_charAt_3b067 2 (some .char), Cond.methodLink RJ1 9 yJ0_checkIndex_df160, Cond.static yJ0_checkIndex_df160, Cond.code yJ0_checkIndex_df160 cJ0_checkIndex_df160 2 none, Cond.fieldLink RJ0 1053 "jdk/internal/util/Preconditions" "SIOOBE_FORMATTER" "Ljava/util/function/BiFunction;", Cond.methodLink RJ0 1059 yJ3_checkIndex_8e157, Cond.static yJ3_checkIndex_8e157, Cond.initialized RJ3]
def wsL_law_r6 : List Cond := [Cond.code yJ3_checkIndex_8e157 cJ3_checkIndex_8e157 3 (some .int), Cond.methodLink RJ0 498 yJ2_charAt_3b067, Cond.static yJ2_charAt_3b067, Cond.initialized RJ2, Cond.code yJ2_charAt_3b067 cJ2_charAt_3b067 2 (some .char), Cond.methodLink RJ2 67 yJ2_checkIndex_2214a, Cond.static yJ2_checkIndex_2214a, Cond.code yJ2_checkIndex_2214a cJ2_checkIndex_2214a 2 none, Cond.methodLink RJ2 48 yJ2_length_9d52b, Cond.static yJ2_length_9d52b, Cond.code yJ2_length_9d52b cJ2_length_9d52b 1 (some .int), Cond.methodLink RJ2 414 yJ0_checkIndex_df160, Cond.methodLink RJ2 71 yJ2_getChar_3b067, Cond.static yJ2_getChar_3b067, Cond.code yJ2_getChar_3b067 cJ2_getChar_3b067 2 (some .char), Cond.fieldLink RJ2 44 "java/lang/StringUTF16" "$assertionsDisabled" "Z", Cond.fieldLink RJ2 59 "java/lang/StringUTF16" "HI_BYTE_SHIFT" "I", Cond.fieldLink RJ2 63 "java/lang/StringUTF16" "LO_BYTE_SHIFT" "I", Cond.methodLink RX7 73 yX2_add, Cond.instanceMethod yX2_add, Cond.selects RX2 yX2_add yX2_add, Cond.code yX2_add cX2_add 2 none, Cond.fieldLink RX2 18 "HedgeDuel$Paper" "size" "I", Cond.static yX7_setCell]
def wsL_law_r7 : List Cond := [Cond.code yX7_setCell cX7_setCell 3 none, Cond.methodLink RX7 76 yX7_layPaper, Cond.instanceMethod yX7_layPaper, Cond.selects RX7 yX7_layPaper yX7_layPaper, Cond.code yX7_layPaper cX7_layPaper 3 none, Cond.fieldLink RX7 234 "HedgeDuel$Paper" "numbers" "[I", Cond.methodLink RX7 224 yX6_clear, Cond.instanceMethod yX6_clear, Cond.selects RX6 yX6_clear yX6_clear, Cond.code yX6_clear cX6_clear 2 none, Cond.fieldLink RX6 18 "HedgeDuel$Strip" "length" "I", Cond.fieldLink RX6 22 "HedgeDuel$Strip" "need" "I", Cond.methodLink RX7 227 yX0_clear, Cond.instanceMethod yX0_clear, Cond.selects RX0 yX0_clear yX0_clear, Cond.code yX0_clear cX0_clear 1 none, Cond.fieldLink RX0 25 "HedgeDuel$Garden" "well" "I", Cond.fieldLink RX0 29 "HedgeDuel$Garden" "months" "I", Cond.methodLink RX0 21 yX1_begin, Cond.instanceMethod yX1_begin, Cond.selects RX1 yX1_begin yX1_begin, Cond.code yX1_begin cX1_begin 4 none, Cond.fieldLink RX1 9 "HedgeDuel$Hedge" "sort" "I", Cond.fieldLink RX1 15 "HedgeDuel$Hedge" "high" "I"]
def wsL_law_r8 : List Cond := [Cond.fieldLink RX1 18 "HedgeDuel$Hedge" "coins" "I", Cond.fieldLink RX1 21 "HedgeDuel$Hedge" "lean" "I", Cond.fieldLink RX1 24 "HedgeDuel$Hedge" "dark" "I", Cond.methodLink RX7 228 yX2_readItem, Cond.instanceMethod yX2_readItem, Cond.selects RX2 yX2_readItem yX2_readItem, Cond.code yX2_readItem cX2_readItem 5 (some .int), Cond.fieldLink RX2 41 "HedgeDuel$Paper" "amount" "I", Cond.methodLink RX2 44 yX2_figureAt, Cond.instanceMethod yX2_figureAt, Cond.selects RX2 yX2_figureAt yX2_figureAt, Cond.code yX2_figureAt cX2_figureAt 3 (some .int), Cond.methodLink RX2 30 yX2_letterAt, Cond.instanceMethod yX2_letterAt, Cond.selects RX2 yX2_letterAt yX2_letterAt, Cond.code yX2_letterAt cX2_letterAt 2 (some .int), Cond.static yX7_cell, Cond.code yX7_cell cX7_cell 2 (some .int), Cond.static yX7_within, Cond.code yX7_within cX7_within 3 (some .boolean), Cond.methodLink RX2 47 yX2_isSo, Cond.instanceMethod yX2_isSo, Cond.selects RX2 yX2_isSo yX2_isSo, Cond.code yX2_isSo cX2_isSo 2 (some .boolean)]
def wsL_law_r9 : List Cond := [Cond.methodLink RX2 51 yX2_number, Cond.instanceMethod yX2_number, Cond.selects RX2 yX2_number yX2_number, Cond.code yX2_number cX2_number 4 (some .boolean), Cond.methodLink RX7 231 yX2_letterAt, Cond.methodLink RX7 237 yX7_layItem, Cond.instanceMethod yX7_layItem, Cond.selects RX7 yX7_layItem yX7_layItem, Cond.code yX7_layItem cX7_layItem 4 none, Cond.fieldLink RX7 92 "HedgeDuel$Strip" "length" "I", Cond.fieldLink RX7 243 "HedgeDuel$Strip" "sun" "[I", Cond.fieldLink RX7 221 "HedgeDuel$Garden" "well" "I", Cond.fieldLink RX7 250 "HedgeDuel$Strip" "dry" "[I", Cond.fieldLink RX7 132 "HedgeDuel$Strip" "need" "I", Cond.methodLink RX7 183 yX7_cell, Cond.methodLink RX7 98 yX0_of, Cond.instanceMethod yX0_of, Cond.selects RX0 yX0_of yX0_of, Cond.code yX0_of cX0_of 2 (some (.object "HedgeDuel$Hedge")), Cond.methodLink RX7 241 yX1_begin, Cond.methodLink RX7 246 yX7_setCell, Cond.methodLink RL 12 yX8_init, Cond.instanceMethod yX8_init, Cond.code yX8_init cX8_init 2 none]
def wsL_law_r10 : List Cond := [Cond.methodLink RX8 1 objectInit, Cond.fieldLink RX8 7 "HedgeDuelModel" "sun" "[I", Cond.fieldLink RX8 13 "HedgeDuelModel" "newSun" "[I", Cond.fieldLink RX8 16 "HedgeDuelModel" "slot" "[I", Cond.arrayClass .byte, Cond.fieldLink RX8 19 "HedgeDuelModel" "text" "[B", Cond.fieldLink RX8 23 "HedgeDuelModel" "sawWho" "[I", Cond.fieldLink RX8 26 "HedgeDuelModel" "sawTime" "[I", Cond.fieldLink RX8 29 "HedgeDuelModel" "sawHigh" "[I", Cond.fieldLink RX8 32 "HedgeDuelModel" "best" "[I", Cond.fieldLink RX8 35 "HedgeDuelModel" "strip" "I", Cond.fieldLink RX8 39 "HedgeDuelModel" "ends" "I", Cond.fieldLink RX8 42 "HedgeDuelModel" "dry" "I", Cond.methodLink RL 13 yX7_write, Cond.instanceMethod yX7_write, Cond.selects RX7 yX7_write yX7_write, Cond.code yX7_write cX7_write 2 (some .int), Cond.methodLink RX7 83 yX7_within, Cond.methodLink RL 17 yX8_write, Cond.instanceMethod yX8_write, Cond.selects RX8 yX8_write yX8_write, Cond.code yX8_write cX8_write 2 (some .int), Cond.constantLong RX8 45 (32), Cond.constantLong RX8 47 (126)]
def wsL_law_r11 : List Cond := [Cond.fieldLink RX8 53 "HedgeDuelModel" "length" "I", Cond.methodLink RX8 49 yX8_in, Cond.static yX8_in, Cond.code yX8_in cX8_in 6 (some .boolean), Cond.methodLink RL 18 yX7_wipe, Cond.instanceMethod yX7_wipe, Cond.selects RX7 yX7_wipe yX7_wipe, Cond.code yX7_wipe cX7_wipe 2 (some .int), Cond.methodLink RL 22 yX8_wipe, Cond.instanceMethod yX8_wipe, Cond.selects RX8 yX8_wipe yX8_wipe, Cond.code yX8_wipe cX8_wipe 2 (some .int), Cond.methodLink RL 23 yX7_fault, Cond.instanceMethod yX7_fault, Cond.selects RX7 yX7_fault yX7_fault, Cond.code yX7_fault cX7_fault 1 (some .int), Cond.methodLink RX7 87 yX2_firstFault, Cond.instanceMethod yX2_firstFault, Cond.selects RX2 yX2_firstFault yX2_firstFault, Cond.code yX2_firstFault cX2_firstFault 3 (some .int), Cond.methodLink RX2 38 yX2_readItem, Cond.methodLink RL 26 yX8_fault, Cond.instanceMethod yX8_fault, Cond.selects RX8 yX8_fault yX8_fault]
def wsL_law_r12 : List Cond := [Cond.code yX8_fault cX8_fault 1 (some .int), Cond.fieldLink RX8 90 "HedgeDuelModel" "begin" "I", Cond.methodLink RX8 97 yX8_reads, Cond.instanceMethod yX8_reads, Cond.selects RX8 yX8_reads yX8_reads, Cond.code yX8_reads cX8_reads 2 (some .boolean), Cond.fieldLink RX8 78 "HedgeDuelModel" "newStrip" "I", Cond.fieldLink RX8 87 "HedgeDuelModel" "newEnds" "I", Cond.fieldLink RX8 84 "HedgeDuelModel" "newDry" "I", Cond.fieldLink RX8 56 "HedgeDuelModel" "at" "I", Cond.fieldLink RX8 67 "HedgeDuelModel" "isWrong" "Z", Cond.methodLink RX8 59 yX8_next, Cond.instanceMethod yX8_next, Cond.selects RX8 yX8_next yX8_next, Cond.code yX8_next cX8_next 1 (some .int), Cond.methodLink RX8 93 yX8_item, Cond.instanceMethod yX8_item, Cond.selects RX8 yX8_item yX8_item, Cond.code yX8_item cX8_item 4 none, Cond.methodLink RX8 71 yX8_number, Cond.instanceMethod yX8_number, Cond.selects RX8 yX8_number yX8_number, Cond.code yX8_number cX8_number 5 (some .int), Cond.constantLong RX8 63 (48)]
def wsL_law_r13 : List Cond := [Cond.constantLong RX8 65 (57), Cond.methodLink RX8 81 yX8_hedgeItem, Cond.instanceMethod yX8_hedgeItem, Cond.selects RX8 yX8_hedgeItem yX8_hedgeItem, Cond.code yX8_hedgeItem cX8_hedgeItem 5 none, Cond.methodLink RX8 75 yX8_more, Cond.instanceMethod yX8_more, Cond.selects RX8 yX8_more yX8_more, Cond.code yX8_more cX8_more 3 (some .int), Cond.methodLink RL 27 yX7_lay, Cond.instanceMethod yX7_lay, Cond.selects RX7 yX7_lay yX7_lay, Cond.code yX7_lay cX7_lay 1 (some .int), Cond.fieldLink RX7 90 "HedgeDuel$Shelf" "size" "I", Cond.fieldLink RX7 91 "HedgeDuel$Sights" "size" "I", Cond.methodLink RL 30 yX8_lay, Cond.instanceMethod yX8_lay, Cond.selects RX8 yX8_lay yX8_lay, Cond.code yX8_lay cX8_lay 2 (some .int), Cond.fieldLink RX8 105 "HedgeDuelModel" "acts" "I", Cond.fieldLink RX8 108 "HedgeDuelModel" "keeps" "I", Cond.fieldLink RX8 111 "HedgeDuelModel" "seens" "I", Cond.methodLink RX8 101 yX8_copies, Cond.instanceMethod yX8_copies]
def wsL_law_r14 : List Cond := [Cond.selects RX8 yX8_copies yX8_copies, Cond.code yX8_copies cX8_copies 4 none, Cond.methodLink RL 31 yX7_hedge, Cond.instanceMethod yX7_hedge, Cond.selects RX7 yX7_hedge yX7_hedge, Cond.code yX7_hedge cX7_hedge 5 (some .int), Cond.fieldLink RX7 102 "HedgeDuel$Garden" "months" "I", Cond.fieldLink RX7 109 "HedgeDuel$Hedge" "sort" "I", Cond.fieldLink RX7 114 "HedgeDuel$Hedge" "high" "I", Cond.fieldLink RX7 117 "HedgeDuel$Hedge" "lean" "I", Cond.fieldLink RX7 120 "HedgeDuel$Hedge" "coins" "I", Cond.fieldLink RX7 129 "HedgeDuel$Hedge" "dark" "I", Cond.methodLink RX7 94 yX7_isSide, Cond.static yX7_isSide, Cond.code yX7_isSide cX7_isSide 1 (some .boolean), Cond.methodLink RX7 105 yX6_sunIn, Cond.instanceMethod yX6_sunIn, Cond.selects RX6 yX6_sunIn yX6_sunIn, Cond.code yX6_sunIn cX6_sunIn 2 (some .int), Cond.methodLink RX6 29 yJ9_floorMod_7cf53, Cond.static yJ9_floorMod_7cf53, Cond.initialized RJ9, Cond.code yJ9_floorMod_7cf53 cJ9_floorMod_7cf53 3 (some .int), Cond.methodLink RX7 123 yX1_shadowLength]
def wsL_law_r15 : List Cond := [Cond.instanceMethod yX1_shadowLength, Cond.selects RX1 yX1_shadowLength yX1_shadowLength, Cond.code yX1_shadowLength cX1_shadowLength 2 (some .int), Cond.methodLink RX7 126 yX0_isShaded, Cond.instanceMethod yX0_isShaded, Cond.selects RX0 yX0_isShaded yX0_isShaded, Cond.code yX0_isShaded cX0_isShaded 6 (some .boolean), Cond.fieldLink RX0 63 "HedgeDuel$Hedge" "high" "I", Cond.fieldLink RX0 70 "HedgeDuel$Hedge" "lean" "I", Cond.methodLink RX0 59 yX0_of, Cond.methodLink RX0 66 yX1_shadowLength, Cond.methodLink RL 35 yX8_hedge, Cond.instanceMethod yX8_hedge, Cond.selects RX8 yX8_hedge yX8_hedge, Cond.code yX8_hedge cX8_hedge 3 (some .int), Cond.constantLong RX8 125 (7), Cond.methodLink RX8 121 yX8_isOne, Cond.static yX8_isOne, Cond.code yX8_isOne cX8_isOne 1 (some .boolean), Cond.methodLink RX8 118 yX8_shadow, Cond.instanceMethod yX8_shadow, Cond.selects RX8 yX8_shadow yX8_shadow, Cond.code yX8_shadow cX8_shadow 3 (some .int), Cond.methodLink RX8 114 yX8_sunIn]
def wsL_law_r16 : List Cond := [Cond.instanceMethod yX8_sunIn, Cond.selects RX8 yX8_sunIn yX8_sunIn, Cond.code yX8_sunIn cX8_sunIn 2 (some .int), Cond.methodLink RX8 127 yX8_isShaded, Cond.instanceMethod yX8_isShaded, Cond.selects RX8 yX8_isShaded yX8_isShaded, Cond.code yX8_isShaded cX8_isShaded 4 (some .boolean), Cond.methodLink RL 36 yX7_month, Cond.instanceMethod yX7_month, Cond.selects RX7 yX7_month yX7_month, Cond.code yX7_month cX7_month 3 (some .int), Cond.methodLink RX7 135 yX6_isDry, Cond.instanceMethod yX6_isDry, Cond.selects RX6 yX6_isDry yX6_isDry, Cond.code yX6_isDry cX6_isDry 2 (some .boolean), Cond.methodLink RL 39 yX8_month, Cond.instanceMethod yX8_month, Cond.selects RX8 yX8_month yX8_month, Cond.code yX8_month cX8_month 3 (some .int), Cond.constantLong RX8 131 (99), Cond.methodLink RL 40 yX7_act, Cond.instanceMethod yX7_act, Cond.selects RX7 yX7_act yX7_act, Cond.code yX7_act cX7_act 3 (some .int)]
def wsL_law_r17 : List Cond := [Cond.fieldLink RX7 153 "HedgeDuel$Garden" "first" "LHedgeDuel$Hedge;", Cond.fieldLink RX7 157 "HedgeDuel$Garden" "second" "LHedgeDuel$Hedge;", Cond.methodLink RX7 138 yX7_isDeed, Cond.static yX7_isDeed, Cond.code yX7_isDeed cX7_isDeed 1 (some .boolean), Cond.methodLink RX7 141 yX7_isOver, Cond.instanceMethod yX7_isOver, Cond.selects RX7 yX7_isOver yX7_isOver, Cond.code yX7_isOver cX7_isOver 1 (some .boolean), Cond.methodLink RX7 210 yX0_loser, Cond.instanceMethod yX0_loser, Cond.selects RX0 yX0_loser yX0_loser, Cond.code yX0_loser cX0_loser 2 (some .int), Cond.fieldLink RX0 51 "HedgeDuel$Hedge" "dark" "I", Cond.fieldLink RX0 54 "HedgeDuel$Strip" "need" "I", Cond.methodLink RX7 145 yX4_push, Cond.instanceMethod yX4_push, Cond.selects RX4 yX4_push yX4_push, Cond.code yX4_push cX4_push 2 none, Cond.fieldLink RX4 30 "HedgeDuel$Shelf" "size" "I", Cond.methodLink RX4 33 yX4_dropOldest, Cond.instanceMethod yX4_dropOldest, Cond.selects RX4 yX4_dropOldest yX4_dropOldest, Cond.code yX4_dropOldest cX4_dropOldest 2 none]
def wsL_law_r18 : List Cond := [Cond.methodLink RX4 36 yX0_store, Cond.instanceMethod yX0_store, Cond.selects RX0 yX0_store yX0_store, Cond.code yX0_store cX0_store 3 none, Cond.methodLink RX0 36 yX1_store, Cond.instanceMethod yX1_store, Cond.selects RX1 yX1_store yX1_store, Cond.code yX1_store cX1_store 3 none, Cond.methodLink RX7 149 yX0_turn, Cond.instanceMethod yX0_turn, Cond.selects RX0 yX0_turn yX0_turn, Cond.code yX0_turn cX0_turn 4 none, Cond.methodLink RX0 77 yX6_isDry, Cond.methodLink RX0 81 yX0_turnBy, Cond.instanceMethod yX0_turnBy, Cond.selects RX0 yX0_turnBy yX0_turnBy, Cond.code yX0_turnBy cX0_turnBy 6 none, Cond.fieldLink RX0 100 "HedgeDuel$Strip" "length" "I", Cond.methodLink RX0 85 yX0_loser, Cond.methodLink RX0 89 yX0_tend, Cond.instanceMethod yX0_tend, Cond.selects RX0 yX0_tend yX0_tend, Cond.code yX0_tend cX0_tend 3 none, Cond.fieldLink RX0 107 "HedgeDuel$Hedge" "more" "I"]
def wsL_law_r19 : List Cond := [Cond.fieldLink RX0 110 "HedgeDuel$Hedge" "wet" "Z", Cond.methodLink RX0 114 Lib.Math.max.name, Cond.methodLink RX0 120 Lib.Math.min.name, Cond.fieldLink RX0 123 "HedgeDuel$Hedge" "coins" "I", Cond.methodLink RX0 126 yX1_takeDung, Cond.instanceMethod yX1_takeDung, Cond.selects RX1 yX1_takeDung yX1_takeDung, Cond.code yX1_takeDung cX1_takeDung 1 none, Cond.fieldLink RX1 35 "HedgeDuel$Hedge" "more" "I", Cond.methodLink RX1 38 Lib.Math.max.name, Cond.methodLink RX0 93 yX1_grow, Cond.instanceMethod yX1_grow, Cond.selects RX1 yX1_grow yX1_grow, Cond.code yX1_grow cX1_grow 8 none, Cond.fieldLink RX1 48 "HedgeDuel$Hedge" "wet" "Z", Cond.methodLink RX1 58 Lib.Math.min.name, Cond.methodLink RX1 52 yJ9_floorMod_7cf53, Cond.methodLink RX0 97 yX6_sunIn, Cond.methodLink RX0 103 yX0_isShaded, Cond.methodLink RL 43 yX8_act, Cond.instanceMethod yX8_act, Cond.selects RX8 yX8_act yX8_act, Cond.code yX8_act cX8_act 3 (some .int), Cond.constantLong RX8 160 (4)]
def wsL_law_r20 : List Cond := [Cond.methodLink RX8 162 yX8_isOver, Cond.instanceMethod yX8_isOver, Cond.selects RX8 yX8_isOver yX8_isOver, Cond.code yX8_isOver cX8_isOver 1 (some .boolean), Cond.methodLink RX8 165 yX8_known, Cond.instanceMethod yX8_known, Cond.selects RX8 yX8_known yX8_known, Cond.code yX8_known cX8_known 2 none, Cond.methodLink RX8 168 yX8_told, Cond.instanceMethod yX8_told, Cond.selects RX8 yX8_told yX8_told, Cond.code yX8_told cX8_told 4 (some .int), Cond.methodLink RX8 153 yX8_isDryNow, Cond.instanceMethod yX8_isDryNow, Cond.selects RX8 yX8_isDryNow yX8_isDryNow, Cond.code yX8_isDryNow cX8_isDryNow 2 (some .boolean), Cond.methodLink RX8 156 yX8_goes, Cond.instanceMethod yX8_goes, Cond.selects RX8 yX8_goes yX8_goes, Cond.code yX8_goes cX8_goes 10 (some .int), Cond.methodLink RX8 145 yX8_does, Cond.instanceMethod yX8_does, Cond.selects RX8 yX8_does yX8_does, Cond.code yX8_does cX8_does 5 (some .int)]
def wsL_law_r21 : List Cond := [Cond.methodLink RX8 133 yX8_larger, Cond.static yX8_larger, Cond.code yX8_larger cX8_larger 2 (some .int), Cond.methodLink RX8 136 yX8_smaller, Cond.static yX8_smaller, Cond.code yX8_smaller cX8_smaller 2 (some .int), Cond.methodLink RX8 149 yX8_rises, Cond.instanceMethod yX8_rises, Cond.selects RX8 yX8_rises yX8_rises, Cond.code yX8_rises cX8_rises 9 none, Cond.methodLink RX8 139 yX8_bound, Cond.static yX8_bound, Cond.code yX8_bound cX8_bound 1 (some .int), Cond.methodLink RX8 142 yX8_grows, Cond.static yX8_grows, Cond.code yX8_grows cX8_grows 3 (some .int), Cond.methodLink RL 44 yX7_pass, Cond.instanceMethod yX7_pass, Cond.selects RX7 yX7_pass yX7_pass, Cond.code yX7_pass cX7_pass 2 (some .int), Cond.methodLink RX7 160 yX0_idle, Cond.instanceMethod yX0_idle, Cond.selects RX0 yX0_idle yX0_idle, Cond.code yX0_idle cX0_idle 4 none]
def wsL_law_r22 : List Cond := [Cond.methodLink RX0 73 yX0_turn, Cond.methodLink RL 47 yX8_pass, Cond.instanceMethod yX8_pass, Cond.selects RX8 yX8_pass yX8_pass, Cond.code yX8_pass cX8_pass 4 (some .int), Cond.constantLong RX8 171 (24), Cond.methodLink RL 48 yX7_plant, Cond.instanceMethod yX7_plant, Cond.selects RX7 yX7_plant yX7_plant, Cond.code yX7_plant cX7_plant 4 (some .int), Cond.methodLink RX7 164 yX7_isKind, Cond.static yX7_isKind, Cond.code yX7_isKind cX7_isKind 1 (some .boolean), Cond.methodLink RL 51 yX8_plant, Cond.instanceMethod yX8_plant, Cond.selects RX8 yX8_plant yX8_plant, Cond.code yX8_plant cX8_plant 3 (some .int), Cond.methodLink RL 52 yX7_undo, Cond.instanceMethod yX7_undo, Cond.selects RX7 yX7_undo yX7_undo, Cond.code yX7_undo cX7_undo 1 (some .int), Cond.methodLink RX7 167 yX4_pop, Cond.instanceMethod yX4_pop, Cond.selects RX4 yX4_pop yX4_pop]
def wsL_law_r23 : List Cond := [Cond.code yX4_pop cX4_pop 2 none, Cond.methodLink RX4 40 yX0_restore, Cond.instanceMethod yX0_restore, Cond.selects RX0 yX0_restore yX0_restore, Cond.code yX0_restore cX0_restore 3 none, Cond.methodLink RX0 44 yX1_restore, Cond.instanceMethod yX1_restore, Cond.selects RX1 yX1_restore yX1_restore, Cond.code yX1_restore cX1_restore 3 none, Cond.methodLink RL 55 yX8_undo, Cond.instanceMethod yX8_undo, Cond.selects RX8 yX8_undo yX8_undo, Cond.code yX8_undo cX8_undo 1 (some .int), Cond.methodLink RL 56 yX7_behind, Cond.instanceMethod yX7_behind, Cond.selects RX7 yX7_behind yX7_behind, Cond.code yX7_behind cX7_behind 3 (some .int), Cond.methodLink RX7 170 yX0_copy, Cond.instanceMethod yX0_copy, Cond.selects RX0 yX0_copy yX0_copy, Cond.code yX0_copy cX0_copy 2 none, Cond.methodLink RX0 32 yX1_copy, Cond.instanceMethod yX1_copy, Cond.selects RX1 yX1_copy yX1_copy]
def wsL_law_r24 : List Cond := [Cond.code yX1_copy cX1_copy 2 none, Cond.methodLink RX7 173 yX7_outcome, Cond.instanceMethod yX7_outcome, Cond.selects RX7 yX7_outcome yX7_outcome, Cond.code yX7_outcome cX7_outcome 2 (some .int), Cond.methodLink RL 59 yX8_behind, Cond.instanceMethod yX8_behind, Cond.selects RX8 yX8_behind yX8_behind, Cond.code yX8_behind cX8_behind 4 (some .int), Cond.constantLong RX8 173 (36), Cond.constantLong RX8 175 (2), Cond.methodLink RX8 177 yX8_idles, Cond.instanceMethod yX8_idles, Cond.selects RX8 yX8_idles yX8_idles, Cond.code yX8_idles cX8_idles 4 (some .int), Cond.methodLink RL 60 yX7_soonest, Cond.instanceMethod yX7_soonest, Cond.selects RX7 yX7_soonest yX7_soonest, Cond.code yX7_soonest cX7_soonest 4 (some .int), Cond.fieldLink RX7 179 "HedgeDuel$Plan" "row" "[I", Cond.methodLink RX7 176 yX7_soonestLength, Cond.instanceMethod yX7_soonestLength, Cond.selects RX7 yX7_soonestLength yX7_soonestLength, Cond.code yX7_soonestLength cX7_soonestLength 3 (some .int)]
def wsL_law_r25 : List Cond := [Cond.methodLink RX7 187 yX3_begin, Cond.instanceMethod yX3_begin, Cond.selects RX3 yX3_begin yX3_begin, Cond.code yX3_begin cX3_begin 5 none, Cond.fieldLink RX3 29 "HedgeDuel$Plan" "side" "I", Cond.fieldLink RX3 33 "HedgeDuel$Plan" "months" "I", Cond.fieldLink RX3 36 "HedgeDuel$Plan" "attack" "Z", Cond.methodLink RX3 40 yX0_store, Cond.methodLink RX7 191 yX7_finds, Cond.static yX7_finds, Cond.code yX7_finds cX7_finds 4 (some .boolean), Cond.fieldLink RX7 253 "HedgeDuel$Plan" "months" "I", Cond.fieldLink RX7 257 "HedgeDuel$Plan" "attack" "Z", Cond.fieldLink RX7 261 "HedgeDuel$Plan" "side" "I", Cond.methodLink RX7 254 yX3_isReached, Cond.instanceMethod yX3_isReached, Cond.selects RX3 yX3_isReached yX3_isReached, Cond.code yX3_isReached cX3_isReached 3 (some .boolean), Cond.methodLink RX3 47 yX3_open, Cond.instanceMethod yX3_open, Cond.selects RX3 yX3_open yX3_open, Cond.code yX3_open cX3_open 2 none, Cond.methodLink RX3 44 yX0_restore, Cond.methodLink RX3 62 yX0_loser]
def wsL_law_r26 : List Cond := [Cond.methodLink RX7 264 yX3_attempt, Cond.instanceMethod yX3_attempt, Cond.selects RX3 yX3_attempt yX3_attempt, Cond.code yX3_attempt cX3_attempt 4 none, Cond.fieldLink RX3 51 "HedgeDuel$Garden" "months" "I", Cond.methodLink RX3 52 yX6_isDry, Cond.methodLink RX3 58 yX0_turnBy, Cond.methodLink RL 63 yX8_soonest, Cond.instanceMethod yX8_soonest, Cond.selects RX8 yX8_soonest yX8_soonest, Cond.code yX8_soonest cX8_soonest 5 (some .int), Cond.constantLong RX8 183 (5), Cond.methodLink RX8 185 yX8_rowsOf, Cond.static yX8_rowsOf, Cond.code yX8_rowsOf cX8_rowsOf 3 (some .int), Cond.methodLink RX8 188 yX8_rows, Cond.instanceMethod yX8_rows, Cond.selects RX8 yX8_rows yX8_rows, Cond.code yX8_rows cX8_rows 8 (some .int), Cond.methodLink RX8 180 yX8_doneIn, Cond.static yX8_doneIn, Cond.code yX8_doneIn cX8_doneIn 5 (some .int), Cond.methodLink RL 64 yX7_hold, Cond.instanceMethod yX7_hold]
def wsL_law_r27 : List Cond := [Cond.selects RX7 yX7_hold yX7_hold, Cond.code yX7_hold cX7_hold 4 (some .int), Cond.methodLink RL 68 yX8_hold, Cond.instanceMethod yX8_hold, Cond.selects RX8 yX8_hold yX8_hold, Cond.code yX8_hold cX8_hold 5 (some .int), Cond.methodLink RL 69 yX7_play, Cond.instanceMethod yX7_play, Cond.selects RX7 yX7_play yX7_play, Cond.code yX7_play cX7_play 4 (some .int), Cond.methodLink RX7 195 yX7_bestLead, Cond.static yX7_bestLead, Cond.code yX7_bestLead cX7_bestLead 6 (some .int), Cond.constant RX7 272 (-100000), Cond.constant RX7 273 (100000), Cond.methodLink RX7 274 Lib.Math.min.name, Cond.methodLink RX7 267 yX3_isOver, Cond.instanceMethod yX3_isOver, Cond.selects RX3 yX3_isOver yX3_isOver, Cond.code yX3_isOver cX3_isOver 2 (some .boolean), Cond.methodLink RX7 269 yX3_leadAt, Cond.instanceMethod yX3_leadAt, Cond.selects RX3 yX3_leadAt yX3_leadAt, Cond.code yX3_leadAt cX3_leadAt 4 (some .int)]
def wsL_law_r28 : List Cond := [Cond.fieldLink RX3 66 "HedgeDuel$Garden" "first" "LHedgeDuel$Hedge;", Cond.fieldLink RX3 70 "HedgeDuel$Hedge" "high" "I", Cond.fieldLink RX3 75 "HedgeDuel$Garden" "second" "LHedgeDuel$Hedge;", Cond.methodLink RL 72 yX8_play, Cond.instanceMethod yX8_play, Cond.selects RX8 yX8_play yX8_play, Cond.code yX8_play cX8_play 8 (some .int), Cond.constantLong RX8 192 (3), Cond.fieldLink RX8 197 "HedgeDuelModel" "firstAct" "I", Cond.methodLink RX8 194 yX8_forgets, Cond.instanceMethod yX8_forgets, Cond.selects RX8 yX8_forgets yX8_forgets, Cond.code yX8_forgets cX8_forgets 2 none, Cond.methodLink RX8 200 yX8_folds, Cond.instanceMethod yX8_folds, Cond.selects RX8 yX8_folds yX8_folds, Cond.code yX8_folds cX8_folds 4 none, Cond.methodLink RL 73 yX7_kind, Cond.instanceMethod yX7_kind, Cond.selects RX7 yX7_kind yX7_kind, Cond.code yX7_kind cX7_kind 8 (some .int), Cond.methodLink RL 76 yX8_kind, Cond.instanceMethod yX8_kind, Cond.selects RX8 yX8_kind yX8_kind]
def wsL_law_r29 : List Cond := [Cond.code yX8_kind cX8_kind 8 (some .int), Cond.fieldLink RX8 203 "HedgeDuelModel" "found" "I", Cond.methodLink RL 77 yX7_see, Cond.instanceMethod yX7_see, Cond.selects RX7 yX7_see yX7_see, Cond.code yX7_see cX7_see 4 (some .int), Cond.methodLink RX7 199 yX5_add, Cond.instanceMethod yX5_add, Cond.selects RX5 yX5_add yX5_add, Cond.code yX5_add cX5_add 4 none, Cond.fieldLink RX5 21 "HedgeDuel$Sights" "size" "I", Cond.methodLink RL 80 yX8_see, Cond.instanceMethod yX8_see, Cond.selects RX8 yX8_see yX8_see, Cond.code yX8_see cX8_see 4 (some .int), Cond.constantLong RX8 206 (60), Cond.methodLink RL 81 yX7_forget, Cond.instanceMethod yX7_forget, Cond.selects RX7 yX7_forget yX7_forget, Cond.code yX7_forget cX7_forget 2 (some .int), Cond.methodLink RL 84 yX8_forget, Cond.instanceMethod yX8_forget, Cond.selects RX8 yX8_forget yX8_forget, Cond.code yX8_forget cX8_forget 2 (some .int)]
def wsL_law_r30 : List Cond := [Cond.methodLink RL 85 yX7_did, Cond.instanceMethod yX7_did, Cond.selects RX7 yX7_did yX7_did, Cond.code yX7_did cX7_did 4 (some .int), Cond.methodLink RX7 202 yX7_comesAsSeen, Cond.instanceMethod yX7_comesAsSeen, Cond.selects RX7 yX7_comesAsSeen yX7_comesAsSeen, Cond.code yX7_comesAsSeen cX7_comesAsSeen 5 (some .boolean), Cond.methodLink RX7 279 yX5_agree, Cond.instanceMethod yX5_agree, Cond.selects RX5 yX5_agree yX5_agree, Cond.code yX5_agree cX5_agree 4 (some .boolean), Cond.fieldLink RX5 39 "HedgeDuel$Hedge" "high" "I", Cond.methodLink RX5 33 yX0_of, Cond.methodLink RL 88 yX8_did, Cond.instanceMethod yX8_did, Cond.selects RX8 yX8_did yX8_did, Cond.code yX8_did cX8_did 4 (some .int), Cond.methodLink RX8 208 yX8_isSo, Cond.instanceMethod yX8_isSo, Cond.selects RX8 yX8_isSo yX8_isSo, Cond.code yX8_isSo cX8_isSo 7 (some .boolean), Cond.methodLink RL 89 yX7_was, Cond.instanceMethod yX7_was]
def wsL_law_r31 : List Cond := [Cond.selects RX7 yX7_was yX7_was, Cond.code yX7_was cX7_was 4 (some .int), Cond.methodLink RL 92 yX8_was, Cond.instanceMethod yX8_was, Cond.selects RX8 yX8_was yX8_was, Cond.code yX8_was cX8_was 4 (some .int), Cond.methodLink RL 93 yX7_drought, Cond.instanceMethod yX7_drought, Cond.selects RX7 yX7_drought yX7_drought, Cond.code yX7_drought cX7_drought 9 (some .int), Cond.methodLink RX7 206 yX7_playDrought, Cond.instanceMethod yX7_playDrought, Cond.selects RX7 yX7_playDrought yX7_playDrought, Cond.code yX7_playDrought cX7_playDrought 7 (some .int), Cond.methodLink RX7 283 yX0_turnBy, Cond.methodLink RX7 214 yX7_commonDivisor, Cond.static yX7_commonDivisor, Cond.code yX7_commonDivisor cX7_commonDivisor 4 (some .int), Cond.methodLink RL 97 yX8_drought, Cond.instanceMethod yX8_drought, Cond.selects RX8 yX8_drought yX8_drought, Cond.code yX8_drought cX8_drought 12 (some .int), Cond.constantLong RX8 211 (6), Cond.constantLong RX8 213 (10)]
def wsL_law_r32 : List Cond := [Cond.methodLink RL 98 yX7_year, Cond.instanceMethod yX7_year, Cond.selects RX7 yX7_year yX7_year, Cond.code yX7_year cX7_year 6 (some .int), Cond.methodLink RX7 218 yX7_drawOf, Cond.static yX7_drawOf, Cond.code yX7_drawOf cX7_drawOf 4 (some .int), Cond.constantLong RX7 287 (7919), Cond.constantLong RX7 289 (6151), Cond.constantLong RX7 291 (65521), Cond.constantLong RX7 293 (2), Cond.methodLink RL 101 yX8_year, Cond.instanceMethod yX8_year, Cond.selects RX8 yX8_year yX8_year, Cond.code yX8_year cX8_year 9 (some .int), Cond.constantLong RX8 215 (9999), Cond.constantLong RX8 217 (40), Cond.constantLong RX8 219 (7919), Cond.constantLong RX8 221 (6151), Cond.constantLong RX8 223 (65521), Cond.methodLink RL 102 yX7_keep, Cond.instanceMethod yX7_keep, Cond.selects RX7 yX7_keep yX7_keep, Cond.code yX7_keep cX7_keep 1 (some .int)]
def wsL_law_r33 : List Cond := [Cond.methodLink RL 105 yX8_keep, Cond.instanceMethod yX8_keep, Cond.selects RX8 yX8_keep yX8_keep, Cond.code yX8_keep cX8_keep 1 (some .int), Cond.methodLink RL 106 yX7_back, Cond.instanceMethod yX7_back, Cond.selects RX7 yX7_back yX7_back, Cond.code yX7_back cX7_back 1 (some .int), Cond.methodLink RL 109 yX8_back, Cond.instanceMethod yX8_back, Cond.selects RX8 yX8_back yX8_back, Cond.code yX8_back cX8_back 1 (some .int), Cond.methodLink RL 110 yX7_count, Cond.instanceMethod yX7_count, Cond.selects RX7 yX7_count yX7_count, Cond.code yX7_count cX7_count 2 (some .int), Cond.methodLink RL 113 yX8_count, Cond.instanceMethod yX8_count, Cond.selects RX8 yX8_count yX8_count, Cond.code yX8_count cX8_count 2 (some .int)]
def wsL_law : List Cond := (wsL_law_r1 ++ (wsL_law_r2 ++ (wsL_law_r3 ++ (wsL_law_r4 ++ (wsL_law_r5 ++ (wsL_law_r6 ++ (wsL_law_r7 ++ (wsL_law_r8 ++ (wsL_law_r9 ++ (wsL_law_r10 ++ (wsL_law_r11 ++ (wsL_law_r12 ++ (wsL_law_r13 ++ (wsL_law_r14 ++ (wsL_law_r15 ++ (wsL_law_r16 ++ (wsL_law_r17 ++ (wsL_law_r18 ++ (wsL_law_r19 ++ (wsL_law_r20 ++ (wsL_law_r21 ++ (wsL_law_r22 ++ (wsL_law_r23 ++ (wsL_law_r24 ++ (wsL_law_r25 ++ (wsL_law_r26 ++ (wsL_law_r27 ++ (wsL_law_r28 ++ (wsL_law_r29 ++ (wsL_law_r30 ++ (wsL_law_r31 ++ (wsL_law_r32 ++ wsL_law_r33)))))))))))))))))))))))))))))))) ++ wsX70 ++ wsX80 ++ wsX20 ++ wsX60 ++ wsX00 ++ wsX40 ++ wsX50 ++ wsX30 ++ wsX10 ++ ([] : List Cond)
abbrev vwCl : List vw_C := [(RX0, TX0, 4), (RX1, TX1, 7), (RX2, TX2, 4), (RX3, TX3, 7), (RX4, TX4, 3), (RX5, TX5, 4), (RX6, TX6, 4), (RX7, TX7, 8), (RX8, TX8, 23)]
