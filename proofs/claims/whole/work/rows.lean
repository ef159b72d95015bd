section
-- ===== PART A: goes FIRST, ahead of the names: the tables' words, and 'selects' of the private methods out of them =====
/-- a private method of a class that the tables say can be made, by its rows of tables_1 -/
def lw_okq (q : MethodName × Nat) : Prop := (q.1.cls ≠ "java/lang/invoke/MethodHandle" ∧ q.1.cls ≠ "java/lang/invoke/VarHandle") ∧ Cond.instantiable q.1.cls q.2 ∈ tables_1 ∧ Cond.privateMethod q.1 ∈ tables_1 ∧ Cond.instanceMethod q.1 ∈ tables_1
theorem lw_p0 : lw_okq (⟨"QuorumLock$Asker", "forgetSets", "()V"⟩, 5) := ⟨⟨by decide +kernel, by decide +kernel⟩, List.mem_of_getElem? (i := 53) (by decide +kernel), List.mem_of_getElem? (i := 128) (by decide +kernel), List.mem_of_getElem? (i := 129) (by decide +kernel)⟩
theorem lw_p1 : lw_okq (⟨"QuorumLock", "isNode", "(I)Z"⟩, 7) := ⟨⟨by decide +kernel, by decide +kernel⟩, List.mem_of_getElem? (i := 10) (by decide +kernel), List.mem_of_getElem? (i := 171) (by decide +kernel), List.mem_of_getElem? (i := 172) (by decide +kernel)⟩
theorem lw_p2 : lw_okq (⟨"QuorumLock", "sendToQuorum", "(III)V"⟩, 7) := ⟨⟨by decide +kernel, by decide +kernel⟩, List.mem_of_getElem? (i := 10) (by decide +kernel), List.mem_of_getElem? (i := 179) (by decide +kernel), List.mem_of_getElem? (i := 180) (by decide +kernel)⟩
theorem lw_p3 : lw_okq (⟨"QuorumLock", "send", "(IIII)V"⟩, 7) := ⟨⟨by decide +kernel, by decide +kernel⟩, List.mem_of_getElem? (i := 10) (by decide +kernel), List.mem_of_getElem? (i := 186) (by decide +kernel), List.mem_of_getElem? (i := 187) (by decide +kernel)⟩
theorem lw_p4 : lw_okq (⟨"QuorumLock$Wires", "wireOf", "(II)I"⟩, 5) := ⟨⟨by decide +kernel, by decide +kernel⟩, List.mem_of_getElem? (i := 28) (by decide +kernel), List.mem_of_getElem? (i := 194) (by decide +kernel), List.mem_of_getElem? (i := 195) (by decide +kernel)⟩
theorem lw_p5 : lw_okq (⟨"QuorumLock$Wires", "slotOf", "(II)I"⟩, 5) := ⟨⟨by decide +kernel, by decide +kernel⟩, List.mem_of_getElem? (i := 28) (by decide +kernel), List.mem_of_getElem? (i := 198) (by decide +kernel), List.mem_of_getElem? (i := 199) (by decide +kernel)⟩
theorem lw_p6 : lw_okq (⟨"QuorumLock", "isWire", "(II)Z"⟩, 7) := ⟨⟨by decide +kernel, by decide +kernel⟩, List.mem_of_getElem? (i := 10) (by decide +kernel), List.mem_of_getElem? (i := 206) (by decide +kernel), List.mem_of_getElem? (i := 207) (by decide +kernel)⟩
theorem lw_p7 : lw_okq (⟨"QuorumLock", "deliverOldest", "(II)I"⟩, 7) := ⟨⟨by decide +kernel, by decide +kernel⟩, List.mem_of_getElem? (i := 10) (by decide +kernel), List.mem_of_getElem? (i := 210) (by decide +kernel), List.mem_of_getElem? (i := 211) (by decide +kernel)⟩
theorem lw_p8 : lw_okq (⟨"QuorumLock", "weighRequest", "(III)V"⟩, 7) := ⟨⟨by decide +kernel, by decide +kernel⟩, List.mem_of_getElem? (i := 10) (by decide +kernel), List.mem_of_getElem? (i := 226) (by decide +kernel), List.mem_of_getElem? (i := 227) (by decide +kernel)⟩
theorem lw_p9 : lw_okq (⟨"QuorumLock", "lend", "(III)V"⟩, 7) := ⟨⟨by decide +kernel, by decide +kernel⟩, List.mem_of_getElem? (i := 10) (by decide +kernel), List.mem_of_getElem? (i := 230) (by decide +kernel), List.mem_of_getElem? (i := 231) (by decide +kernel)⟩
theorem lw_p10 : lw_okq (⟨"QuorumLock", "inquireOnce", "(I)V"⟩, 7) := ⟨⟨by decide +kernel, by decide +kernel⟩, List.mem_of_getElem? (i := 10) (by decide +kernel), List.mem_of_getElem? (i := 260) (by decide +kernel), List.mem_of_getElem? (i := 261) (by decide +kernel)⟩
theorem lw_p11 : lw_okq (⟨"QuorumLock", "hearLocked", "(III)V"⟩, 7) := ⟨⟨by decide +kernel, by decide +kernel⟩, List.mem_of_getElem? (i := 10) (by decide +kernel), List.mem_of_getElem? (i := 264) (by decide +kernel), List.mem_of_getElem? (i := 265) (by decide +kernel)⟩
theorem lw_p12 : lw_okq (⟨"QuorumLock", "takeVoteBack", "(IIIZ)V"⟩, 7) := ⟨⟨by decide +kernel, by decide +kernel⟩, List.mem_of_getElem? (i := 10) (by decide +kernel), List.mem_of_getElem? (i := 272) (by decide +kernel), List.mem_of_getElem? (i := 273) (by decide +kernel)⟩
theorem lw_p13 : lw_okq (⟨"QuorumLock", "hearInquire", "(III)V"⟩, 7) := ⟨⟨by decide +kernel, by decide +kernel⟩, List.mem_of_getElem? (i := 10) (by decide +kernel), List.mem_of_getElem? (i := 282) (by decide +kernel), List.mem_of_getElem? (i := 283) (by decide +kernel)⟩
theorem lw_p14 : lw_okq (⟨"QuorumLock", "giveUp", "(II)V"⟩, 7) := ⟨⟨by decide +kernel, by decide +kernel⟩, List.mem_of_getElem? (i := 10) (by decide +kernel), List.mem_of_getElem? (i := 290) (by decide +kernel), List.mem_of_getElem? (i := 291) (by decide +kernel)⟩
theorem lw_p15 : lw_okq (⟨"QuorumLock", "hearFailed", "(III)V"⟩, 7) := ⟨⟨by decide +kernel, by decide +kernel⟩, List.mem_of_getElem? (i := 10) (by decide +kernel), List.mem_of_getElem? (i := 298) (by decide +kernel), List.mem_of_getElem? (i := 299) (by decide +kernel)⟩
def lw_privs_1 : List (MethodName × Nat) := [(⟨"QuorumLock$Asker", "forgetSets", "()V"⟩, 5), (⟨"QuorumLock", "isNode", "(I)Z"⟩, 7), (⟨"QuorumLock", "sendToQuorum", "(III)V"⟩, 7), (⟨"QuorumLock", "send", "(IIII)V"⟩, 7), (⟨"QuorumLock$Wires", "wireOf", "(II)I"⟩, 5), (⟨"QuorumLock$Wires", "slotOf", "(II)I"⟩, 5), (⟨"QuorumLock", "isWire", "(II)Z"⟩, 7), (⟨"QuorumLock", "deliverOldest", "(II)I"⟩, 7), (⟨"QuorumLock", "weighRequest", "(III)V"⟩, 7), (⟨"QuorumLock", "lend", "(III)V"⟩, 7), (⟨"QuorumLock", "inquireOnce", "(I)V"⟩, 7), (⟨"QuorumLock", "hearLocked", "(III)V"⟩, 7), (⟨"QuorumLock", "takeVoteBack", "(IIIZ)V"⟩, 7), (⟨"QuorumLock", "hearInquire", "(III)V"⟩, 7), (⟨"QuorumLock", "giveUp", "(II)V"⟩, 7), (⟨"QuorumLock", "hearFailed", "(III)V"⟩, 7)]
theorem lw_r1 : ∀ q ∈ lw_privs_1, lw_okq q := List.forall_mem_cons.mpr ⟨lw_p0, List.forall_mem_cons.mpr ⟨lw_p1, List.forall_mem_cons.mpr ⟨lw_p2, List.forall_mem_cons.mpr ⟨lw_p3, List.forall_mem_cons.mpr ⟨lw_p4, List.forall_mem_cons.mpr ⟨lw_p5, List.forall_mem_cons.mpr ⟨lw_p6, List.forall_mem_cons.mpr ⟨lw_p7, List.forall_mem_cons.mpr ⟨lw_p8, List.forall_mem_cons.mpr ⟨lw_p9, List.forall_mem_cons.mpr ⟨lw_p10, List.forall_mem_cons.mpr ⟨lw_p11, List.forall_mem_cons.mpr ⟨lw_p12, List.forall_mem_cons.mpr ⟨lw_p13, List.forall_mem_cons.mpr ⟨lw_p14, List.forall_mem_cons.mpr ⟨lw_p15, fun _ h => absurd h List.not_mem_nil⟩⟩⟩⟩⟩⟩⟩⟩⟩⟩⟩⟩⟩⟩⟩⟩
theorem lw_p16 : lw_okq (⟨"QuorumLockModel", "isNode", "(I)Z"⟩, 19) := ⟨⟨by decide +kernel, by decide +kernel⟩, List.mem_of_getElem? (i := 364) (by decide +kernel), List.mem_of_getElem? (i := 438) (by decide +kernel), List.mem_of_getElem? (i := 439) (by decide +kernel)⟩
theorem lw_p17 : lw_okq (⟨"QuorumLockModel", "empty", "(I)V"⟩, 19) := ⟨⟨by decide +kernel, by decide +kernel⟩, List.mem_of_getElem? (i := 364) (by decide +kernel), List.mem_of_getElem? (i := 442) (by decide +kernel), List.mem_of_getElem? (i := 443) (by decide +kernel)⟩
theorem lw_p18 : lw_okq (⟨"QuorumLockModel", "sendAll", "(III)V"⟩, 19) := ⟨⟨by decide +kernel, by decide +kernel⟩, List.mem_of_getElem? (i := 364) (by decide +kernel), List.mem_of_getElem? (i := 446) (by decide +kernel), List.mem_of_getElem? (i := 447) (by decide +kernel)⟩
theorem lw_p19 : lw_okq (⟨"QuorumLockModel", "quorum", "(I)I"⟩, 19) := ⟨⟨by decide +kernel, by decide +kernel⟩, List.mem_of_getElem? (i := 364) (by decide +kernel), List.mem_of_getElem? (i := 450) (by decide +kernel), List.mem_of_getElem? (i := 451) (by decide +kernel)⟩
theorem lw_p20 : lw_okq (⟨"QuorumLockModel", "send", "(IIII)V"⟩, 19) := ⟨⟨by decide +kernel, by decide +kernel⟩, List.mem_of_getElem? (i := 364) (by decide +kernel), List.mem_of_getElem? (i := 454) (by decide +kernel), List.mem_of_getElem? (i := 455) (by decide +kernel)⟩
theorem lw_p21 : lw_okq (⟨"QuorumLockModel", "asked", "(III)V"⟩, 19) := ⟨⟨by decide +kernel, by decide +kernel⟩, List.mem_of_getElem? (i := 364) (by decide +kernel), List.mem_of_getElem? (i := 470) (by decide +kernel), List.mem_of_getElem? (i := 471) (by decide +kernel)⟩
theorem lw_p22 : lw_okq (⟨"QuorumLockModel", "lend", "(III)V"⟩, 19) := ⟨⟨by decide +kernel, by decide +kernel⟩, List.mem_of_getElem? (i := 364) (by decide +kernel), List.mem_of_getElem? (i := 474) (by decide +kernel), List.mem_of_getElem? (i := 475) (by decide +kernel)⟩
theorem lw_p23 : lw_okq (⟨"QuorumLockModel", "line", "(III)I"⟩, 19) := ⟨⟨by decide +kernel, by decide +kernel⟩, List.mem_of_getElem? (i := 364) (by decide +kernel), List.mem_of_getElem? (i := 478) (by decide +kernel), List.mem_of_getElem? (i := 479) (by decide +kernel)⟩
theorem lw_p24 : lw_okq (⟨"QuorumLockModel", "home", "(IIIZ)V"⟩, 19) := ⟨⟨by decide +kernel, by decide +kernel⟩, List.mem_of_getElem? (i := 364) (by decide +kernel), List.mem_of_getElem? (i := 485) (by decide +kernel), List.mem_of_getElem? (i := 486) (by decide +kernel)⟩
theorem lw_p25 : lw_okq (⟨"QuorumLockModel", "answer", "(IIII)V"⟩, 19) := ⟨⟨by decide +kernel, by decide +kernel⟩, List.mem_of_getElem? (i := 364) (by decide +kernel), List.mem_of_getElem? (i := 489) (by decide +kernel), List.mem_of_getElem? (i := 490) (by decide +kernel)⟩
theorem lw_p26 : lw_okq (⟨"QuorumLockModel", "giveUp", "(II)V"⟩, 19) := ⟨⟨by decide +kernel, by decide +kernel⟩, List.mem_of_getElem? (i := 364) (by decide +kernel), List.mem_of_getElem? (i := 493) (by decide +kernel), List.mem_of_getElem? (i := 494) (by decide +kernel)⟩
theorem lw_p27 : lw_okq (⟨"QuorumLockModel", "count", "(I)I"⟩, 19) := ⟨⟨by decide +kernel, by decide +kernel⟩, List.mem_of_getElem? (i := 364) (by decide +kernel), List.mem_of_getElem? (i := 510) (by decide +kernel), List.mem_of_getElem? (i := 511) (by decide +kernel)⟩
def lw_privs_2 : List (MethodName × Nat) := [(⟨"QuorumLockModel", "isNode", "(I)Z"⟩, 19), (⟨"QuorumLockModel", "empty", "(I)V"⟩, 19), (⟨"QuorumLockModel", "sendAll", "(III)V"⟩, 19), (⟨"QuorumLockModel", "quorum", "(I)I"⟩, 19), (⟨"QuorumLockModel", "send", "(IIII)V"⟩, 19), (⟨"QuorumLockModel", "asked", "(III)V"⟩, 19), (⟨"QuorumLockModel", "lend", "(III)V"⟩, 19), (⟨"QuorumLockModel", "line", "(III)I"⟩, 19), (⟨"QuorumLockModel", "home", "(IIIZ)V"⟩, 19), (⟨"QuorumLockModel", "answer", "(IIII)V"⟩, 19), (⟨"QuorumLockModel", "giveUp", "(II)V"⟩, 19), (⟨"QuorumLockModel", "count", "(I)I"⟩, 19)]
theorem lw_r2 : ∀ q ∈ lw_privs_2, lw_okq q := List.forall_mem_cons.mpr ⟨lw_p16, List.forall_mem_cons.mpr ⟨lw_p17, List.forall_mem_cons.mpr ⟨lw_p18, List.forall_mem_cons.mpr ⟨lw_p19, List.forall_mem_cons.mpr ⟨lw_p20, List.forall_mem_cons.mpr ⟨lw_p21, List.forall_mem_cons.mpr ⟨lw_p22, List.forall_mem_cons.mpr ⟨lw_p23, List.forall_mem_cons.mpr ⟨lw_p24, List.forall_mem_cons.mpr ⟨lw_p25, List.forall_mem_cons.mpr ⟨lw_p26, List.forall_mem_cons.mpr ⟨lw_p27, fun _ h => absurd h List.not_mem_nil⟩⟩⟩⟩⟩⟩⟩⟩⟩⟩⟩⟩
def lw_privs : List (MethodName × Nat) := lw_privs_1 ++ (lw_privs_2)
def lw_tbl : List Cond := k2_sels lw_privs ++ tables_1
theorem lw_privs_ok : ∀ q ∈ lw_privs, lw_okq q := by
  show ∀ q ∈ lw_privs_1 ++ (lw_privs_2), lw_okq q
  exact List.forall_mem_append.mpr ⟨lw_r1, lw_r2⟩
end
section
/-! ===== BEGIN words of one list among another's, by their places ===== -/
theorem goodIn_r {big : List Cond} (ws : List Cond) (ps : List Nat) (hp : ws = ps.filterMap (fun i => big[i]?)) (h : ws.all goodWord = true) : GoodIn big ws := by
  intro w hw
  have h1 := List.all_eq_true.mp h w hw
  rw [hp] at hw
  obtain ⟨i, -, hi⟩ := List.mem_filterMap.mp hw
  have hm : w ∈ big := by first | exact List.mem_of_getElem? hi | exact List.getElem?_mem hi
  exact ⟨hm, good_of_word h1⟩
theorem goodIn_app {big a b : List Cond} (ha : GoodIn big a) (hb : GoodIn big b) : GoodIn big (a ++ b) := fun w h => (List.mem_append.mp h).elim (ha w) (hb w)
theorem goodIn_ca {big a b : List Cond} {c : Cond} (ha : GoodIn big (c :: a)) (hb : GoodIn big b) : GoodIn big (c :: (a ++ b)) := fun w h => (List.mem_cons.mp h).elim (fun e => ha w (List.mem_cons.mpr (Or.inl e))) (fun h => (List.mem_append.mp h).elim (fun h => ha w (List.mem_cons.mpr (Or.inr h))) (hb w))
theorem goodIn_sub {big ws : List Cond} (hm : ∀ w ∈ ws, w ∈ big) (h : ws.all goodWord = true) : GoodIn big ws := fun w hw => ⟨hm w hw, good_of_word (List.all_eq_true.mp h w hw)⟩
/-! ===== END ===== -/

/-! ===== BEGIN printed: names, fields, word lists, decode rows ===== -/
def RX0 : String := "QuorumLock$Asker"
def TX0 : u_T := fun k => match k with
  | 0 => ("QuorumLock$Asker", "state", "I", false)
  | 1 => ("QuorumLock$Asker", "time", "I", false)
  | 2 => ("QuorumLock$Asker", "votes", "I", false)
  | 3 => ("QuorumLock$Asker", "failures", "I", false)
  | _ => ("QuorumLock$Asker", "inquiries", "I", false)
def tyX0 : Nat → FieldType := fun k => match k with
  | 0 => .int
  | 1 => .int
  | 2 => .int
  | 3 => .int
  | _ => .int
abbrev wsX00 : List Cond := u_ws RX0 TX0 5
theorem nmX0 : ∀ a, a < 5 → ∀ b, b < 5 → a ≠ b → (TX0 a).2.1 ≠ (TX0 b).2.1 := by decide +kernel
theorem tyX0_ok : ∀ k, k < 5 → parseFieldDescriptor (TX0 k).2.2.1 = some (tyX0 k) := by decide +kernel
abbrev cX0_init : ByteArray := prog_2_method_1_code
def yX0_init : MethodName := ⟨RX0, "<init>", "()V"⟩
abbrev cX0_becomeIdle : ByteArray := prog_2_method_2_code
def yX0_becomeIdle : MethodName := ⟨RX0, "becomeIdle", "()V"⟩
abbrev cX0_becomeAsking : ByteArray := prog_2_method_3_code
def yX0_becomeAsking : MethodName := ⟨RX0, "becomeAsking", "(I)V"⟩
abbrev cX0_isAsking : ByteArray := prog_2_method_4_code
def yX0_isAsking : MethodName := ⟨RX0, "isAsking", "(I)Z"⟩
abbrev cX0_gainVote : ByteArray := prog_2_method_5_code
def yX0_gainVote : MethodName := ⟨RX0, "gainVote", "(I)V"⟩
abbrev cX0_loseVote : ByteArray := prog_2_method_6_code
def yX0_loseVote : MethodName := ⟨RX0, "loseVote", "(I)V"⟩
abbrev cX0_forgetSets : ByteArray := prog_2_method_7_code
def yX0_forgetSets : MethodName := ⟨RX0, "forgetSets", "()V"⟩
def RX1 : String := "QuorumLock$Row"
def TX1 : u_T := fun k => match k with
  | 0 => ("QuorumLock$Row", "waitingNodes", "[I", true)
  | 1 => ("QuorumLock$Row", "waitingTimes", "[I", true)
  | _ => ("QuorumLock$Row", "length", "I", false)
def tyX1 : Nat → FieldType := fun k => match k with
  | 0 => .array .int
  | 1 => .array .int
  | _ => .int
abbrev wsX10 : List Cond := u_ws RX1 TX1 3
theorem nmX1 : ∀ a, a < 3 → ∀ b, b < 3 → a ≠ b → (TX1 a).2.1 ≠ (TX1 b).2.1 := by decide +kernel
theorem tyX1_ok : ∀ k, k < 3 → parseFieldDescriptor (TX1 k).2.2.1 = some (tyX1 k) := by decide +kernel
abbrev cX1_init : ByteArray := prog_3_method_1_code
def yX1_init : MethodName := ⟨RX1, "<init>", "(I)V"⟩
abbrev cX1_nodeAt : ByteArray := prog_3_method_2_code
def yX1_nodeAt : MethodName := ⟨RX1, "nodeAt", "(I)I"⟩
abbrev cX1_timeAt : ByteArray := prog_3_method_3_code
def yX1_timeAt : MethodName := ⟨RX1, "timeAt", "(I)I"⟩
abbrev cX1_insert : ByteArray := prog_3_method_4_code
def yX1_insert : MethodName := ⟨RX1, "insert", "(II)I"⟩
abbrev cX1_removeFirst : ByteArray := prog_3_method_5_code
def yX1_removeFirst : MethodName := ⟨RX1, "removeFirst", "()V"⟩
def RX2 : String := "QuorumLock$Voter"
def TX2 : u_T := fun k => match k with
  | 0 => ("QuorumLock$Voter", "row", "LQuorumLock$Row;", true)
  | 1 => ("QuorumLock$Voter", "lentTo", "I", false)
  | 2 => ("QuorumLock$Voter", "lentTime", "I", false)
  | _ => ("QuorumLock$Voter", "inquired", "Z", false)
def tyX2 : Nat → FieldType := fun k => match k with
  | 0 => .object "QuorumLock$Row"
  | 1 => .int
  | 2 => .int
  | _ => .boolean
abbrev wsX20 : List Cond := u_ws RX2 TX2 4
theorem nmX2 : ∀ a, a < 4 → ∀ b, b < 4 → a ≠ b → (TX2 a).2.1 ≠ (TX2 b).2.1 := by decide +kernel
theorem tyX2_ok : ∀ k, k < 4 → parseFieldDescriptor (TX2 k).2.2.1 = some (tyX2 k) := by decide +kernel
abbrev cX2_init : ByteArray := prog_4_method_1_code
def yX2_init : MethodName := ⟨RX2, "<init>", "(I)V"⟩
abbrev cX2_forgetAll : ByteArray := prog_4_method_2_code
def yX2_forgetAll : MethodName := ⟨RX2, "forgetAll", "()V"⟩
abbrev cX2_takeHome : ByteArray := prog_4_method_3_code
def yX2_takeHome : MethodName := ⟨RX2, "takeHome", "()V"⟩
abbrev cX2_lendTo : ByteArray := prog_4_method_4_code
def yX2_lendTo : MethodName := ⟨RX2, "lendTo", "(II)V"⟩
abbrev cX2_isPressed : ByteArray := prog_4_method_5_code
def yX2_isPressed : MethodName := ⟨RX2, "isPressed", "()Z"⟩
def RX3 : String := "QuorumLock$Wires"
def TX3 : u_T := fun k => match k with
  | 0 => ("QuorumLock$Wires", "ends", "I", true)
  | 1 => ("QuorumLock$Wires", "parts", "[I", true)
  | 2 => ("QuorumLock$Wires", "oldest", "[I", true)
  | 3 => ("QuorumLock$Wires", "lying", "[I", true)
  | _ => ("QuorumLock$Wires", "lyingFrom", "[I", true)
def tyX3 : Nat → FieldType := fun k => match k with
  | 0 => .int
  | 1 => .array .int
  | 2 => .array .int
  | 3 => .array .int
  | _ => .array .int
abbrev wsX30 : List Cond := u_ws RX3 TX3 5
theorem nmX3 : ∀ a, a < 5 → ∀ b, b < 5 → a ≠ b → (TX3 a).2.1 ≠ (TX3 b).2.1 := by decide +kernel
theorem tyX3_ok : ∀ k, k < 5 → parseFieldDescriptor (TX3 k).2.2.1 = some (tyX3 k) := by decide +kernel
abbrev cX3_init : ByteArray := prog_5_method_1_code
def yX3_init : MethodName := ⟨RX3, "<init>", "(I)V"⟩
abbrev cX3_emptyAll : ByteArray := prog_5_method_2_code
def yX3_emptyAll : MethodName := ⟨RX3, "emptyAll", "()V"⟩
abbrev cX3_count : ByteArray := prog_5_method_3_code
def yX3_count : MethodName := ⟨RX3, "count", "(II)I"⟩
abbrev cX3_part : ByteArray := prog_5_method_4_code
def yX3_part : MethodName := ⟨RX3, "part", "(IIII)I"⟩
abbrev cX3_add : ByteArray := prog_5_method_5_code
def yX3_add : MethodName := ⟨RX3, "add", "(IIIII)V"⟩
abbrev cX3_dropOldest : ByteArray := prog_5_method_6_code
def yX3_dropOldest : MethodName := ⟨RX3, "dropOldest", "(II)V"⟩
abbrev cX3_leastFrom : ByteArray := prog_5_method_7_code
def yX3_leastFrom : MethodName := ⟨RX3, "leastFrom", "()I"⟩
abbrev cX3_leastTo : ByteArray := prog_5_method_8_code
def yX3_leastTo : MethodName := ⟨RX3, "leastTo", "(I)I"⟩
abbrev cX3_wireOf : ByteArray := prog_5_method_9_code
def yX3_wireOf : MethodName := ⟨RX3, "wireOf", "(II)I"⟩
abbrev cX3_slotOf : ByteArray := prog_5_method_10_code
def yX3_slotOf : MethodName := ⟨RX3, "slotOf", "(II)I"⟩
def RX4 : String := "QuorumLock"
def TX4 : u_T := fun k => match k with
  | 0 => ("QuorumLock", "nodes", "I", true)
  | 1 => ("QuorumLock", "quorums", "[I", true)
  | 2 => ("QuorumLock", "clocks", "[I", true)
  | 3 => ("QuorumLock", "askers", "[LQuorumLock$Asker;", true)
  | 4 => ("QuorumLock", "voters", "[LQuorumLock$Voter;", true)
  | 5 => ("QuorumLock", "wires", "LQuorumLock$Wires;", true)
  | _ => ("QuorumLock", "entries", "I", false)
def tyX4 : Nat → FieldType := fun k => match k with
  | 0 => .int
  | 1 => .array .int
  | 2 => .array .int
  | 3 => .array (.object "QuorumLock$Asker")
  | 4 => .array (.object "QuorumLock$Voter")
  | 5 => .object "QuorumLock$Wires"
  | _ => .int
abbrev wsX40 : List Cond := u_ws RX4 TX4 7
theorem nmX4 : ∀ a, a < 7 → ∀ b, b < 7 → a ≠ b → (TX4 a).2.1 ≠ (TX4 b).2.1 := by decide +kernel
theorem tyX4_ok : ∀ k, k < 7 → parseFieldDescriptor (TX4 k).2.2.1 = some (tyX4 k) := by decide +kernel
abbrev cX4_init : ByteArray := prog_1_method_1_code
def yX4_init : MethodName := ⟨RX4, "<init>", "(I)V"⟩
abbrev cX4_init_ : ByteArray := prog_1_method_2_code
def yX4_init_ : MethodName := ⟨RX4, "init", "()V"⟩
abbrev cX4_request : ByteArray := prog_1_method_3_code
def yX4_request : MethodName := ⟨RX4, "request", "(I)I"⟩
abbrev cX4_deliver : ByteArray := prog_1_method_4_code
def yX4_deliver : MethodName := ⟨RX4, "deliver", "(II)I"⟩
abbrev cX4_enter : ByteArray := prog_1_method_5_code
def yX4_enter : MethodName := ⟨RX4, "enter", "(I)Z"⟩
abbrev cX4_release : ByteArray := prog_1_method_6_code
def yX4_release : MethodName := ⟨RX4, "release", "(I)I"⟩
abbrev cX4_holder : ByteArray := prog_1_method_7_code
def yX4_holder : MethodName := ⟨RX4, "holder", "()I"⟩
abbrev cX4_votesOf : ByteArray := prog_1_method_8_code
def yX4_votesOf : MethodName := ⟨RX4, "votesOf", "(I)I"⟩
abbrev cX4_lockedFor : ByteArray := prog_1_method_9_code
def yX4_lockedFor : MethodName := ⟨RX4, "lockedFor", "(I)I"⟩
abbrev cX4_settle : ByteArray := prog_1_method_10_code
def yX4_settle : MethodName := ⟨RX4, "settle", "(I)I"⟩
abbrev cX4_waiting : ByteArray := prog_1_method_11_code
def yX4_waiting : MethodName := ⟨RX4, "waiting", "(II)I"⟩
abbrev cX4_look : ByteArray := prog_1_method_12_code
def yX4_look : MethodName := ⟨RX4, "look", "(IIII)I"⟩
abbrev cX4_told : ByteArray := prog_1_method_13_code
def yX4_told : MethodName := ⟨RX4, "told", "(II)I"⟩
abbrev cX4_waits : ByteArray := prog_1_method_14_code
def yX4_waits : MethodName := ⟨RX4, "waits", "(II)I"⟩
abbrev cX4_entered : ByteArray := prog_1_method_15_code
def yX4_entered : MethodName := ⟨RX4, "entered", "()I"⟩
abbrev cX4_quorumOf : ByteArray := prog_1_method_16_code
def yX4_quorumOf : MethodName := ⟨RX4, "quorumOf", "(II)I"⟩
abbrev cX4_isBefore : ByteArray := prog_1_method_17_code
def yX4_isBefore : MethodName := ⟨RX4, "isBefore", "(IIII)Z"⟩
abbrev cX4_has : ByteArray := prog_1_method_18_code
def yX4_has : MethodName := ⟨RX4, "has", "(II)Z"⟩
abbrev cX4_isNode : ByteArray := prog_1_method_19_code
def yX4_isNode : MethodName := ⟨RX4, "isNode", "(I)Z"⟩
abbrev cX4_isWire : ByteArray := prog_1_method_20_code
def yX4_isWire : MethodName := ⟨RX4, "isWire", "(II)Z"⟩
abbrev cX4_send : ByteArray := prog_1_method_21_code
def yX4_send : MethodName := ⟨RX4, "send", "(IIII)V"⟩
abbrev cX4_sendToQuorum : ByteArray := prog_1_method_22_code
def yX4_sendToQuorum : MethodName := ⟨RX4, "sendToQuorum", "(III)V"⟩
abbrev cX4_deliverOldest : ByteArray := prog_1_method_23_code
def yX4_deliverOldest : MethodName := ⟨RX4, "deliverOldest", "(II)I"⟩
abbrev cX4_hearLocked : ByteArray := prog_1_method_24_code
def yX4_hearLocked : MethodName := ⟨RX4, "hearLocked", "(III)V"⟩
abbrev cX4_hearFailed : ByteArray := prog_1_method_25_code
def yX4_hearFailed : MethodName := ⟨RX4, "hearFailed", "(III)V"⟩
abbrev cX4_hearInquire : ByteArray := prog_1_method_26_code
def yX4_hearInquire : MethodName := ⟨RX4, "hearInquire", "(III)V"⟩
abbrev cX4_giveUp : ByteArray := prog_1_method_27_code
def yX4_giveUp : MethodName := ⟨RX4, "giveUp", "(II)V"⟩
abbrev cX4_weighRequest : ByteArray := prog_1_method_28_code
def yX4_weighRequest : MethodName := ⟨RX4, "weighRequest", "(III)V"⟩
abbrev cX4_inquireOnce : ByteArray := prog_1_method_29_code
def yX4_inquireOnce : MethodName := ⟨RX4, "inquireOnce", "(I)V"⟩
abbrev cX4_takeVoteBack : ByteArray := prog_1_method_30_code
def yX4_takeVoteBack : MethodName := ⟨RX4, "takeVoteBack", "(IIIZ)V"⟩
abbrev cX4_lend : ByteArray := prog_1_method_31_code
def yX4_lend : MethodName := ⟨RX4, "lend", "(III)V"⟩
def RX5 : String := "QuorumLockModel"
def TX5 : u_T := fun k => match k with
  | 0 => ("QuorumLockModel", "k", "I", true)
  | 1 => ("QuorumLockModel", "n", "I", true)
  | 2 => ("QuorumLockModel", "clock", "[I", true)
  | 3 => ("QuorumLockModel", "state", "[I", true)
  | 4 => ("QuorumLockModel", "time", "[I", true)
  | 5 => ("QuorumLockModel", "votes", "[I", true)
  | 6 => ("QuorumLockModel", "failures", "[I", true)
  | 7 => ("QuorumLockModel", "inquiries", "[I", true)
  | 8 => ("QuorumLockModel", "lent", "[I", true)
  | 9 => ("QuorumLockModel", "lentTime", "[I", true)
  | 10 => ("QuorumLockModel", "inquired", "[Z", true)
  | 11 => ("QuorumLockModel", "rows", "[I", true)
  | 12 => ("QuorumLockModel", "rowNode", "[I", true)
  | 13 => ("QuorumLockModel", "rowTime", "[I", true)
  | 14 => ("QuorumLockModel", "lying", "[I", true)
  | 15 => ("QuorumLockModel", "kinds", "[I", true)
  | 16 => ("QuorumLockModel", "times", "[I", true)
  | 17 => ("QuorumLockModel", "clocks", "[I", true)
  | _ => ("QuorumLockModel", "entered", "I", false)
def tyX5 : Nat → FieldType := fun k => match k with
  | 0 => .int
  | 1 => .int
  | 2 => .array .int
  | 3 => .array .int
  | 4 => .array .int
  | 5 => .array .int
  | 6 => .array .int
  | 7 => .array .int
  | 8 => .array .int
  | 9 => .array .int
  | 10 => .array .boolean
  | 11 => .array .int
  | 12 => .array .int
  | 13 => .array .int
  | 14 => .array .int
  | 15 => .array .int
  | 16 => .array .int
  | 17 => .array .int
  | _ => .int
abbrev wsX50 : List Cond := u_ws RX5 TX5 19
theorem nmX5 : ∀ a, a < 19 → ∀ b, b < 19 → a ≠ b → (TX5 a).2.1 ≠ (TX5 b).2.1 := by decide +kernel
theorem tyX5_ok : ∀ k, k < 19 → parseFieldDescriptor (TX5 k).2.2.1 = some (tyX5 k) := by decide +kernel
abbrev cX5_init : ByteArray := prog_7_method_1_code
def yX5_init : MethodName := ⟨RX5, "<init>", "(I)V"⟩
abbrev cX5_init_ : ByteArray := prog_7_method_2_code
def yX5_init_ : MethodName := ⟨RX5, "init", "()V"⟩
abbrev cX5_isNode : ByteArray := prog_7_method_3_code
def yX5_isNode : MethodName := ⟨RX5, "isNode", "(I)Z"⟩
abbrev cX5_quorum : ByteArray := prog_7_method_4_code
def yX5_quorum : MethodName := ⟨RX5, "quorum", "(I)I"⟩
abbrev cX5_send : ByteArray := prog_7_method_5_code
def yX5_send : MethodName := ⟨RX5, "send", "(IIII)V"⟩
abbrev cX5_sendAll : ByteArray := prog_7_method_6_code
def yX5_sendAll : MethodName := ⟨RX5, "sendAll", "(III)V"⟩
abbrev cX5_empty : ByteArray := prog_7_method_7_code
def yX5_empty : MethodName := ⟨RX5, "empty", "(I)V"⟩
abbrev cX5_request : ByteArray := prog_7_method_8_code
def yX5_request : MethodName := ⟨RX5, "request", "(I)I"⟩
abbrev cX5_enter : ByteArray := prog_7_method_9_code
def yX5_enter : MethodName := ⟨RX5, "enter", "(I)Z"⟩
abbrev cX5_release : ByteArray := prog_7_method_10_code
def yX5_release : MethodName := ⟨RX5, "release", "(I)I"⟩
abbrev cX5_giveUp : ByteArray := prog_7_method_11_code
def yX5_giveUp : MethodName := ⟨RX5, "giveUp", "(II)V"⟩
abbrev cX5_answer : ByteArray := prog_7_method_12_code
def yX5_answer : MethodName := ⟨RX5, "answer", "(IIII)V"⟩
abbrev cX5_isBefore : ByteArray := prog_7_method_13_code
def yX5_isBefore : MethodName := ⟨RX5, "isBefore", "(IIII)Z"⟩
abbrev cX5_line : ByteArray := prog_7_method_14_code
def yX5_line : MethodName := ⟨RX5, "line", "(III)I"⟩
abbrev cX5_lend : ByteArray := prog_7_method_15_code
def yX5_lend : MethodName := ⟨RX5, "lend", "(III)V"⟩
abbrev cX5_asked : ByteArray := prog_7_method_16_code
def yX5_asked : MethodName := ⟨RX5, "asked", "(III)V"⟩
abbrev cX5_home : ByteArray := prog_7_method_17_code
def yX5_home : MethodName := ⟨RX5, "home", "(IIIZ)V"⟩
abbrev cX5_deliver : ByteArray := prog_7_method_18_code
def yX5_deliver : MethodName := ⟨RX5, "deliver", "(II)I"⟩
abbrev cX5_settle : ByteArray := prog_7_method_19_code
def yX5_settle : MethodName := ⟨RX5, "settle", "(I)I"⟩
abbrev cX5_holder : ByteArray := prog_7_method_20_code
def yX5_holder : MethodName := ⟨RX5, "holder", "()I"⟩
abbrev cX5_count : ByteArray := prog_7_method_21_code
def yX5_count : MethodName := ⟨RX5, "count", "(I)I"⟩
abbrev cX5_votesOf : ByteArray := prog_7_method_22_code
def yX5_votesOf : MethodName := ⟨RX5, "votesOf", "(I)I"⟩
abbrev cX5_lockedFor : ByteArray := prog_7_method_23_code
def yX5_lockedFor : MethodName := ⟨RX5, "lockedFor", "(I)I"⟩
abbrev cX5_waiting : ByteArray := prog_7_method_24_code
def yX5_waiting : MethodName := ⟨RX5, "waiting", "(II)I"⟩
abbrev cX5_look : ByteArray := prog_7_method_25_code
def yX5_look : MethodName := ⟨RX5, "look", "(IIII)I"⟩
abbrev cX5_told : ByteArray := prog_7_method_26_code
def yX5_told : MethodName := ⟨RX5, "told", "(II)I"⟩
abbrev cX5_waits : ByteArray := prog_7_method_27_code
def yX5_waits : MethodName := ⟨RX5, "waits", "(II)I"⟩
abbrev cX5_entered : ByteArray := prog_7_method_28_code
def yX5_entered : MethodName := ⟨RX5, "entered", "()I"⟩
def RJ6 : String := "java/lang/Integer"
def TJ6 : u_T := fun k => match k with
  | _ => ("", "", "", false)
def tyJ6 : Nat → FieldType := fun k => match k with
  | _ => .int
abbrev wsJ60 : List Cond := u_ws RJ6 TJ6 0
theorem nmJ6 : ∀ a, a < 0 → ∀ b, b < 0 → a ≠ b → (TJ6 a).2.1 ≠ (TJ6 b).2.1 := by decide +kernel
theorem tyJ6_ok : ∀ k, k < 0 → parseFieldDescriptor (TJ6 k).2.2.1 = some (tyJ6 k) := by decide +kernel
abbrev cJ6_bitCount_0f7a4 : ByteArray := prog_8_method_49_code
def yJ6_bitCount_0f7a4 : MethodName := ⟨RJ6, "bitCount", "(I)I"⟩
def RJ9 : String := "java/lang/Math"
def TJ9 : u_T := fun k => match k with
  | _ => ("", "", "", false)
def tyJ9 : Nat → FieldType := fun k => match k with
  | _ => .int
abbrev wsJ90 : List Cond := u_ws RJ9 TJ9 0
theorem nmJ9 : ∀ a, a < 0 → ∀ b, b < 0 → a ≠ b → (TJ9 a).2.1 ≠ (TJ9 b).2.1 := by decide +kernel
theorem tyJ9_ok : ∀ k, k < 0 → parseFieldDescriptor (TJ9 k).2.2.1 = some (tyJ9 k) := by decide +kernel
abbrev cJ9_max_7cf53 : ByteArray := prog_9_method_65_code
def yJ9_max_7cf53 : MethodName := ⟨RJ9, "max", "(II)I"⟩
abbrev cJ9_min_7cf53 : ByteArray := prog_9_method_69_code
def yJ9_min_7cf53 : MethodName := ⟨RJ9, "min", "(II)I"⟩
def RL : String := "QuorumLockLaw"
abbrev cL_cell : ByteArray := method_2_code
def yL_cell : MethodName := ⟨RL, "cell", "([II)I"⟩
abbrev cL_law : ByteArray := code
def yL_law : MethodName := ⟨RL, "law", "([I)Z"⟩
def wsX0_init : List Cond := .code yX0_init cX0_init 1 none :: ([.methodLink RX0 3 objectInit, .instanceMethod objectInit, .code objectInit ⟨#[0xb1]⟩ 1 none])
def wsX0_forgetSets : List Cond := .code yX0_forgetSets cX0_forgetSets 1 none :: ([.fieldLink RX0 21 "QuorumLock$Asker" "votes" "I", .fieldLink RX0 24 "QuorumLock$Asker" "failures" "I", .fieldLink RX0 27 "QuorumLock$Asker" "inquiries" "I"] ++ wsX00)
def wsX0_becomeIdle : List Cond := .code yX0_becomeIdle cX0_becomeIdle 1 none :: ([.fieldLink RX0 9 "QuorumLock$Asker" "state" "I", .fieldLink RX0 15 "QuorumLock$Asker" "time" "I", .methodLink RX0 18 yX0_forgetSets, .instanceMethod yX0_forgetSets, .selects RX0 yX0_forgetSets yX0_forgetSets, .initialized RX0, .code yX0_forgetSets cX0_forgetSets 1 none, .fieldLink RX0 21 "QuorumLock$Asker" "votes" "I", .fieldLink RX0 24 "QuorumLock$Asker" "failures" "I", .fieldLink RX0 27 "QuorumLock$Asker" "inquiries" "I"] ++ wsX00)
def wsX0_becomeAsking : List Cond := .code yX0_becomeAsking cX0_becomeAsking 2 none :: ([.fieldLink RX0 9 "QuorumLock$Asker" "state" "I", .fieldLink RX0 15 "QuorumLock$Asker" "time" "I", .methodLink RX0 18 yX0_forgetSets, .instanceMethod yX0_forgetSets, .selects RX0 yX0_forgetSets yX0_forgetSets, .initialized RX0, .code yX0_forgetSets cX0_forgetSets 1 none, .fieldLink RX0 21 "QuorumLock$Asker" "votes" "I", .fieldLink RX0 24 "QuorumLock$Asker" "failures" "I", .fieldLink RX0 27 "QuorumLock$Asker" "inquiries" "I"] ++ wsX00)
def wsX0_isAsking : List Cond := .code yX0_isAsking cX0_isAsking 2 (some .boolean) :: ([.fieldLink RX0 9 "QuorumLock$Asker" "state" "I", .fieldLink RX0 15 "QuorumLock$Asker" "time" "I"] ++ wsX00)
def wsX0_gainVote : List Cond := .code yX0_gainVote cX0_gainVote 2 none :: ([.fieldLink RX0 21 "QuorumLock$Asker" "votes" "I", .fieldLink RX0 24 "QuorumLock$Asker" "failures" "I"] ++ wsX00)
def wsX0_loseVote : List Cond := .code yX0_loseVote cX0_loseVote 2 none :: ([.fieldLink RX0 21 "QuorumLock$Asker" "votes" "I", .fieldLink RX0 27 "QuorumLock$Asker" "inquiries" "I", .fieldLink RX0 24 "QuorumLock$Asker" "failures" "I"] ++ wsX00)
def wsX1_init : List Cond := .code yX1_init cX1_init 2 none :: ([.methodLink RX1 3 objectInit, .instanceMethod objectInit, .code objectInit ⟨#[0xb1]⟩ 1 none, .arrayClass .int, .fieldLink RX1 9 "QuorumLock$Row" "waitingNodes" "[I", .fieldLink RX1 15 "QuorumLock$Row" "waitingTimes" "[I"] ++ wsX10)
def wsX1_nodeAt : List Cond := .code yX1_nodeAt cX1_nodeAt 2 (some .int) :: ([.fieldLink RX1 18 "QuorumLock$Row" "length" "I", .fieldLink RX1 9 "QuorumLock$Row" "waitingNodes" "[I"] ++ wsX10)
def wsX1_timeAt : List Cond := .code yX1_timeAt cX1_timeAt 2 (some .int) :: ([.fieldLink RX1 18 "QuorumLock$Row" "length" "I", .fieldLink RX1 15 "QuorumLock$Row" "waitingTimes" "[I"] ++ wsX10)
def wsX4_isBefore : List Cond := .code yX4_isBefore cX4_isBefore 4 (some .boolean) :: ([])
def wsX1_insert : List Cond := .code yX1_insert cX1_insert 4 (some .int) :: ([.fieldLink RX1 18 "QuorumLock$Row" "length" "I", .fieldLink RX1 9 "QuorumLock$Row" "waitingNodes" "[I", .fieldLink RX1 15 "QuorumLock$Row" "waitingTimes" "[I", .static yX4_isBefore, .initialized RX4, .code yX4_isBefore cX4_isBefore 4 (some .boolean)] ++ wsX10)
def wsX1_removeFirst : List Cond := .code yX1_removeFirst cX1_removeFirst 2 none :: ([.fieldLink RX1 18 "QuorumLock$Row" "length" "I", .fieldLink RX1 9 "QuorumLock$Row" "waitingNodes" "[I", .fieldLink RX1 15 "QuorumLock$Row" "waitingTimes" "[I", .methodLink RX1 26 Lib.Math.max.name, .static Lib.Math.max.name, .initialized "java/lang/Math", .code Lib.Math.max.name Lib.Math.max.code 2 (some .int)] ++ wsX10)
def wsX2_init : List Cond := .code yX2_init cX2_init 2 none :: ([.methodLink RX2 3 objectInit, .instanceMethod objectInit, .code objectInit ⟨#[0xb1]⟩ 1 none, .classLink RX2 9 RX1, .instantiable RX1 3, .initialized RX1, .fieldLink RX2 14 "QuorumLock$Voter" "row" "LQuorumLock$Row;", .methodLink RX2 11 yX1_init, .instanceMethod yX1_init, .code yX1_init cX1_init 2 none, .methodLink RX1 3 objectInit, .arrayClass .int, .fieldLink RX1 9 "QuorumLock$Row" "waitingNodes" "[I", .fieldLink RX1 15 "QuorumLock$Row" "waitingTimes" "[I"] ++ wsX10 ++ wsX20)
def wsX2_takeHome : List Cond := .code yX2_takeHome cX2_takeHome 1 none :: ([.fieldLink RX2 27 "QuorumLock$Voter" "lentTo" "I", .fieldLink RX2 30 "QuorumLock$Voter" "lentTime" "I", .fieldLink RX2 33 "QuorumLock$Voter" "inquired" "Z"] ++ wsX20)
def wsX2_forgetAll : List Cond := .code yX2_forgetAll cX2_forgetAll 1 none :: ([.fieldLink RX2 14 "QuorumLock$Voter" "row" "LQuorumLock$Row;", .fieldLink RX2 23 "QuorumLock$Row" "length" "I", .methodLink RX2 20 yX2_takeHome, .instanceMethod yX2_takeHome, .selects RX2 yX2_takeHome yX2_takeHome, .initialized RX2, .code yX2_takeHome cX2_takeHome 1 none, .fieldLink RX2 27 "QuorumLock$Voter" "lentTo" "I", .fieldLink RX2 30 "QuorumLock$Voter" "lentTime" "I", .fieldLink RX2 33 "QuorumLock$Voter" "inquired" "Z"] ++ wsX20 ++ wsX10)
def wsX2_lendTo : List Cond := .code yX2_lendTo cX2_lendTo 3 none :: ([.fieldLink RX2 27 "QuorumLock$Voter" "lentTo" "I", .fieldLink RX2 30 "QuorumLock$Voter" "lentTime" "I", .fieldLink RX2 33 "QuorumLock$Voter" "inquired" "Z"] ++ wsX20)
def wsX2_isPressed : List Cond := .code yX2_isPressed cX2_isPressed 1 (some .boolean) :: ([.fieldLink RX2 14 "QuorumLock$Voter" "row" "LQuorumLock$Row;", .fieldLink RX2 23 "QuorumLock$Row" "length" "I", .fieldLink RX2 27 "QuorumLock$Voter" "lentTo" "I", .fieldLink RX2 30 "QuorumLock$Voter" "lentTime" "I", .methodLink RX2 37 yX1_nodeAt, .instanceMethod yX1_nodeAt, .selects RX1 yX1_nodeAt yX1_nodeAt, .initialized RX1, .code yX1_nodeAt cX1_nodeAt 2 (some .int), .fieldLink RX1 18 "QuorumLock$Row" "length" "I", .fieldLink RX1 9 "QuorumLock$Row" "waitingNodes" "[I", .methodLink RX2 41 yX1_timeAt, .instanceMethod yX1_timeAt, .selects RX1 yX1_timeAt yX1_timeAt, .code yX1_timeAt cX1_timeAt 2 (some .int), .fieldLink RX1 15 "QuorumLock$Row" "waitingTimes" "[I", .static yX4_isBefore, .initialized RX4, .code yX4_isBefore cX4_isBefore 4 (some .boolean)] ++ wsX20 ++ wsX10)
def wsX3_init : List Cond := .code yX3_init cX3_init 2 none :: ([.methodLink RX3 3 objectInit, .instanceMethod objectInit, .code objectInit ⟨#[0xb1]⟩ 1 none, .fieldLink RX3 9 "QuorumLock$Wires" "ends" "I", .arrayClass .int, .fieldLink RX3 15 "QuorumLock$Wires" "parts" "[I", .fieldLink RX3 19 "QuorumLock$Wires" "oldest" "[I", .fieldLink RX3 22 "QuorumLock$Wires" "lying" "[I", .fieldLink RX3 25 "QuorumLock$Wires" "lyingFrom" "[I"] ++ wsX30)
def wsX3_emptyAll : List Cond := .code yX3_emptyAll cX3_emptyAll 2 none :: ([.fieldLink RX3 22 "QuorumLock$Wires" "lying" "[I", .fieldLink RX3 19 "QuorumLock$Wires" "oldest" "[I", .fieldLink RX3 9 "QuorumLock$Wires" "ends" "I", .fieldLink RX3 25 "QuorumLock$Wires" "lyingFrom" "[I"] ++ wsX30)
def wsX3_wireOf : List Cond := .code yX3_wireOf cX3_wireOf 3 (some .int) :: ([.fieldLink RX3 9 "QuorumLock$Wires" "ends" "I"] ++ wsX30)
def wsX3_count : List Cond := .code yX3_count cX3_count 3 (some .int) :: ([.fieldLink RX3 22 "QuorumLock$Wires" "lying" "[I", .methodLink RX3 28 yX3_wireOf, .instanceMethod yX3_wireOf, .selects RX3 yX3_wireOf yX3_wireOf, .initialized RX3, .code yX3_wireOf cX3_wireOf 3 (some .int), .fieldLink RX3 9 "QuorumLock$Wires" "ends" "I"] ++ wsX30)
def wsX3_slotOf : List Cond := .code yX3_slotOf cX3_slotOf 3 (some .int) :: ([.fieldLink RX3 19 "QuorumLock$Wires" "oldest" "[I"] ++ wsX30)
def wsX3_part : List Cond := .code yX3_part cX3_part 6 (some .int) :: ([.fieldLink RX3 22 "QuorumLock$Wires" "lying" "[I", .fieldLink RX3 15 "QuorumLock$Wires" "parts" "[I", .methodLink RX3 28 yX3_wireOf, .instanceMethod yX3_wireOf, .selects RX3 yX3_wireOf yX3_wireOf, .initialized RX3, .code yX3_wireOf cX3_wireOf 3 (some .int), .fieldLink RX3 9 "QuorumLock$Wires" "ends" "I", .methodLink RX3 32 yX3_slotOf, .instanceMethod yX3_slotOf, .selects RX3 yX3_slotOf yX3_slotOf, .code yX3_slotOf cX3_slotOf 3 (some .int), .fieldLink RX3 19 "QuorumLock$Wires" "oldest" "[I"] ++ wsX30)
def wsX3_add : List Cond := .code yX3_add cX3_add 8 none :: ([.fieldLink RX3 22 "QuorumLock$Wires" "lying" "[I", .fieldLink RX3 15 "QuorumLock$Wires" "parts" "[I", .fieldLink RX3 25 "QuorumLock$Wires" "lyingFrom" "[I", .methodLink RX3 28 yX3_wireOf, .instanceMethod yX3_wireOf, .selects RX3 yX3_wireOf yX3_wireOf, .initialized RX3, .code yX3_wireOf cX3_wireOf 3 (some .int), .fieldLink RX3 9 "QuorumLock$Wires" "ends" "I", .methodLink RX3 32 yX3_slotOf, .instanceMethod yX3_slotOf, .selects RX3 yX3_slotOf yX3_slotOf, .code yX3_slotOf cX3_slotOf 3 (some .int), .fieldLink RX3 19 "QuorumLock$Wires" "oldest" "[I"] ++ wsX30)
def wsX3_dropOldest : List Cond := .code yX3_dropOldest cX3_dropOldest 4 none :: ([.fieldLink RX3 22 "QuorumLock$Wires" "lying" "[I", .fieldLink RX3 19 "QuorumLock$Wires" "oldest" "[I", .fieldLink RX3 25 "QuorumLock$Wires" "lyingFrom" "[I", .methodLink RX3 28 yX3_wireOf, .instanceMethod yX3_wireOf, .selects RX3 yX3_wireOf yX3_wireOf, .initialized RX3, .code yX3_wireOf cX3_wireOf 3 (some .int), .fieldLink RX3 9 "QuorumLock$Wires" "ends" "I"] ++ wsX30)
def wsX3_leastFrom : List Cond := .code yX3_leastFrom cX3_leastFrom 2 (some .int) :: ([.fieldLink RX3 9 "QuorumLock$Wires" "ends" "I", .fieldLink RX3 25 "QuorumLock$Wires" "lyingFrom" "[I"] ++ wsX30)
def wsX3_leastTo : List Cond := .code yX3_leastTo cX3_leastTo 3 (some .int) :: ([.fieldLink RX3 9 "QuorumLock$Wires" "ends" "I", .methodLink RX3 35 yX3_count, .instanceMethod yX3_count, .selects RX3 yX3_count yX3_count, .initialized RX3, .code yX3_count cX3_count 3 (some .int), .fieldLink RX3 22 "QuorumLock$Wires" "lying" "[I", .methodLink RX3 28 yX3_wireOf, .instanceMethod yX3_wireOf, .selects RX3 yX3_wireOf yX3_wireOf, .code yX3_wireOf cX3_wireOf 3 (some .int)] ++ wsX30)
def wsX4_quorumOf : List Cond := .code yX4_quorumOf cX4_quorumOf 4 (some .int) :: ([])
def wsX4_init__r1 : List Cond := [Cond.fieldLink RX4 18 "QuorumLock" "nodes" "I", Cond.fieldLink RX4 26 "QuorumLock" "clocks" "[I", Cond.fieldLink RX4 31 "QuorumLock" "askers" "[LQuorumLock$Asker;", Cond.fieldLink RX4 37 "QuorumLock" "voters" "[LQuorumLock$Voter;", Cond.fieldLink RX4 46 "QuorumLock" "wires" "LQuorumLock$Wires;", Cond.fieldLink RX4 67 "QuorumLock" "entries" "I", Cond.methodLink RX4 58 yX0_becomeIdle, Cond.instanceMethod yX0_becomeIdle, Cond.selects RX0 yX0_becomeIdle yX0_becomeIdle, Cond.initialized RX0, Cond.code yX0_becomeIdle cX0_becomeIdle 1 none, Cond.fieldLink RX0 9 "QuorumLock$Asker" "state" "I", Cond.fieldLink RX0 15 "QuorumLock$Asker" "time" "I", Cond.methodLink RX0 18 yX0_forgetSets, Cond.instanceMethod yX0_forgetSets, Cond.selects RX0 yX0_forgetSets yX0_forgetSets, Cond.code yX0_forgetSets cX0_forgetSets 1 none, Cond.fieldLink RX0 21 "QuorumLock$Asker" "votes" "I", Cond.fieldLink RX0 24 "QuorumLock$Asker" "failures" "I", Cond.fieldLink RX0 27 "QuorumLock$Asker" "inquiries" "I", Cond.methodLink RX4 61 yX2_forgetAll, Cond.instanceMethod yX2_forgetAll, Cond.selects RX2 yX2_forgetAll yX2_forgetAll, Cond.initialized RX2]
def wsX4_init__r2 : List Cond := [Cond.code yX2_forgetAll cX2_forgetAll 1 none, Cond.fieldLink RX2 14 "QuorumLock$Voter" "row" "LQuorumLock$Row;", Cond.fieldLink RX2 23 "QuorumLock$Row" "length" "I", Cond.methodLink RX2 20 yX2_takeHome, Cond.instanceMethod yX2_takeHome, Cond.selects RX2 yX2_takeHome yX2_takeHome, Cond.code yX2_takeHome cX2_takeHome 1 none, Cond.fieldLink RX2 27 "QuorumLock$Voter" "lentTo" "I", Cond.fieldLink RX2 30 "QuorumLock$Voter" "lentTime" "I", Cond.fieldLink RX2 33 "QuorumLock$Voter" "inquired" "Z", Cond.methodLink RX4 64 yX3_emptyAll, Cond.instanceMethod yX3_emptyAll, Cond.selects RX3 yX3_emptyAll yX3_emptyAll, Cond.initialized RX3, Cond.code yX3_emptyAll cX3_emptyAll 2 none, Cond.fieldLink RX3 22 "QuorumLock$Wires" "lying" "[I", Cond.fieldLink RX3 19 "QuorumLock$Wires" "oldest" "[I", Cond.fieldLink RX3 9 "QuorumLock$Wires" "ends" "I", Cond.fieldLink RX3 25 "QuorumLock$Wires" "lyingFrom" "[I"]
def wsX4_init_ : List Cond := .code yX4_init_ cX4_init_ 2 none :: ((wsX4_init__r1 ++ wsX4_init__r2) ++ wsX40 ++ wsX00 ++ wsX20 ++ wsX10 ++ wsX30)
def wsX4_init_r1 : List Cond := [Cond.methodLink RX4 1 objectInit, Cond.instanceMethod objectInit, Cond.code objectInit ⟨#[0xb1]⟩ 1 none, Cond.methodLink RX4 7 Lib.Math.max.name, Cond.static Lib.Math.max.name, Cond.initialized "java/lang/Math", Cond.code Lib.Math.max.name Lib.Math.max.code 2 (some .int), Cond.methodLink RX4 15 Lib.Math.min.name, Cond.static Lib.Math.min.name, Cond.code Lib.Math.min.name Lib.Math.min.code 2 (some .int), Cond.fieldLink RX4 18 "QuorumLock" "nodes" "I", Cond.arrayClass .int, Cond.fieldLink RX4 22 "QuorumLock" "quorums" "[I", Cond.fieldLink RX4 26 "QuorumLock" "clocks" "[I", Cond.classLink RX4 29 RX0, Cond.fieldLink RX4 31 "QuorumLock" "askers" "[LQuorumLock$Asker;", Cond.classLink RX4 35 RX2, Cond.fieldLink RX4 37 "QuorumLock" "voters" "[LQuorumLock$Voter;", Cond.classLink RX4 41 RX3, Cond.instantiable RX3 5, Cond.initialized RX3, Cond.fieldLink RX4 46 "QuorumLock" "wires" "LQuorumLock$Wires;", Cond.instantiable RX0 5, Cond.initialized RX0]
def wsX4_init_r2 : List Cond := [Cond.instantiable RX2 4, Cond.initialized RX2, Cond.methodLink RX4 43 yX3_init, Cond.instanceMethod yX3_init, Cond.code yX3_init cX3_init 2 none, Cond.methodLink RX3 3 objectInit, Cond.fieldLink RX3 9 "QuorumLock$Wires" "ends" "I", Cond.fieldLink RX3 15 "QuorumLock$Wires" "parts" "[I", Cond.fieldLink RX3 19 "QuorumLock$Wires" "oldest" "[I", Cond.fieldLink RX3 22 "QuorumLock$Wires" "lying" "[I", Cond.fieldLink RX3 25 "QuorumLock$Wires" "lyingFrom" "[I", Cond.methodLink RX4 50 yX4_quorumOf, Cond.static yX4_quorumOf, Cond.initialized RX4, Cond.code yX4_quorumOf cX4_quorumOf 4 (some .int), Cond.instanceMethod yX0_init, Cond.code yX0_init cX0_init 1 none, Cond.methodLink RX0 3 objectInit, Cond.methodLink RX4 54 yX2_init, Cond.instanceMethod yX2_init, Cond.code yX2_init cX2_init 2 none, Cond.methodLink RX2 3 objectInit, Cond.classLink RX2 9 RX1, Cond.instantiable RX1 3]
def wsX4_init_r3 : List Cond := [Cond.initialized RX1, Cond.fieldLink RX2 14 "QuorumLock$Voter" "row" "LQuorumLock$Row;", Cond.methodLink RX2 11 yX1_init, Cond.instanceMethod yX1_init, Cond.code yX1_init cX1_init 2 none, Cond.methodLink RX1 3 objectInit, Cond.fieldLink RX1 9 "QuorumLock$Row" "waitingNodes" "[I", Cond.fieldLink RX1 15 "QuorumLock$Row" "waitingTimes" "[I", Cond.methodLink RX4 55 yX4_init_, Cond.instanceMethod yX4_init_, Cond.selects RX4 yX4_init_ yX4_init_, Cond.code yX4_init_ cX4_init_ 2 none, Cond.fieldLink RX4 67 "QuorumLock" "entries" "I", Cond.methodLink RX4 58 yX0_becomeIdle, Cond.instanceMethod yX0_becomeIdle, Cond.selects RX0 yX0_becomeIdle yX0_becomeIdle, Cond.code yX0_becomeIdle cX0_becomeIdle 1 none, Cond.fieldLink RX0 9 "QuorumLock$Asker" "state" "I", Cond.fieldLink RX0 15 "QuorumLock$Asker" "time" "I", Cond.methodLink RX0 18 yX0_forgetSets, Cond.instanceMethod yX0_forgetSets, Cond.selects RX0 yX0_forgetSets yX0_forgetSets, Cond.code yX0_forgetSets cX0_forgetSets 1 none, Cond.fieldLink RX0 21 "QuorumLock$Asker" "votes" "I"]
def wsX4_init_r4 : List Cond := [Cond.fieldLink RX0 24 "QuorumLock$Asker" "failures" "I", Cond.fieldLink RX0 27 "QuorumLock$Asker" "inquiries" "I", Cond.methodLink RX4 61 yX2_forgetAll, Cond.instanceMethod yX2_forgetAll, Cond.selects RX2 yX2_forgetAll yX2_forgetAll, Cond.code yX2_forgetAll cX2_forgetAll 1 none, Cond.fieldLink RX2 23 "QuorumLock$Row" "length" "I", Cond.methodLink RX2 20 yX2_takeHome, Cond.instanceMethod yX2_takeHome, Cond.selects RX2 yX2_takeHome yX2_takeHome, Cond.code yX2_takeHome cX2_takeHome 1 none, Cond.fieldLink RX2 27 "QuorumLock$Voter" "lentTo" "I", Cond.fieldLink RX2 30 "QuorumLock$Voter" "lentTime" "I", Cond.fieldLink RX2 33 "QuorumLock$Voter" "inquired" "Z", Cond.methodLink RX4 64 yX3_emptyAll, Cond.instanceMethod yX3_emptyAll, Cond.selects RX3 yX3_emptyAll yX3_emptyAll, Cond.code yX3_emptyAll cX3_emptyAll 2 none]
def wsX4_init : List Cond := .code yX4_init cX4_init 4 none :: ((wsX4_init_r1 ++ (wsX4_init_r2 ++ (wsX4_init_r3 ++ wsX4_init_r4))) ++ wsX40 ++ wsX30 ++ wsX00 ++ wsX20 ++ wsX10)
def wsX4_isNode : List Cond := .code yX4_isNode cX4_isNode 2 (some .boolean) :: ([.fieldLink RX4 18 "QuorumLock" "nodes" "I"] ++ wsX40)
def wsX4_has : List Cond := .code yX4_has cX4_has 2 (some .boolean) :: ([])
def wsX4_send : List Cond := .code yX4_send cX4_send 5 none :: ([.fieldLink RX4 46 "QuorumLock" "wires" "LQuorumLock$Wires;", .fieldLink RX4 26 "QuorumLock" "clocks" "[I", .methodLink RX4 142 yX3_add, .instanceMethod yX3_add, .selects RX3 yX3_add yX3_add, .initialized RX3, .code yX3_add cX3_add 8 none, .fieldLink RX3 22 "QuorumLock$Wires" "lying" "[I", .fieldLink RX3 15 "QuorumLock$Wires" "parts" "[I", .fieldLink RX3 25 "QuorumLock$Wires" "lyingFrom" "[I", .methodLink RX3 28 yX3_wireOf, .instanceMethod yX3_wireOf, .selects RX3 yX3_wireOf yX3_wireOf, .code yX3_wireOf cX3_wireOf 3 (some .int), .fieldLink RX3 9 "QuorumLock$Wires" "ends" "I", .methodLink RX3 32 yX3_slotOf, .instanceMethod yX3_slotOf, .selects RX3 yX3_slotOf yX3_slotOf, .code yX3_slotOf cX3_slotOf 3 (some .int), .fieldLink RX3 19 "QuorumLock$Wires" "oldest" "[I"] ++ wsX40 ++ wsX30)
def wsX4_sendToQuorum_r1 : List Cond := [Cond.fieldLink RX4 18 "QuorumLock" "nodes" "I", Cond.fieldLink RX4 22 "QuorumLock" "quorums" "[I", Cond.methodLink RX4 146 yX4_has, Cond.static yX4_has, Cond.initialized RX4, Cond.code yX4_has cX4_has 2 (some .boolean), Cond.methodLink RX4 149 yX4_send, Cond.instanceMethod yX4_send, Cond.selects RX4 yX4_send yX4_send, Cond.code yX4_send cX4_send 5 none, Cond.fieldLink RX4 46 "QuorumLock" "wires" "LQuorumLock$Wires;", Cond.fieldLink RX4 26 "QuorumLock" "clocks" "[I", Cond.methodLink RX4 142 yX3_add, Cond.instanceMethod yX3_add, Cond.selects RX3 yX3_add yX3_add, Cond.initialized RX3, Cond.code yX3_add cX3_add 8 none, Cond.fieldLink RX3 22 "QuorumLock$Wires" "lying" "[I", Cond.fieldLink RX3 15 "QuorumLock$Wires" "parts" "[I", Cond.fieldLink RX3 25 "QuorumLock$Wires" "lyingFrom" "[I", Cond.methodLink RX3 28 yX3_wireOf, Cond.instanceMethod yX3_wireOf, Cond.selects RX3 yX3_wireOf yX3_wireOf, Cond.code yX3_wireOf cX3_wireOf 3 (some .int)]
def wsX4_sendToQuorum_r2 : List Cond := [Cond.fieldLink RX3 9 "QuorumLock$Wires" "ends" "I", Cond.methodLink RX3 32 yX3_slotOf, Cond.instanceMethod yX3_slotOf, Cond.selects RX3 yX3_slotOf yX3_slotOf, Cond.code yX3_slotOf cX3_slotOf 3 (some .int), Cond.fieldLink RX3 19 "QuorumLock$Wires" "oldest" "[I"]
def wsX4_sendToQuorum : List Cond := .code yX4_sendToQuorum cX4_sendToQuorum 5 none :: ((wsX4_sendToQuorum_r1 ++ wsX4_sendToQuorum_r2) ++ wsX40 ++ wsX30)
def wsX4_request_r1 : List Cond := [Cond.fieldLink RX4 31 "QuorumLock" "askers" "[LQuorumLock$Asker;", Cond.fieldLink RX4 74 "QuorumLock$Asker" "state" "I", Cond.fieldLink RX4 26 "QuorumLock" "clocks" "[I", Cond.fieldLink RX4 80 "QuorumLock$Asker" "time" "I", Cond.methodLink RX4 70 yX4_isNode, Cond.instanceMethod yX4_isNode, Cond.selects RX4 yX4_isNode yX4_isNode, Cond.initialized RX4, Cond.code yX4_isNode cX4_isNode 2 (some .boolean), Cond.fieldLink RX4 18 "QuorumLock" "nodes" "I", Cond.methodLink RX4 77 yX0_becomeAsking, Cond.instanceMethod yX0_becomeAsking, Cond.selects RX0 yX0_becomeAsking yX0_becomeAsking, Cond.initialized RX0, Cond.code yX0_becomeAsking cX0_becomeAsking 2 none, Cond.fieldLink RX0 9 "QuorumLock$Asker" "state" "I", Cond.fieldLink RX0 15 "QuorumLock$Asker" "time" "I", Cond.methodLink RX0 18 yX0_forgetSets, Cond.instanceMethod yX0_forgetSets, Cond.selects RX0 yX0_forgetSets yX0_forgetSets, Cond.code yX0_forgetSets cX0_forgetSets 1 none, Cond.fieldLink RX0 21 "QuorumLock$Asker" "votes" "I", Cond.fieldLink RX0 24 "QuorumLock$Asker" "failures" "I", Cond.fieldLink RX0 27 "QuorumLock$Asker" "inquiries" "I"]
def wsX4_request_r2 : List Cond := [Cond.methodLink RX4 83 yX4_sendToQuorum, Cond.instanceMethod yX4_sendToQuorum, Cond.selects RX4 yX4_sendToQuorum yX4_sendToQuorum, Cond.code yX4_sendToQuorum cX4_sendToQuorum 5 none, Cond.fieldLink RX4 22 "QuorumLock" "quorums" "[I", Cond.methodLink RX4 146 yX4_has, Cond.static yX4_has, Cond.code yX4_has cX4_has 2 (some .boolean), Cond.methodLink RX4 149 yX4_send, Cond.instanceMethod yX4_send, Cond.selects RX4 yX4_send yX4_send, Cond.code yX4_send cX4_send 5 none, Cond.fieldLink RX4 46 "QuorumLock" "wires" "LQuorumLock$Wires;", Cond.methodLink RX4 142 yX3_add, Cond.instanceMethod yX3_add, Cond.selects RX3 yX3_add yX3_add, Cond.initialized RX3, Cond.code yX3_add cX3_add 8 none, Cond.fieldLink RX3 22 "QuorumLock$Wires" "lying" "[I", Cond.fieldLink RX3 15 "QuorumLock$Wires" "parts" "[I", Cond.fieldLink RX3 25 "QuorumLock$Wires" "lyingFrom" "[I", Cond.methodLink RX3 28 yX3_wireOf, Cond.instanceMethod yX3_wireOf, Cond.selects RX3 yX3_wireOf yX3_wireOf]
def wsX4_request_r3 : List Cond := [Cond.code yX3_wireOf cX3_wireOf 3 (some .int), Cond.fieldLink RX3 9 "QuorumLock$Wires" "ends" "I", Cond.methodLink RX3 32 yX3_slotOf, Cond.instanceMethod yX3_slotOf, Cond.selects RX3 yX3_slotOf yX3_slotOf, Cond.code yX3_slotOf cX3_slotOf 3 (some .int), Cond.fieldLink RX3 19 "QuorumLock$Wires" "oldest" "[I"]
def wsX4_request : List Cond := .code yX4_request cX4_request 3 (some .int) :: ((wsX4_request_r1 ++ (wsX4_request_r2 ++ wsX4_request_r3)) ++ wsX40 ++ wsX00 ++ wsX30)
def wsX4_isWire : List Cond := .code yX4_isWire cX4_isWire 3 (some .boolean) :: ([.methodLink RX4 70 yX4_isNode, .instanceMethod yX4_isNode, .selects RX4 yX4_isNode yX4_isNode, .initialized RX4, .code yX4_isNode cX4_isNode 2 (some .boolean), .fieldLink RX4 18 "QuorumLock" "nodes" "I"] ++ wsX40)
def wsX4_lend_r1 : List Cond := [Cond.fieldLink RX4 37 "QuorumLock" "voters" "[LQuorumLock$Voter;", Cond.methodLink RX4 210 yX2_lendTo, Cond.instanceMethod yX2_lendTo, Cond.selects RX2 yX2_lendTo yX2_lendTo, Cond.initialized RX2, Cond.code yX2_lendTo cX2_lendTo 3 none, Cond.fieldLink RX2 27 "QuorumLock$Voter" "lentTo" "I", Cond.fieldLink RX2 30 "QuorumLock$Voter" "lentTime" "I", Cond.fieldLink RX2 33 "QuorumLock$Voter" "inquired" "Z", Cond.methodLink RX4 149 yX4_send, Cond.instanceMethod yX4_send, Cond.selects RX4 yX4_send yX4_send, Cond.initialized RX4, Cond.code yX4_send cX4_send 5 none, Cond.fieldLink RX4 46 "QuorumLock" "wires" "LQuorumLock$Wires;", Cond.fieldLink RX4 26 "QuorumLock" "clocks" "[I", Cond.methodLink RX4 142 yX3_add, Cond.instanceMethod yX3_add, Cond.selects RX3 yX3_add yX3_add, Cond.initialized RX3, Cond.code yX3_add cX3_add 8 none, Cond.fieldLink RX3 22 "QuorumLock$Wires" "lying" "[I", Cond.fieldLink RX3 15 "QuorumLock$Wires" "parts" "[I", Cond.fieldLink RX3 25 "QuorumLock$Wires" "lyingFrom" "[I"]
def wsX4_lend_r2 : List Cond := [Cond.methodLink RX3 28 yX3_wireOf, Cond.instanceMethod yX3_wireOf, Cond.selects RX3 yX3_wireOf yX3_wireOf, Cond.code yX3_wireOf cX3_wireOf 3 (some .int), Cond.fieldLink RX3 9 "QuorumLock$Wires" "ends" "I", Cond.methodLink RX3 32 yX3_slotOf, Cond.instanceMethod yX3_slotOf, Cond.selects RX3 yX3_slotOf yX3_slotOf, Cond.code yX3_slotOf cX3_slotOf 3 (some .int), Cond.fieldLink RX3 19 "QuorumLock$Wires" "oldest" "[I"]
def wsX4_lend : List Cond := .code yX4_lend cX4_lend 4 none :: ((wsX4_lend_r1 ++ wsX4_lend_r2) ++ wsX40 ++ wsX20 ++ wsX30)
def wsX4_inquireOnce_r1 : List Cond := [Cond.fieldLink RX4 37 "QuorumLock" "voters" "[LQuorumLock$Voter;", Cond.fieldLink RX4 126 "QuorumLock$Voter" "inquired" "Z", Cond.fieldLink RX4 103 "QuorumLock$Voter" "lentTo" "I", Cond.fieldLink RX4 201 "QuorumLock$Voter" "lentTime" "I", Cond.methodLink RX4 149 yX4_send, Cond.instanceMethod yX4_send, Cond.selects RX4 yX4_send yX4_send, Cond.initialized RX4, Cond.code yX4_send cX4_send 5 none, Cond.fieldLink RX4 46 "QuorumLock" "wires" "LQuorumLock$Wires;", Cond.fieldLink RX4 26 "QuorumLock" "clocks" "[I", Cond.methodLink RX4 142 yX3_add, Cond.instanceMethod yX3_add, Cond.selects RX3 yX3_add yX3_add, Cond.initialized RX3, Cond.code yX3_add cX3_add 8 none, Cond.fieldLink RX3 22 "QuorumLock$Wires" "lying" "[I", Cond.fieldLink RX3 15 "QuorumLock$Wires" "parts" "[I", Cond.fieldLink RX3 25 "QuorumLock$Wires" "lyingFrom" "[I", Cond.methodLink RX3 28 yX3_wireOf, Cond.instanceMethod yX3_wireOf, Cond.selects RX3 yX3_wireOf yX3_wireOf, Cond.code yX3_wireOf cX3_wireOf 3 (some .int), Cond.fieldLink RX3 9 "QuorumLock$Wires" "ends" "I"]
def wsX4_inquireOnce_r2 : List Cond := [Cond.methodLink RX3 32 yX3_slotOf, Cond.instanceMethod yX3_slotOf, Cond.selects RX3 yX3_slotOf yX3_slotOf, Cond.code yX3_slotOf cX3_slotOf 3 (some .int), Cond.fieldLink RX3 19 "QuorumLock$Wires" "oldest" "[I"]
def wsX4_inquireOnce : List Cond := .code yX4_inquireOnce cX4_inquireOnce 3 none :: ((wsX4_inquireOnce_r1 ++ wsX4_inquireOnce_r2) ++ wsX40 ++ wsX20 ++ wsX30)
def wsX4_weighRequest_r1 : List Cond := [Cond.fieldLink RX4 37 "QuorumLock" "voters" "[LQuorumLock$Voter;", Cond.fieldLink RX4 103 "QuorumLock$Voter" "lentTo" "I", Cond.fieldLink RX4 130 "QuorumLock$Voter" "row" "LQuorumLock$Row;", Cond.methodLink RX4 185 yX4_lend, Cond.instanceMethod yX4_lend, Cond.selects RX4 yX4_lend yX4_lend, Cond.initialized RX4, Cond.code yX4_lend cX4_lend 4 none, Cond.methodLink RX4 210 yX2_lendTo, Cond.instanceMethod yX2_lendTo, Cond.selects RX2 yX2_lendTo yX2_lendTo, Cond.initialized RX2, Cond.code yX2_lendTo cX2_lendTo 3 none, Cond.fieldLink RX2 27 "QuorumLock$Voter" "lentTo" "I", Cond.fieldLink RX2 30 "QuorumLock$Voter" "lentTime" "I", Cond.fieldLink RX2 33 "QuorumLock$Voter" "inquired" "Z", Cond.methodLink RX4 149 yX4_send, Cond.instanceMethod yX4_send, Cond.selects RX4 yX4_send yX4_send, Cond.code yX4_send cX4_send 5 none, Cond.fieldLink RX4 46 "QuorumLock" "wires" "LQuorumLock$Wires;", Cond.fieldLink RX4 26 "QuorumLock" "clocks" "[I", Cond.methodLink RX4 142 yX3_add, Cond.instanceMethod yX3_add]
def wsX4_weighRequest_r2 : List Cond := [Cond.selects RX3 yX3_add yX3_add, Cond.initialized RX3, Cond.code yX3_add cX3_add 8 none, Cond.fieldLink RX3 22 "QuorumLock$Wires" "lying" "[I", Cond.fieldLink RX3 15 "QuorumLock$Wires" "parts" "[I", Cond.fieldLink RX3 25 "QuorumLock$Wires" "lyingFrom" "[I", Cond.methodLink RX3 28 yX3_wireOf, Cond.instanceMethod yX3_wireOf, Cond.selects RX3 yX3_wireOf yX3_wireOf, Cond.code yX3_wireOf cX3_wireOf 3 (some .int), Cond.fieldLink RX3 9 "QuorumLock$Wires" "ends" "I", Cond.methodLink RX3 32 yX3_slotOf, Cond.instanceMethod yX3_slotOf, Cond.selects RX3 yX3_slotOf yX3_slotOf, Cond.code yX3_slotOf cX3_slotOf 3 (some .int), Cond.fieldLink RX3 19 "QuorumLock$Wires" "oldest" "[I", Cond.methodLink RX4 188 yX2_isPressed, Cond.instanceMethod yX2_isPressed, Cond.selects RX2 yX2_isPressed yX2_isPressed, Cond.code yX2_isPressed cX2_isPressed 1 (some .boolean), Cond.fieldLink RX2 14 "QuorumLock$Voter" "row" "LQuorumLock$Row;", Cond.fieldLink RX2 23 "QuorumLock$Row" "length" "I", Cond.methodLink RX2 37 yX1_nodeAt, Cond.instanceMethod yX1_nodeAt]
def wsX4_weighRequest_r3 : List Cond := [Cond.selects RX1 yX1_nodeAt yX1_nodeAt, Cond.initialized RX1, Cond.code yX1_nodeAt cX1_nodeAt 2 (some .int), Cond.fieldLink RX1 18 "QuorumLock$Row" "length" "I", Cond.fieldLink RX1 9 "QuorumLock$Row" "waitingNodes" "[I", Cond.methodLink RX2 41 yX1_timeAt, Cond.instanceMethod yX1_timeAt, Cond.selects RX1 yX1_timeAt yX1_timeAt, Cond.code yX1_timeAt cX1_timeAt 2 (some .int), Cond.fieldLink RX1 15 "QuorumLock$Row" "waitingTimes" "[I", Cond.static yX4_isBefore, Cond.code yX4_isBefore cX4_isBefore 4 (some .boolean), Cond.methodLink RX4 192 yX1_insert, Cond.instanceMethod yX1_insert, Cond.selects RX1 yX1_insert yX1_insert, Cond.code yX1_insert cX1_insert 4 (some .int), Cond.methodLink RX4 139 yX1_nodeAt, Cond.methodLink RX4 195 yX1_timeAt, Cond.methodLink RX4 198 yX4_inquireOnce, Cond.instanceMethod yX4_inquireOnce, Cond.selects RX4 yX4_inquireOnce yX4_inquireOnce, Cond.code yX4_inquireOnce cX4_inquireOnce 3 none, Cond.fieldLink RX4 126 "QuorumLock$Voter" "inquired" "Z", Cond.fieldLink RX4 201 "QuorumLock$Voter" "lentTime" "I"]
def wsX4_weighRequest : List Cond := .code yX4_weighRequest cX4_weighRequest 7 none :: ((wsX4_weighRequest_r1 ++ (wsX4_weighRequest_r2 ++ wsX4_weighRequest_r3)) ++ wsX40 ++ wsX20 ++ wsX30 ++ wsX10)
def wsX4_hearLocked : List Cond := .code yX4_hearLocked cX4_hearLocked 5 none :: ([.fieldLink RX4 31 "QuorumLock" "askers" "[LQuorumLock$Asker;", .fieldLink RX4 74 "QuorumLock$Asker" "state" "I", .fieldLink RX4 80 "QuorumLock$Asker" "time" "I", .methodLink RX4 173 yX0_gainVote, .instanceMethod yX0_gainVote, .selects RX0 yX0_gainVote yX0_gainVote, .initialized RX0, .code yX0_gainVote cX0_gainVote 2 none, .fieldLink RX0 21 "QuorumLock$Asker" "votes" "I", .fieldLink RX0 24 "QuorumLock$Asker" "failures" "I"] ++ wsX40 ++ wsX00)
def wsX4_takeVoteBack_r1 : List Cond := [Cond.fieldLink RX4 37 "QuorumLock" "voters" "[LQuorumLock$Voter;", Cond.fieldLink RX4 103 "QuorumLock$Voter" "lentTo" "I", Cond.fieldLink RX4 201 "QuorumLock$Voter" "lentTime" "I", Cond.fieldLink RX4 130 "QuorumLock$Voter" "row" "LQuorumLock$Row;", Cond.fieldLink RX4 134 "QuorumLock$Row" "length" "I", Cond.methodLink RX4 192 yX1_insert, Cond.instanceMethod yX1_insert, Cond.selects RX1 yX1_insert yX1_insert, Cond.initialized RX1, Cond.code yX1_insert cX1_insert 4 (some .int), Cond.fieldLink RX1 18 "QuorumLock$Row" "length" "I", Cond.fieldLink RX1 9 "QuorumLock$Row" "waitingNodes" "[I", Cond.fieldLink RX1 15 "QuorumLock$Row" "waitingTimes" "[I", Cond.static yX4_isBefore, Cond.initialized RX4, Cond.code yX4_isBefore cX4_isBefore 4 (some .boolean), Cond.methodLink RX4 204 yX2_takeHome, Cond.instanceMethod yX2_takeHome, Cond.selects RX2 yX2_takeHome yX2_takeHome, Cond.initialized RX2, Cond.code yX2_takeHome cX2_takeHome 1 none, Cond.fieldLink RX2 27 "QuorumLock$Voter" "lentTo" "I", Cond.fieldLink RX2 30 "QuorumLock$Voter" "lentTime" "I", Cond.fieldLink RX2 33 "QuorumLock$Voter" "inquired" "Z"]
def wsX4_takeVoteBack_r2 : List Cond := [Cond.methodLink RX4 139 yX1_nodeAt, Cond.instanceMethod yX1_nodeAt, Cond.selects RX1 yX1_nodeAt yX1_nodeAt, Cond.code yX1_nodeAt cX1_nodeAt 2 (some .int), Cond.methodLink RX4 195 yX1_timeAt, Cond.instanceMethod yX1_timeAt, Cond.selects RX1 yX1_timeAt yX1_timeAt, Cond.code yX1_timeAt cX1_timeAt 2 (some .int), Cond.methodLink RX4 207 yX1_removeFirst, Cond.instanceMethod yX1_removeFirst, Cond.selects RX1 yX1_removeFirst yX1_removeFirst, Cond.code yX1_removeFirst cX1_removeFirst 2 none, Cond.methodLink RX1 26 Lib.Math.max.name, Cond.static Lib.Math.max.name, Cond.initialized "java/lang/Math", Cond.code Lib.Math.max.name Lib.Math.max.code 2 (some .int), Cond.methodLink RX4 185 yX4_lend, Cond.instanceMethod yX4_lend, Cond.selects RX4 yX4_lend yX4_lend, Cond.code yX4_lend cX4_lend 4 none, Cond.methodLink RX4 210 yX2_lendTo, Cond.instanceMethod yX2_lendTo, Cond.selects RX2 yX2_lendTo yX2_lendTo, Cond.code yX2_lendTo cX2_lendTo 3 none]
def wsX4_takeVoteBack_r3 : List Cond := [Cond.methodLink RX4 149 yX4_send, Cond.instanceMethod yX4_send, Cond.selects RX4 yX4_send yX4_send, Cond.code yX4_send cX4_send 5 none, Cond.fieldLink RX4 46 "QuorumLock" "wires" "LQuorumLock$Wires;", Cond.fieldLink RX4 26 "QuorumLock" "clocks" "[I", Cond.methodLink RX4 142 yX3_add, Cond.instanceMethod yX3_add, Cond.selects RX3 yX3_add yX3_add, Cond.initialized RX3, Cond.code yX3_add cX3_add 8 none, Cond.fieldLink RX3 22 "QuorumLock$Wires" "lying" "[I", Cond.fieldLink RX3 15 "QuorumLock$Wires" "parts" "[I", Cond.fieldLink RX3 25 "QuorumLock$Wires" "lyingFrom" "[I", Cond.methodLink RX3 28 yX3_wireOf, Cond.instanceMethod yX3_wireOf, Cond.selects RX3 yX3_wireOf yX3_wireOf, Cond.code yX3_wireOf cX3_wireOf 3 (some .int), Cond.fieldLink RX3 9 "QuorumLock$Wires" "ends" "I", Cond.methodLink RX3 32 yX3_slotOf, Cond.instanceMethod yX3_slotOf, Cond.selects RX3 yX3_slotOf yX3_slotOf, Cond.code yX3_slotOf cX3_slotOf 3 (some .int), Cond.fieldLink RX3 19 "QuorumLock$Wires" "oldest" "[I"]
def wsX4_takeVoteBack : List Cond := .code yX4_takeVoteBack cX4_takeVoteBack 8 none :: ((wsX4_takeVoteBack_r1 ++ (wsX4_takeVoteBack_r2 ++ wsX4_takeVoteBack_r3)) ++ wsX40 ++ wsX20 ++ wsX10 ++ wsX30)
def wsX4_giveUp_r1 : List Cond := [Cond.fieldLink RX4 31 "QuorumLock" "askers" "[LQuorumLock$Asker;", Cond.fieldLink RX4 80 "QuorumLock$Asker" "time" "I", Cond.methodLink RX4 149 yX4_send, Cond.instanceMethod yX4_send, Cond.selects RX4 yX4_send yX4_send, Cond.initialized RX4, Cond.code yX4_send cX4_send 5 none, Cond.fieldLink RX4 46 "QuorumLock" "wires" "LQuorumLock$Wires;", Cond.fieldLink RX4 26 "QuorumLock" "clocks" "[I", Cond.methodLink RX4 142 yX3_add, Cond.instanceMethod yX3_add, Cond.selects RX3 yX3_add yX3_add, Cond.initialized RX3, Cond.code yX3_add cX3_add 8 none, Cond.fieldLink RX3 22 "QuorumLock$Wires" "lying" "[I", Cond.fieldLink RX3 15 "QuorumLock$Wires" "parts" "[I", Cond.fieldLink RX3 25 "QuorumLock$Wires" "lyingFrom" "[I", Cond.methodLink RX3 28 yX3_wireOf, Cond.instanceMethod yX3_wireOf, Cond.selects RX3 yX3_wireOf yX3_wireOf, Cond.code yX3_wireOf cX3_wireOf 3 (some .int), Cond.fieldLink RX3 9 "QuorumLock$Wires" "ends" "I", Cond.methodLink RX3 32 yX3_slotOf, Cond.instanceMethod yX3_slotOf]
def wsX4_giveUp_r2 : List Cond := [Cond.selects RX3 yX3_slotOf yX3_slotOf, Cond.code yX3_slotOf cX3_slotOf 3 (some .int), Cond.fieldLink RX3 19 "QuorumLock$Wires" "oldest" "[I", Cond.methodLink RX4 182 yX0_loseVote, Cond.instanceMethod yX0_loseVote, Cond.selects RX0 yX0_loseVote yX0_loseVote, Cond.initialized RX0, Cond.code yX0_loseVote cX0_loseVote 2 none, Cond.fieldLink RX0 21 "QuorumLock$Asker" "votes" "I", Cond.fieldLink RX0 27 "QuorumLock$Asker" "inquiries" "I", Cond.fieldLink RX0 24 "QuorumLock$Asker" "failures" "I"]
def wsX4_giveUp : List Cond := .code yX4_giveUp cX4_giveUp 4 none :: ((wsX4_giveUp_r1 ++ wsX4_giveUp_r2) ++ wsX40 ++ wsX00 ++ wsX30)
def wsX4_hearInquire_r1 : List Cond := [Cond.fieldLink RX4 31 "QuorumLock" "askers" "[LQuorumLock$Asker;", Cond.fieldLink RX4 94 "QuorumLock$Asker" "votes" "I", Cond.fieldLink RX4 120 "QuorumLock$Asker" "failures" "I", Cond.fieldLink RX4 123 "QuorumLock$Asker" "inquiries" "I", Cond.methodLink RX4 176 yX0_isAsking, Cond.instanceMethod yX0_isAsking, Cond.selects RX0 yX0_isAsking yX0_isAsking, Cond.initialized RX0, Cond.code yX0_isAsking cX0_isAsking 2 (some .boolean), Cond.fieldLink RX0 9 "QuorumLock$Asker" "state" "I", Cond.fieldLink RX0 15 "QuorumLock$Asker" "time" "I", Cond.methodLink RX4 146 yX4_has, Cond.static yX4_has, Cond.initialized RX4, Cond.code yX4_has cX4_has 2 (some .boolean), Cond.methodLink RX4 179 yX4_giveUp, Cond.instanceMethod yX4_giveUp, Cond.selects RX4 yX4_giveUp yX4_giveUp, Cond.code yX4_giveUp cX4_giveUp 4 none, Cond.fieldLink RX4 80 "QuorumLock$Asker" "time" "I", Cond.methodLink RX4 149 yX4_send, Cond.instanceMethod yX4_send, Cond.selects RX4 yX4_send yX4_send, Cond.code yX4_send cX4_send 5 none]
def wsX4_hearInquire_r2 : List Cond := [Cond.fieldLink RX4 46 "QuorumLock" "wires" "LQuorumLock$Wires;", Cond.fieldLink RX4 26 "QuorumLock" "clocks" "[I", Cond.methodLink RX4 142 yX3_add, Cond.instanceMethod yX3_add, Cond.selects RX3 yX3_add yX3_add, Cond.initialized RX3, Cond.code yX3_add cX3_add 8 none, Cond.fieldLink RX3 22 "QuorumLock$Wires" "lying" "[I", Cond.fieldLink RX3 15 "QuorumLock$Wires" "parts" "[I", Cond.fieldLink RX3 25 "QuorumLock$Wires" "lyingFrom" "[I", Cond.methodLink RX3 28 yX3_wireOf, Cond.instanceMethod yX3_wireOf, Cond.selects RX3 yX3_wireOf yX3_wireOf, Cond.code yX3_wireOf cX3_wireOf 3 (some .int), Cond.fieldLink RX3 9 "QuorumLock$Wires" "ends" "I", Cond.methodLink RX3 32 yX3_slotOf, Cond.instanceMethod yX3_slotOf, Cond.selects RX3 yX3_slotOf yX3_slotOf, Cond.code yX3_slotOf cX3_slotOf 3 (some .int), Cond.fieldLink RX3 19 "QuorumLock$Wires" "oldest" "[I", Cond.methodLink RX4 182 yX0_loseVote, Cond.instanceMethod yX0_loseVote, Cond.selects RX0 yX0_loseVote yX0_loseVote, Cond.code yX0_loseVote cX0_loseVote 2 none]
def wsX4_hearInquire_r3 : List Cond := [Cond.fieldLink RX0 21 "QuorumLock$Asker" "votes" "I", Cond.fieldLink RX0 27 "QuorumLock$Asker" "inquiries" "I", Cond.fieldLink RX0 24 "QuorumLock$Asker" "failures" "I"]
def wsX4_hearInquire : List Cond := .code yX4_hearInquire cX4_hearInquire 5 none :: ((wsX4_hearInquire_r1 ++ (wsX4_hearInquire_r2 ++ wsX4_hearInquire_r3)) ++ wsX40 ++ wsX00 ++ wsX30)
def wsX4_hearFailed_r1 : List Cond := [Cond.fieldLink RX4 31 "QuorumLock" "askers" "[LQuorumLock$Asker;", Cond.fieldLink RX4 120 "QuorumLock$Asker" "failures" "I", Cond.fieldLink RX4 18 "QuorumLock" "nodes" "I", Cond.fieldLink RX4 94 "QuorumLock$Asker" "votes" "I", Cond.fieldLink RX4 123 "QuorumLock$Asker" "inquiries" "I", Cond.methodLink RX4 176 yX0_isAsking, Cond.instanceMethod yX0_isAsking, Cond.selects RX0 yX0_isAsking yX0_isAsking, Cond.initialized RX0, Cond.code yX0_isAsking cX0_isAsking 2 (some .boolean), Cond.fieldLink RX0 9 "QuorumLock$Asker" "state" "I", Cond.fieldLink RX0 15 "QuorumLock$Asker" "time" "I", Cond.methodLink RX4 146 yX4_has, Cond.static yX4_has, Cond.initialized RX4, Cond.code yX4_has cX4_has 2 (some .boolean), Cond.methodLink RX4 179 yX4_giveUp, Cond.instanceMethod yX4_giveUp, Cond.selects RX4 yX4_giveUp yX4_giveUp, Cond.code yX4_giveUp cX4_giveUp 4 none, Cond.fieldLink RX4 80 "QuorumLock$Asker" "time" "I", Cond.methodLink RX4 149 yX4_send, Cond.instanceMethod yX4_send, Cond.selects RX4 yX4_send yX4_send]
def wsX4_hearFailed_r2 : List Cond := [Cond.code yX4_send cX4_send 5 none, Cond.fieldLink RX4 46 "QuorumLock" "wires" "LQuorumLock$Wires;", Cond.fieldLink RX4 26 "QuorumLock" "clocks" "[I", Cond.methodLink RX4 142 yX3_add, Cond.instanceMethod yX3_add, Cond.selects RX3 yX3_add yX3_add, Cond.initialized RX3, Cond.code yX3_add cX3_add 8 none, Cond.fieldLink RX3 22 "QuorumLock$Wires" "lying" "[I", Cond.fieldLink RX3 15 "QuorumLock$Wires" "parts" "[I", Cond.fieldLink RX3 25 "QuorumLock$Wires" "lyingFrom" "[I", Cond.methodLink RX3 28 yX3_wireOf, Cond.instanceMethod yX3_wireOf, Cond.selects RX3 yX3_wireOf yX3_wireOf, Cond.code yX3_wireOf cX3_wireOf 3 (some .int), Cond.fieldLink RX3 9 "QuorumLock$Wires" "ends" "I", Cond.methodLink RX3 32 yX3_slotOf, Cond.instanceMethod yX3_slotOf, Cond.selects RX3 yX3_slotOf yX3_slotOf, Cond.code yX3_slotOf cX3_slotOf 3 (some .int), Cond.fieldLink RX3 19 "QuorumLock$Wires" "oldest" "[I", Cond.methodLink RX4 182 yX0_loseVote, Cond.instanceMethod yX0_loseVote, Cond.selects RX0 yX0_loseVote yX0_loseVote]
def wsX4_hearFailed_r3 : List Cond := [Cond.code yX0_loseVote cX0_loseVote 2 none, Cond.fieldLink RX0 21 "QuorumLock$Asker" "votes" "I", Cond.fieldLink RX0 27 "QuorumLock$Asker" "inquiries" "I", Cond.fieldLink RX0 24 "QuorumLock$Asker" "failures" "I"]
def wsX4_hearFailed : List Cond := .code yX4_hearFailed cX4_hearFailed 6 none :: ((wsX4_hearFailed_r1 ++ (wsX4_hearFailed_r2 ++ wsX4_hearFailed_r3)) ++ wsX40 ++ wsX00 ++ wsX30)
def wsX4_deliverOldest_r1 : List Cond := [Cond.fieldLink RX4 46 "QuorumLock" "wires" "LQuorumLock$Wires;", Cond.fieldLink RX4 26 "QuorumLock" "clocks" "[I", Cond.methodLink RX4 7 Lib.Math.max.name, Cond.static Lib.Math.max.name, Cond.initialized "java/lang/Math", Cond.code Lib.Math.max.name Lib.Math.max.code 2 (some .int), Cond.methodLink RX4 113 yX3_count, Cond.instanceMethod yX3_count, Cond.selects RX3 yX3_count yX3_count, Cond.initialized RX3, Cond.code yX3_count cX3_count 3 (some .int), Cond.fieldLink RX3 22 "QuorumLock$Wires" "lying" "[I", Cond.methodLink RX3 28 yX3_wireOf, Cond.instanceMethod yX3_wireOf, Cond.selects RX3 yX3_wireOf yX3_wireOf, Cond.code yX3_wireOf cX3_wireOf 3 (some .int), Cond.fieldLink RX3 9 "QuorumLock$Wires" "ends" "I", Cond.methodLink RX4 116 yX3_part, Cond.instanceMethod yX3_part, Cond.selects RX3 yX3_part yX3_part, Cond.code yX3_part cX3_part 6 (some .int), Cond.fieldLink RX3 15 "QuorumLock$Wires" "parts" "[I", Cond.methodLink RX3 32 yX3_slotOf, Cond.instanceMethod yX3_slotOf]
def wsX4_deliverOldest_r2 : List Cond := [Cond.selects RX3 yX3_slotOf yX3_slotOf, Cond.code yX3_slotOf cX3_slotOf 3 (some .int), Cond.fieldLink RX3 19 "QuorumLock$Wires" "oldest" "[I", Cond.methodLink RX4 153 yX3_dropOldest, Cond.instanceMethod yX3_dropOldest, Cond.selects RX3 yX3_dropOldest yX3_dropOldest, Cond.code yX3_dropOldest cX3_dropOldest 4 none, Cond.fieldLink RX3 25 "QuorumLock$Wires" "lyingFrom" "[I", Cond.methodLink RX4 157 yX4_weighRequest, Cond.instanceMethod yX4_weighRequest, Cond.selects RX4 yX4_weighRequest yX4_weighRequest, Cond.initialized RX4, Cond.code yX4_weighRequest cX4_weighRequest 7 none, Cond.fieldLink RX4 37 "QuorumLock" "voters" "[LQuorumLock$Voter;", Cond.fieldLink RX4 103 "QuorumLock$Voter" "lentTo" "I", Cond.fieldLink RX4 130 "QuorumLock$Voter" "row" "LQuorumLock$Row;", Cond.methodLink RX4 185 yX4_lend, Cond.instanceMethod yX4_lend, Cond.selects RX4 yX4_lend yX4_lend, Cond.code yX4_lend cX4_lend 4 none, Cond.methodLink RX4 210 yX2_lendTo, Cond.instanceMethod yX2_lendTo, Cond.selects RX2 yX2_lendTo yX2_lendTo, Cond.initialized RX2]
def wsX4_deliverOldest_r3 : List Cond := [Cond.code yX2_lendTo cX2_lendTo 3 none, Cond.fieldLink RX2 27 "QuorumLock$Voter" "lentTo" "I", Cond.fieldLink RX2 30 "QuorumLock$Voter" "lentTime" "I", Cond.fieldLink RX2 33 "QuorumLock$Voter" "inquired" "Z", Cond.methodLink RX4 149 yX4_send, Cond.instanceMethod yX4_send, Cond.selects RX4 yX4_send yX4_send, Cond.code yX4_send cX4_send 5 none, Cond.methodLink RX4 142 yX3_add, Cond.instanceMethod yX3_add, Cond.selects RX3 yX3_add yX3_add, Cond.code yX3_add cX3_add 8 none, Cond.methodLink RX4 188 yX2_isPressed, Cond.instanceMethod yX2_isPressed, Cond.selects RX2 yX2_isPressed yX2_isPressed, Cond.code yX2_isPressed cX2_isPressed 1 (some .boolean), Cond.fieldLink RX2 14 "QuorumLock$Voter" "row" "LQuorumLock$Row;", Cond.fieldLink RX2 23 "QuorumLock$Row" "length" "I", Cond.methodLink RX2 37 yX1_nodeAt, Cond.instanceMethod yX1_nodeAt, Cond.selects RX1 yX1_nodeAt yX1_nodeAt, Cond.initialized RX1, Cond.code yX1_nodeAt cX1_nodeAt 2 (some .int), Cond.fieldLink RX1 18 "QuorumLock$Row" "length" "I"]
def wsX4_deliverOldest_r4 : List Cond := [Cond.fieldLink RX1 9 "QuorumLock$Row" "waitingNodes" "[I", Cond.methodLink RX2 41 yX1_timeAt, Cond.instanceMethod yX1_timeAt, Cond.selects RX1 yX1_timeAt yX1_timeAt, Cond.code yX1_timeAt cX1_timeAt 2 (some .int), Cond.fieldLink RX1 15 "QuorumLock$Row" "waitingTimes" "[I", Cond.static yX4_isBefore, Cond.code yX4_isBefore cX4_isBefore 4 (some .boolean), Cond.methodLink RX4 192 yX1_insert, Cond.instanceMethod yX1_insert, Cond.selects RX1 yX1_insert yX1_insert, Cond.code yX1_insert cX1_insert 4 (some .int), Cond.methodLink RX4 139 yX1_nodeAt, Cond.methodLink RX4 195 yX1_timeAt, Cond.methodLink RX4 198 yX4_inquireOnce, Cond.instanceMethod yX4_inquireOnce, Cond.selects RX4 yX4_inquireOnce yX4_inquireOnce, Cond.code yX4_inquireOnce cX4_inquireOnce 3 none, Cond.fieldLink RX4 126 "QuorumLock$Voter" "inquired" "Z", Cond.fieldLink RX4 201 "QuorumLock$Voter" "lentTime" "I", Cond.methodLink RX4 160 yX4_hearLocked, Cond.instanceMethod yX4_hearLocked, Cond.selects RX4 yX4_hearLocked yX4_hearLocked, Cond.code yX4_hearLocked cX4_hearLocked 5 none]
def wsX4_deliverOldest_r5 : List Cond := [Cond.fieldLink RX4 31 "QuorumLock" "askers" "[LQuorumLock$Asker;", Cond.fieldLink RX4 74 "QuorumLock$Asker" "state" "I", Cond.fieldLink RX4 80 "QuorumLock$Asker" "time" "I", Cond.methodLink RX4 173 yX0_gainVote, Cond.instanceMethod yX0_gainVote, Cond.selects RX0 yX0_gainVote yX0_gainVote, Cond.initialized RX0, Cond.code yX0_gainVote cX0_gainVote 2 none, Cond.fieldLink RX0 21 "QuorumLock$Asker" "votes" "I", Cond.fieldLink RX0 24 "QuorumLock$Asker" "failures" "I", Cond.methodLink RX4 163 yX4_takeVoteBack, Cond.instanceMethod yX4_takeVoteBack, Cond.selects RX4 yX4_takeVoteBack yX4_takeVoteBack, Cond.code yX4_takeVoteBack cX4_takeVoteBack 8 none, Cond.fieldLink RX4 134 "QuorumLock$Row" "length" "I", Cond.methodLink RX4 204 yX2_takeHome, Cond.instanceMethod yX2_takeHome, Cond.selects RX2 yX2_takeHome yX2_takeHome, Cond.code yX2_takeHome cX2_takeHome 1 none, Cond.methodLink RX4 207 yX1_removeFirst, Cond.instanceMethod yX1_removeFirst, Cond.selects RX1 yX1_removeFirst yX1_removeFirst, Cond.code yX1_removeFirst cX1_removeFirst 2 none, Cond.methodLink RX1 26 Lib.Math.max.name]
def wsX4_deliverOldest_r6 : List Cond := [Cond.methodLink RX4 167 yX4_hearInquire, Cond.instanceMethod yX4_hearInquire, Cond.selects RX4 yX4_hearInquire yX4_hearInquire, Cond.code yX4_hearInquire cX4_hearInquire 5 none, Cond.fieldLink RX4 94 "QuorumLock$Asker" "votes" "I", Cond.fieldLink RX4 120 "QuorumLock$Asker" "failures" "I", Cond.fieldLink RX4 123 "QuorumLock$Asker" "inquiries" "I", Cond.methodLink RX4 176 yX0_isAsking, Cond.instanceMethod yX0_isAsking, Cond.selects RX0 yX0_isAsking yX0_isAsking, Cond.code yX0_isAsking cX0_isAsking 2 (some .boolean), Cond.fieldLink RX0 9 "QuorumLock$Asker" "state" "I", Cond.fieldLink RX0 15 "QuorumLock$Asker" "time" "I", Cond.methodLink RX4 146 yX4_has, Cond.static yX4_has, Cond.code yX4_has cX4_has 2 (some .boolean), Cond.methodLink RX4 179 yX4_giveUp, Cond.instanceMethod yX4_giveUp, Cond.selects RX4 yX4_giveUp yX4_giveUp, Cond.code yX4_giveUp cX4_giveUp 4 none, Cond.methodLink RX4 182 yX0_loseVote, Cond.instanceMethod yX0_loseVote, Cond.selects RX0 yX0_loseVote yX0_loseVote, Cond.code yX0_loseVote cX0_loseVote 2 none]
def wsX4_deliverOldest_r7 : List Cond := [Cond.fieldLink RX0 27 "QuorumLock$Asker" "inquiries" "I", Cond.methodLink RX4 170 yX4_hearFailed, Cond.instanceMethod yX4_hearFailed, Cond.selects RX4 yX4_hearFailed yX4_hearFailed, Cond.code yX4_hearFailed cX4_hearFailed 6 none, Cond.fieldLink RX4 18 "QuorumLock" "nodes" "I"]
def wsX4_deliverOldest : List Cond := .code yX4_deliverOldest cX4_deliverOldest 5 (some .int) :: ((wsX4_deliverOldest_r1 ++ (wsX4_deliverOldest_r2 ++ (wsX4_deliverOldest_r3 ++ (wsX4_deliverOldest_r4 ++ (wsX4_deliverOldest_r5 ++ (wsX4_deliverOldest_r6 ++ wsX4_deliverOldest_r7)))))) ++ wsX40 ++ wsX30 ++ wsX20 ++ wsX10 ++ wsX00)
def wsX4_deliver_r1 : List Cond := [Cond.methodLink RX4 87 yX4_isWire, Cond.instanceMethod yX4_isWire, Cond.selects RX4 yX4_isWire yX4_isWire, Cond.initialized RX4, Cond.code yX4_isWire cX4_isWire 3 (some .boolean), Cond.methodLink RX4 70 yX4_isNode, Cond.instanceMethod yX4_isNode, Cond.selects RX4 yX4_isNode yX4_isNode, Cond.code yX4_isNode cX4_isNode 2 (some .boolean), Cond.fieldLink RX4 18 "QuorumLock" "nodes" "I", Cond.methodLink RX4 91 yX4_deliverOldest, Cond.instanceMethod yX4_deliverOldest, Cond.selects RX4 yX4_deliverOldest yX4_deliverOldest, Cond.code yX4_deliverOldest cX4_deliverOldest 5 (some .int), Cond.fieldLink RX4 46 "QuorumLock" "wires" "LQuorumLock$Wires;", Cond.fieldLink RX4 26 "QuorumLock" "clocks" "[I", Cond.methodLink RX4 7 Lib.Math.max.name, Cond.static Lib.Math.max.name, Cond.initialized "java/lang/Math", Cond.code Lib.Math.max.name Lib.Math.max.code 2 (some .int), Cond.methodLink RX4 113 yX3_count, Cond.instanceMethod yX3_count, Cond.selects RX3 yX3_count yX3_count, Cond.initialized RX3]
def wsX4_deliver_r2 : List Cond := [Cond.code yX3_count cX3_count 3 (some .int), Cond.fieldLink RX3 22 "QuorumLock$Wires" "lying" "[I", Cond.methodLink RX3 28 yX3_wireOf, Cond.instanceMethod yX3_wireOf, Cond.selects RX3 yX3_wireOf yX3_wireOf, Cond.code yX3_wireOf cX3_wireOf 3 (some .int), Cond.fieldLink RX3 9 "QuorumLock$Wires" "ends" "I", Cond.methodLink RX4 116 yX3_part, Cond.instanceMethod yX3_part, Cond.selects RX3 yX3_part yX3_part, Cond.code yX3_part cX3_part 6 (some .int), Cond.fieldLink RX3 15 "QuorumLock$Wires" "parts" "[I", Cond.methodLink RX3 32 yX3_slotOf, Cond.instanceMethod yX3_slotOf, Cond.selects RX3 yX3_slotOf yX3_slotOf, Cond.code yX3_slotOf cX3_slotOf 3 (some .int), Cond.fieldLink RX3 19 "QuorumLock$Wires" "oldest" "[I", Cond.methodLink RX4 153 yX3_dropOldest, Cond.instanceMethod yX3_dropOldest, Cond.selects RX3 yX3_dropOldest yX3_dropOldest, Cond.code yX3_dropOldest cX3_dropOldest 4 none, Cond.fieldLink RX3 25 "QuorumLock$Wires" "lyingFrom" "[I", Cond.methodLink RX4 157 yX4_weighRequest, Cond.instanceMethod yX4_weighRequest]
def wsX4_deliver_r3 : List Cond := [Cond.selects RX4 yX4_weighRequest yX4_weighRequest, Cond.code yX4_weighRequest cX4_weighRequest 7 none, Cond.fieldLink RX4 37 "QuorumLock" "voters" "[LQuorumLock$Voter;", Cond.fieldLink RX4 103 "QuorumLock$Voter" "lentTo" "I", Cond.fieldLink RX4 130 "QuorumLock$Voter" "row" "LQuorumLock$Row;", Cond.methodLink RX4 185 yX4_lend, Cond.instanceMethod yX4_lend, Cond.selects RX4 yX4_lend yX4_lend, Cond.code yX4_lend cX4_lend 4 none, Cond.methodLink RX4 210 yX2_lendTo, Cond.instanceMethod yX2_lendTo, Cond.selects RX2 yX2_lendTo yX2_lendTo, Cond.initialized RX2, Cond.code yX2_lendTo cX2_lendTo 3 none, Cond.fieldLink RX2 27 "QuorumLock$Voter" "lentTo" "I", Cond.fieldLink RX2 30 "QuorumLock$Voter" "lentTime" "I", Cond.fieldLink RX2 33 "QuorumLock$Voter" "inquired" "Z", Cond.methodLink RX4 149 yX4_send, Cond.instanceMethod yX4_send, Cond.selects RX4 yX4_send yX4_send, Cond.code yX4_send cX4_send 5 none, Cond.methodLink RX4 142 yX3_add, Cond.instanceMethod yX3_add, Cond.selects RX3 yX3_add yX3_add]
def wsX4_deliver_r4 : List Cond := [Cond.code yX3_add cX3_add 8 none, Cond.methodLink RX4 188 yX2_isPressed, Cond.instanceMethod yX2_isPressed, Cond.selects RX2 yX2_isPressed yX2_isPressed, Cond.code yX2_isPressed cX2_isPressed 1 (some .boolean), Cond.fieldLink RX2 14 "QuorumLock$Voter" "row" "LQuorumLock$Row;", Cond.fieldLink RX2 23 "QuorumLock$Row" "length" "I", Cond.methodLink RX2 37 yX1_nodeAt, Cond.instanceMethod yX1_nodeAt, Cond.selects RX1 yX1_nodeAt yX1_nodeAt, Cond.initialized RX1, Cond.code yX1_nodeAt cX1_nodeAt 2 (some .int), Cond.fieldLink RX1 18 "QuorumLock$Row" "length" "I", Cond.fieldLink RX1 9 "QuorumLock$Row" "waitingNodes" "[I", Cond.methodLink RX2 41 yX1_timeAt, Cond.instanceMethod yX1_timeAt, Cond.selects RX1 yX1_timeAt yX1_timeAt, Cond.code yX1_timeAt cX1_timeAt 2 (some .int), Cond.fieldLink RX1 15 "QuorumLock$Row" "waitingTimes" "[I", Cond.static yX4_isBefore, Cond.code yX4_isBefore cX4_isBefore 4 (some .boolean), Cond.methodLink RX4 192 yX1_insert, Cond.instanceMethod yX1_insert, Cond.selects RX1 yX1_insert yX1_insert]
def wsX4_deliver_r5 : List Cond := [Cond.code yX1_insert cX1_insert 4 (some .int), Cond.methodLink RX4 139 yX1_nodeAt, Cond.methodLink RX4 195 yX1_timeAt, Cond.methodLink RX4 198 yX4_inquireOnce, Cond.instanceMethod yX4_inquireOnce, Cond.selects RX4 yX4_inquireOnce yX4_inquireOnce, Cond.code yX4_inquireOnce cX4_inquireOnce 3 none, Cond.fieldLink RX4 126 "QuorumLock$Voter" "inquired" "Z", Cond.fieldLink RX4 201 "QuorumLock$Voter" "lentTime" "I", Cond.methodLink RX4 160 yX4_hearLocked, Cond.instanceMethod yX4_hearLocked, Cond.selects RX4 yX4_hearLocked yX4_hearLocked, Cond.code yX4_hearLocked cX4_hearLocked 5 none, Cond.fieldLink RX4 31 "QuorumLock" "askers" "[LQuorumLock$Asker;", Cond.fieldLink RX4 74 "QuorumLock$Asker" "state" "I", Cond.fieldLink RX4 80 "QuorumLock$Asker" "time" "I", Cond.methodLink RX4 173 yX0_gainVote, Cond.instanceMethod yX0_gainVote, Cond.selects RX0 yX0_gainVote yX0_gainVote, Cond.initialized RX0, Cond.code yX0_gainVote cX0_gainVote 2 none, Cond.fieldLink RX0 21 "QuorumLock$Asker" "votes" "I", Cond.fieldLink RX0 24 "QuorumLock$Asker" "failures" "I", Cond.methodLink RX4 163 yX4_takeVoteBack]
def wsX4_deliver_r6 : List Cond := [Cond.instanceMethod yX4_takeVoteBack, Cond.selects RX4 yX4_takeVoteBack yX4_takeVoteBack, Cond.code yX4_takeVoteBack cX4_takeVoteBack 8 none, Cond.fieldLink RX4 134 "QuorumLock$Row" "length" "I", Cond.methodLink RX4 204 yX2_takeHome, Cond.instanceMethod yX2_takeHome, Cond.selects RX2 yX2_takeHome yX2_takeHome, Cond.code yX2_takeHome cX2_takeHome 1 none, Cond.methodLink RX4 207 yX1_removeFirst, Cond.instanceMethod yX1_removeFirst, Cond.selects RX1 yX1_removeFirst yX1_removeFirst, Cond.code yX1_removeFirst cX1_removeFirst 2 none, Cond.methodLink RX1 26 Lib.Math.max.name, Cond.methodLink RX4 167 yX4_hearInquire, Cond.instanceMethod yX4_hearInquire, Cond.selects RX4 yX4_hearInquire yX4_hearInquire, Cond.code yX4_hearInquire cX4_hearInquire 5 none, Cond.fieldLink RX4 94 "QuorumLock$Asker" "votes" "I", Cond.fieldLink RX4 120 "QuorumLock$Asker" "failures" "I", Cond.fieldLink RX4 123 "QuorumLock$Asker" "inquiries" "I", Cond.methodLink RX4 176 yX0_isAsking, Cond.instanceMethod yX0_isAsking, Cond.selects RX0 yX0_isAsking yX0_isAsking, Cond.code yX0_isAsking cX0_isAsking 2 (some .boolean)]
def wsX4_deliver_r7 : List Cond := [Cond.fieldLink RX0 9 "QuorumLock$Asker" "state" "I", Cond.fieldLink RX0 15 "QuorumLock$Asker" "time" "I", Cond.methodLink RX4 146 yX4_has, Cond.static yX4_has, Cond.code yX4_has cX4_has 2 (some .boolean), Cond.methodLink RX4 179 yX4_giveUp, Cond.instanceMethod yX4_giveUp, Cond.selects RX4 yX4_giveUp yX4_giveUp, Cond.code yX4_giveUp cX4_giveUp 4 none, Cond.methodLink RX4 182 yX0_loseVote, Cond.instanceMethod yX0_loseVote, Cond.selects RX0 yX0_loseVote yX0_loseVote, Cond.code yX0_loseVote cX0_loseVote 2 none, Cond.fieldLink RX0 27 "QuorumLock$Asker" "inquiries" "I", Cond.methodLink RX4 170 yX4_hearFailed, Cond.instanceMethod yX4_hearFailed, Cond.selects RX4 yX4_hearFailed yX4_hearFailed, Cond.code yX4_hearFailed cX4_hearFailed 6 none]
def wsX4_deliver : List Cond := .code yX4_deliver cX4_deliver 3 (some .int) :: ((wsX4_deliver_r1 ++ (wsX4_deliver_r2 ++ (wsX4_deliver_r3 ++ (wsX4_deliver_r4 ++ (wsX4_deliver_r5 ++ (wsX4_deliver_r6 ++ wsX4_deliver_r7)))))) ++ wsX40 ++ wsX30 ++ wsX20 ++ wsX10 ++ wsX00)
def wsX4_enter : List Cond := .code yX4_enter cX4_enter 3 (some .boolean) :: ([.fieldLink RX4 31 "QuorumLock" "askers" "[LQuorumLock$Asker;", .fieldLink RX4 74 "QuorumLock$Asker" "state" "I", .fieldLink RX4 94 "QuorumLock$Asker" "votes" "I", .fieldLink RX4 22 "QuorumLock" "quorums" "[I", .fieldLink RX4 67 "QuorumLock" "entries" "I", .methodLink RX4 70 yX4_isNode, .instanceMethod yX4_isNode, .selects RX4 yX4_isNode yX4_isNode, .initialized RX4, .code yX4_isNode cX4_isNode 2 (some .boolean), .fieldLink RX4 18 "QuorumLock" "nodes" "I"] ++ wsX40 ++ wsX00)
def wsX4_release_r1 : List Cond := [Cond.fieldLink RX4 31 "QuorumLock" "askers" "[LQuorumLock$Asker;", Cond.fieldLink RX4 74 "QuorumLock$Asker" "state" "I", Cond.fieldLink RX4 80 "QuorumLock$Asker" "time" "I", Cond.methodLink RX4 70 yX4_isNode, Cond.instanceMethod yX4_isNode, Cond.selects RX4 yX4_isNode yX4_isNode, Cond.initialized RX4, Cond.code yX4_isNode cX4_isNode 2 (some .boolean), Cond.fieldLink RX4 18 "QuorumLock" "nodes" "I", Cond.methodLink RX4 58 yX0_becomeIdle, Cond.instanceMethod yX0_becomeIdle, Cond.selects RX0 yX0_becomeIdle yX0_becomeIdle, Cond.initialized RX0, Cond.code yX0_becomeIdle cX0_becomeIdle 1 none, Cond.fieldLink RX0 9 "QuorumLock$Asker" "state" "I", Cond.fieldLink RX0 15 "QuorumLock$Asker" "time" "I", Cond.methodLink RX0 18 yX0_forgetSets, Cond.instanceMethod yX0_forgetSets, Cond.selects RX0 yX0_forgetSets yX0_forgetSets, Cond.code yX0_forgetSets cX0_forgetSets 1 none, Cond.fieldLink RX0 21 "QuorumLock$Asker" "votes" "I", Cond.fieldLink RX0 24 "QuorumLock$Asker" "failures" "I", Cond.fieldLink RX0 27 "QuorumLock$Asker" "inquiries" "I", Cond.methodLink RX4 83 yX4_sendToQuorum]
def wsX4_release_r2 : List Cond := [Cond.instanceMethod yX4_sendToQuorum, Cond.selects RX4 yX4_sendToQuorum yX4_sendToQuorum, Cond.code yX4_sendToQuorum cX4_sendToQuorum 5 none, Cond.fieldLink RX4 22 "QuorumLock" "quorums" "[I", Cond.methodLink RX4 146 yX4_has, Cond.static yX4_has, Cond.code yX4_has cX4_has 2 (some .boolean), Cond.methodLink RX4 149 yX4_send, Cond.instanceMethod yX4_send, Cond.selects RX4 yX4_send yX4_send, Cond.code yX4_send cX4_send 5 none, Cond.fieldLink RX4 46 "QuorumLock" "wires" "LQuorumLock$Wires;", Cond.fieldLink RX4 26 "QuorumLock" "clocks" "[I", Cond.methodLink RX4 142 yX3_add, Cond.instanceMethod yX3_add, Cond.selects RX3 yX3_add yX3_add, Cond.initialized RX3, Cond.code yX3_add cX3_add 8 none, Cond.fieldLink RX3 22 "QuorumLock$Wires" "lying" "[I", Cond.fieldLink RX3 15 "QuorumLock$Wires" "parts" "[I", Cond.fieldLink RX3 25 "QuorumLock$Wires" "lyingFrom" "[I", Cond.methodLink RX3 28 yX3_wireOf, Cond.instanceMethod yX3_wireOf, Cond.selects RX3 yX3_wireOf yX3_wireOf]
def wsX4_release_r3 : List Cond := [Cond.code yX3_wireOf cX3_wireOf 3 (some .int), Cond.fieldLink RX3 9 "QuorumLock$Wires" "ends" "I", Cond.methodLink RX3 32 yX3_slotOf, Cond.instanceMethod yX3_slotOf, Cond.selects RX3 yX3_slotOf yX3_slotOf, Cond.code yX3_slotOf cX3_slotOf 3 (some .int), Cond.fieldLink RX3 19 "QuorumLock$Wires" "oldest" "[I"]
def wsX4_release : List Cond := .code yX4_release cX4_release 4 (some .int) :: ((wsX4_release_r1 ++ (wsX4_release_r2 ++ wsX4_release_r3)) ++ wsX40 ++ wsX00 ++ wsX30)
def wsX4_holder : List Cond := .code yX4_holder cX4_holder 2 (some .int) :: ([.fieldLink RX4 18 "QuorumLock" "nodes" "I", .fieldLink RX4 31 "QuorumLock" "askers" "[LQuorumLock$Asker;", .fieldLink RX4 74 "QuorumLock$Asker" "state" "I"] ++ wsX40 ++ wsX00)
def wsJ6_bitCount_0f7a4 : List Cond := .code yJ6_bitCount_0f7a4 cJ6_bitCount_0f7a4 1 (some .int) :: ([.constant RJ6 265 (1431655765), .constant RJ6 266 (858993459), .constant RJ6 267 (252645135)])
def wsX4_votesOf : List Cond := .code yX4_votesOf cX4_votesOf 2 (some .int) :: ([.fieldLink RX4 31 "QuorumLock" "askers" "[LQuorumLock$Asker;", .fieldLink RX4 94 "QuorumLock$Asker" "votes" "I", .methodLink RX4 70 yX4_isNode, .instanceMethod yX4_isNode, .selects RX4 yX4_isNode yX4_isNode, .initialized RX4, .code yX4_isNode cX4_isNode 2 (some .boolean), .fieldLink RX4 18 "QuorumLock" "nodes" "I", .methodLink RX4 97 yJ6_bitCount_0f7a4, .static yJ6_bitCount_0f7a4, .initialized RJ6, .code yJ6_bitCount_0f7a4 cJ6_bitCount_0f7a4 1 (some .int), .constant RJ6 265 (1431655765), .constant RJ6 266 (858993459), .constant RJ6 267 (252645135)] ++ wsX40 ++ wsX00)
def wsX4_lockedFor : List Cond := .code yX4_lockedFor cX4_lockedFor 2 (some .int) :: ([.fieldLink RX4 37 "QuorumLock" "voters" "[LQuorumLock$Voter;", .fieldLink RX4 103 "QuorumLock$Voter" "lentTo" "I", .methodLink RX4 70 yX4_isNode, .instanceMethod yX4_isNode, .selects RX4 yX4_isNode yX4_isNode, .initialized RX4, .code yX4_isNode cX4_isNode 2 (some .boolean), .fieldLink RX4 18 "QuorumLock" "nodes" "I"] ++ wsX40 ++ wsX20)
def wsX4_settle_r1 : List Cond := [Cond.fieldLink RX4 46 "QuorumLock" "wires" "LQuorumLock$Wires;", Cond.methodLink RX4 106 yX3_leastFrom, Cond.instanceMethod yX3_leastFrom, Cond.selects RX3 yX3_leastFrom yX3_leastFrom, Cond.initialized RX3, Cond.code yX3_leastFrom cX3_leastFrom 2 (some .int), Cond.fieldLink RX3 9 "QuorumLock$Wires" "ends" "I", Cond.fieldLink RX3 25 "QuorumLock$Wires" "lyingFrom" "[I", Cond.methodLink RX4 110 yX3_leastTo, Cond.instanceMethod yX3_leastTo, Cond.selects RX3 yX3_leastTo yX3_leastTo, Cond.code yX3_leastTo cX3_leastTo 3 (some .int), Cond.methodLink RX3 35 yX3_count, Cond.instanceMethod yX3_count, Cond.selects RX3 yX3_count yX3_count, Cond.code yX3_count cX3_count 3 (some .int), Cond.fieldLink RX3 22 "QuorumLock$Wires" "lying" "[I", Cond.methodLink RX3 28 yX3_wireOf, Cond.instanceMethod yX3_wireOf, Cond.selects RX3 yX3_wireOf yX3_wireOf, Cond.code yX3_wireOf cX3_wireOf 3 (some .int), Cond.methodLink RX4 91 yX4_deliverOldest, Cond.instanceMethod yX4_deliverOldest, Cond.selects RX4 yX4_deliverOldest yX4_deliverOldest]
def wsX4_settle_r2 : List Cond := [Cond.initialized RX4, Cond.code yX4_deliverOldest cX4_deliverOldest 5 (some .int), Cond.fieldLink RX4 26 "QuorumLock" "clocks" "[I", Cond.methodLink RX4 7 Lib.Math.max.name, Cond.static Lib.Math.max.name, Cond.initialized "java/lang/Math", Cond.code Lib.Math.max.name Lib.Math.max.code 2 (some .int), Cond.methodLink RX4 113 yX3_count, Cond.methodLink RX4 116 yX3_part, Cond.instanceMethod yX3_part, Cond.selects RX3 yX3_part yX3_part, Cond.code yX3_part cX3_part 6 (some .int), Cond.fieldLink RX3 15 "QuorumLock$Wires" "parts" "[I", Cond.methodLink RX3 32 yX3_slotOf, Cond.instanceMethod yX3_slotOf, Cond.selects RX3 yX3_slotOf yX3_slotOf, Cond.code yX3_slotOf cX3_slotOf 3 (some .int), Cond.fieldLink RX3 19 "QuorumLock$Wires" "oldest" "[I", Cond.methodLink RX4 153 yX3_dropOldest, Cond.instanceMethod yX3_dropOldest, Cond.selects RX3 yX3_dropOldest yX3_dropOldest, Cond.code yX3_dropOldest cX3_dropOldest 4 none, Cond.methodLink RX4 157 yX4_weighRequest, Cond.instanceMethod yX4_weighRequest]
def wsX4_settle_r3 : List Cond := [Cond.selects RX4 yX4_weighRequest yX4_weighRequest, Cond.code yX4_weighRequest cX4_weighRequest 7 none, Cond.fieldLink RX4 37 "QuorumLock" "voters" "[LQuorumLock$Voter;", Cond.fieldLink RX4 103 "QuorumLock$Voter" "lentTo" "I", Cond.fieldLink RX4 130 "QuorumLock$Voter" "row" "LQuorumLock$Row;", Cond.methodLink RX4 185 yX4_lend, Cond.instanceMethod yX4_lend, Cond.selects RX4 yX4_lend yX4_lend, Cond.code yX4_lend cX4_lend 4 none, Cond.methodLink RX4 210 yX2_lendTo, Cond.instanceMethod yX2_lendTo, Cond.selects RX2 yX2_lendTo yX2_lendTo, Cond.initialized RX2, Cond.code yX2_lendTo cX2_lendTo 3 none, Cond.fieldLink RX2 27 "QuorumLock$Voter" "lentTo" "I", Cond.fieldLink RX2 30 "QuorumLock$Voter" "lentTime" "I", Cond.fieldLink RX2 33 "QuorumLock$Voter" "inquired" "Z", Cond.methodLink RX4 149 yX4_send, Cond.instanceMethod yX4_send, Cond.selects RX4 yX4_send yX4_send, Cond.code yX4_send cX4_send 5 none, Cond.methodLink RX4 142 yX3_add, Cond.instanceMethod yX3_add, Cond.selects RX3 yX3_add yX3_add]
def wsX4_settle_r4 : List Cond := [Cond.code yX3_add cX3_add 8 none, Cond.methodLink RX4 188 yX2_isPressed, Cond.instanceMethod yX2_isPressed, Cond.selects RX2 yX2_isPressed yX2_isPressed, Cond.code yX2_isPressed cX2_isPressed 1 (some .boolean), Cond.fieldLink RX2 14 "QuorumLock$Voter" "row" "LQuorumLock$Row;", Cond.fieldLink RX2 23 "QuorumLock$Row" "length" "I", Cond.methodLink RX2 37 yX1_nodeAt, Cond.instanceMethod yX1_nodeAt, Cond.selects RX1 yX1_nodeAt yX1_nodeAt, Cond.initialized RX1, Cond.code yX1_nodeAt cX1_nodeAt 2 (some .int), Cond.fieldLink RX1 18 "QuorumLock$Row" "length" "I", Cond.fieldLink RX1 9 "QuorumLock$Row" "waitingNodes" "[I", Cond.methodLink RX2 41 yX1_timeAt, Cond.instanceMethod yX1_timeAt, Cond.selects RX1 yX1_timeAt yX1_timeAt, Cond.code yX1_timeAt cX1_timeAt 2 (some .int), Cond.fieldLink RX1 15 "QuorumLock$Row" "waitingTimes" "[I", Cond.static yX4_isBefore, Cond.code yX4_isBefore cX4_isBefore 4 (some .boolean), Cond.methodLink RX4 192 yX1_insert, Cond.instanceMethod yX1_insert, Cond.selects RX1 yX1_insert yX1_insert]
def wsX4_settle_r5 : List Cond := [Cond.code yX1_insert cX1_insert 4 (some .int), Cond.methodLink RX4 139 yX1_nodeAt, Cond.methodLink RX4 195 yX1_timeAt, Cond.methodLink RX4 198 yX4_inquireOnce, Cond.instanceMethod yX4_inquireOnce, Cond.selects RX4 yX4_inquireOnce yX4_inquireOnce, Cond.code yX4_inquireOnce cX4_inquireOnce 3 none, Cond.fieldLink RX4 126 "QuorumLock$Voter" "inquired" "Z", Cond.fieldLink RX4 201 "QuorumLock$Voter" "lentTime" "I", Cond.methodLink RX4 160 yX4_hearLocked, Cond.instanceMethod yX4_hearLocked, Cond.selects RX4 yX4_hearLocked yX4_hearLocked, Cond.code yX4_hearLocked cX4_hearLocked 5 none, Cond.fieldLink RX4 31 "QuorumLock" "askers" "[LQuorumLock$Asker;", Cond.fieldLink RX4 74 "QuorumLock$Asker" "state" "I", Cond.fieldLink RX4 80 "QuorumLock$Asker" "time" "I", Cond.methodLink RX4 173 yX0_gainVote, Cond.instanceMethod yX0_gainVote, Cond.selects RX0 yX0_gainVote yX0_gainVote, Cond.initialized RX0, Cond.code yX0_gainVote cX0_gainVote 2 none, Cond.fieldLink RX0 21 "QuorumLock$Asker" "votes" "I", Cond.fieldLink RX0 24 "QuorumLock$Asker" "failures" "I", Cond.methodLink RX4 163 yX4_takeVoteBack]
def wsX4_settle_r6 : List Cond := [Cond.instanceMethod yX4_takeVoteBack, Cond.selects RX4 yX4_takeVoteBack yX4_takeVoteBack, Cond.code yX4_takeVoteBack cX4_takeVoteBack 8 none, Cond.fieldLink RX4 134 "QuorumLock$Row" "length" "I", Cond.methodLink RX4 204 yX2_takeHome, Cond.instanceMethod yX2_takeHome, Cond.selects RX2 yX2_takeHome yX2_takeHome, Cond.code yX2_takeHome cX2_takeHome 1 none, Cond.methodLink RX4 207 yX1_removeFirst, Cond.instanceMethod yX1_removeFirst, Cond.selects RX1 yX1_removeFirst yX1_removeFirst, Cond.code yX1_removeFirst cX1_removeFirst 2 none, Cond.methodLink RX1 26 Lib.Math.max.name, Cond.methodLink RX4 167 yX4_hearInquire, Cond.instanceMethod yX4_hearInquire, Cond.selects RX4 yX4_hearInquire yX4_hearInquire, Cond.code yX4_hearInquire cX4_hearInquire 5 none, Cond.fieldLink RX4 94 "QuorumLock$Asker" "votes" "I", Cond.fieldLink RX4 120 "QuorumLock$Asker" "failures" "I", Cond.fieldLink RX4 123 "QuorumLock$Asker" "inquiries" "I", Cond.methodLink RX4 176 yX0_isAsking, Cond.instanceMethod yX0_isAsking, Cond.selects RX0 yX0_isAsking yX0_isAsking, Cond.code yX0_isAsking cX0_isAsking 2 (some .boolean)]
def wsX4_settle_r7 : List Cond := [Cond.fieldLink RX0 9 "QuorumLock$Asker" "state" "I", Cond.fieldLink RX0 15 "QuorumLock$Asker" "time" "I", Cond.methodLink RX4 146 yX4_has, Cond.static yX4_has, Cond.code yX4_has cX4_has 2 (some .boolean), Cond.methodLink RX4 179 yX4_giveUp, Cond.instanceMethod yX4_giveUp, Cond.selects RX4 yX4_giveUp yX4_giveUp, Cond.code yX4_giveUp cX4_giveUp 4 none, Cond.methodLink RX4 182 yX0_loseVote, Cond.instanceMethod yX0_loseVote, Cond.selects RX0 yX0_loseVote yX0_loseVote, Cond.code yX0_loseVote cX0_loseVote 2 none, Cond.fieldLink RX0 27 "QuorumLock$Asker" "inquiries" "I", Cond.methodLink RX4 170 yX4_hearFailed, Cond.instanceMethod yX4_hearFailed, Cond.selects RX4 yX4_hearFailed yX4_hearFailed, Cond.code yX4_hearFailed cX4_hearFailed 6 none, Cond.fieldLink RX4 18 "QuorumLock" "nodes" "I"]
def wsX4_settle : List Cond := .code yX4_settle cX4_settle 5 (some .int) :: ((wsX4_settle_r1 ++ (wsX4_settle_r2 ++ (wsX4_settle_r3 ++ (wsX4_settle_r4 ++ (wsX4_settle_r5 ++ (wsX4_settle_r6 ++ wsX4_settle_r7)))))) ++ wsX40 ++ wsX30 ++ wsX20 ++ wsX10 ++ wsX00)
def wsX4_waiting : List Cond := .code yX4_waiting cX4_waiting 3 (some .int) :: ([.fieldLink RX4 46 "QuorumLock" "wires" "LQuorumLock$Wires;", .methodLink RX4 87 yX4_isWire, .instanceMethod yX4_isWire, .selects RX4 yX4_isWire yX4_isWire, .initialized RX4, .code yX4_isWire cX4_isWire 3 (some .boolean), .methodLink RX4 70 yX4_isNode, .instanceMethod yX4_isNode, .selects RX4 yX4_isNode yX4_isNode, .code yX4_isNode cX4_isNode 2 (some .boolean), .fieldLink RX4 18 "QuorumLock" "nodes" "I", .methodLink RX4 113 yX3_count, .instanceMethod yX3_count, .selects RX3 yX3_count yX3_count, .initialized RX3, .code yX3_count cX3_count 3 (some .int), .fieldLink RX3 22 "QuorumLock$Wires" "lying" "[I", .methodLink RX3 28 yX3_wireOf, .instanceMethod yX3_wireOf, .selects RX3 yX3_wireOf yX3_wireOf, .code yX3_wireOf cX3_wireOf 3 (some .int), .fieldLink RX3 9 "QuorumLock$Wires" "ends" "I"] ++ wsX40 ++ wsX30)
def wsX4_look_r1 : List Cond := [Cond.fieldLink RX4 46 "QuorumLock" "wires" "LQuorumLock$Wires;", Cond.methodLink RX4 87 yX4_isWire, Cond.instanceMethod yX4_isWire, Cond.selects RX4 yX4_isWire yX4_isWire, Cond.initialized RX4, Cond.code yX4_isWire cX4_isWire 3 (some .boolean), Cond.methodLink RX4 70 yX4_isNode, Cond.instanceMethod yX4_isNode, Cond.selects RX4 yX4_isNode yX4_isNode, Cond.code yX4_isNode cX4_isNode 2 (some .boolean), Cond.fieldLink RX4 18 "QuorumLock" "nodes" "I", Cond.methodLink RX4 116 yX3_part, Cond.instanceMethod yX3_part, Cond.selects RX3 yX3_part yX3_part, Cond.initialized RX3, Cond.code yX3_part cX3_part 6 (some .int), Cond.fieldLink RX3 22 "QuorumLock$Wires" "lying" "[I", Cond.fieldLink RX3 15 "QuorumLock$Wires" "parts" "[I", Cond.methodLink RX3 28 yX3_wireOf, Cond.instanceMethod yX3_wireOf, Cond.selects RX3 yX3_wireOf yX3_wireOf, Cond.code yX3_wireOf cX3_wireOf 3 (some .int), Cond.fieldLink RX3 9 "QuorumLock$Wires" "ends" "I", Cond.methodLink RX3 32 yX3_slotOf]
def wsX4_look_r2 : List Cond := [Cond.instanceMethod yX3_slotOf, Cond.selects RX3 yX3_slotOf yX3_slotOf, Cond.code yX3_slotOf cX3_slotOf 3 (some .int), Cond.fieldLink RX3 19 "QuorumLock$Wires" "oldest" "[I"]
def wsX4_look : List Cond := .code yX4_look cX4_look 5 (some .int) :: ((wsX4_look_r1 ++ wsX4_look_r2) ++ wsX40 ++ wsX30)
def wsX4_told : List Cond := .code yX4_told cX4_told 5 (some .int) :: ([.fieldLink RX4 31 "QuorumLock" "askers" "[LQuorumLock$Asker;", .fieldLink RX4 37 "QuorumLock" "voters" "[LQuorumLock$Voter;", .fieldLink RX4 74 "QuorumLock$Asker" "state" "I", .fieldLink RX4 26 "QuorumLock" "clocks" "[I", .fieldLink RX4 80 "QuorumLock$Asker" "time" "I", .fieldLink RX4 120 "QuorumLock$Asker" "failures" "I", .fieldLink RX4 123 "QuorumLock$Asker" "inquiries" "I", .fieldLink RX4 94 "QuorumLock$Asker" "votes" "I", .fieldLink RX4 126 "QuorumLock$Voter" "inquired" "Z", .fieldLink RX4 130 "QuorumLock$Voter" "row" "LQuorumLock$Row;", .fieldLink RX4 134 "QuorumLock$Row" "length" "I", .methodLink RX4 70 yX4_isNode, .instanceMethod yX4_isNode, .selects RX4 yX4_isNode yX4_isNode, .initialized RX4, .code yX4_isNode cX4_isNode 2 (some .boolean), .fieldLink RX4 18 "QuorumLock" "nodes" "I"] ++ wsX40 ++ wsX00 ++ wsX20 ++ wsX10)
def wsX4_waits : List Cond := .code yX4_waits cX4_waits 3 (some .int) :: ([.fieldLink RX4 37 "QuorumLock" "voters" "[LQuorumLock$Voter;", .fieldLink RX4 130 "QuorumLock$Voter" "row" "LQuorumLock$Row;", .methodLink RX4 70 yX4_isNode, .instanceMethod yX4_isNode, .selects RX4 yX4_isNode yX4_isNode, .initialized RX4, .code yX4_isNode cX4_isNode 2 (some .boolean), .fieldLink RX4 18 "QuorumLock" "nodes" "I", .methodLink RX4 139 yX1_nodeAt, .instanceMethod yX1_nodeAt, .selects RX1 yX1_nodeAt yX1_nodeAt, .initialized RX1, .code yX1_nodeAt cX1_nodeAt 2 (some .int), .fieldLink RX1 18 "QuorumLock$Row" "length" "I", .fieldLink RX1 9 "QuorumLock$Row" "waitingNodes" "[I"] ++ wsX40 ++ wsX20 ++ wsX10)
def wsX4_entered : List Cond := .code yX4_entered cX4_entered 1 (some .int) :: ([.fieldLink RX4 67 "QuorumLock" "entries" "I"] ++ wsX40)
def wsX5_init_ : List Cond := .code yX5_init_ cX5_init_ 2 none :: ([.fieldLink RX5 7 "QuorumLockModel" "clock" "[I", .fieldLink RX5 13 "QuorumLockModel" "state" "[I", .fieldLink RX5 16 "QuorumLockModel" "time" "[I", .fieldLink RX5 19 "QuorumLockModel" "votes" "[I", .fieldLink RX5 22 "QuorumLockModel" "failures" "[I", .fieldLink RX5 25 "QuorumLockModel" "inquiries" "[I", .fieldLink RX5 28 "QuorumLockModel" "lent" "[I", .fieldLink RX5 31 "QuorumLockModel" "lentTime" "[I", .fieldLink RX5 34 "QuorumLockModel" "inquired" "[Z", .fieldLink RX5 38 "QuorumLockModel" "rows" "[I", .fieldLink RX5 47 "QuorumLockModel" "lying" "[I", .fieldLink RX5 69 "QuorumLockModel" "entered" "I"] ++ wsX50)
def wsX5_init_r1 : List Cond := [Cond.methodLink RX5 1 objectInit, Cond.instanceMethod objectInit, Cond.code objectInit ⟨#[0xb1]⟩ 1 none, Cond.arrayClass .int, Cond.fieldLink RX5 7 "QuorumLockModel" "clock" "[I", Cond.fieldLink RX5 13 "QuorumLockModel" "state" "[I", Cond.fieldLink RX5 16 "QuorumLockModel" "time" "[I", Cond.fieldLink RX5 19 "QuorumLockModel" "votes" "[I", Cond.fieldLink RX5 22 "QuorumLockModel" "failures" "[I", Cond.fieldLink RX5 25 "QuorumLockModel" "inquiries" "[I", Cond.fieldLink RX5 28 "QuorumLockModel" "lent" "[I", Cond.fieldLink RX5 31 "QuorumLockModel" "lentTime" "[I", Cond.arrayClass .boolean, Cond.fieldLink RX5 34 "QuorumLockModel" "inquired" "[Z", Cond.fieldLink RX5 38 "QuorumLockModel" "rows" "[I", Cond.fieldLink RX5 41 "QuorumLockModel" "rowNode" "[I", Cond.fieldLink RX5 44 "QuorumLockModel" "rowTime" "[I", Cond.fieldLink RX5 47 "QuorumLockModel" "lying" "[I", Cond.fieldLink RX5 50 "QuorumLockModel" "kinds" "[I", Cond.fieldLink RX5 53 "QuorumLockModel" "times" "[I", Cond.fieldLink RX5 56 "QuorumLockModel" "clocks" "[I", Cond.fieldLink RX5 59 "QuorumLockModel" "k" "I", Cond.fieldLink RX5 63 "QuorumLockModel" "n" "I", Cond.methodLink RX5 66 yX5_init_]
def wsX5_init_r2 : List Cond := [Cond.instanceMethod yX5_init_, Cond.selects RX5 yX5_init_ yX5_init_, Cond.initialized RX5, Cond.code yX5_init_ cX5_init_ 2 none, Cond.fieldLink RX5 69 "QuorumLockModel" "entered" "I"]
def wsX5_init : List Cond := .code yX5_init cX5_init 2 none :: ((wsX5_init_r1 ++ wsX5_init_r2) ++ wsX50)
def wsX5_isNode : List Cond := .code yX5_isNode cX5_isNode 2 (some .boolean) :: ([.fieldLink RX5 63 "QuorumLockModel" "n" "I"] ++ wsX50)
def wsX5_quorum : List Cond := .code yX5_quorum cX5_quorum 4 (some .int) :: ([.fieldLink RX5 63 "QuorumLockModel" "n" "I", .fieldLink RX5 59 "QuorumLockModel" "k" "I"] ++ wsX50)
def wsX5_send : List Cond := .code yX5_send cX5_send 7 none :: ([.fieldLink RX5 47 "QuorumLockModel" "lying" "[I", .fieldLink RX5 50 "QuorumLockModel" "kinds" "[I", .fieldLink RX5 53 "QuorumLockModel" "times" "[I", .fieldLink RX5 56 "QuorumLockModel" "clocks" "[I", .fieldLink RX5 7 "QuorumLockModel" "clock" "[I"] ++ wsX50)
def wsX5_sendAll : List Cond := .code yX5_sendAll cX5_sendAll 5 none :: ([.fieldLink RX5 63 "QuorumLockModel" "n" "I", .methodLink RX5 72 yX5_quorum, .instanceMethod yX5_quorum, .selects RX5 yX5_quorum yX5_quorum, .initialized RX5, .code yX5_quorum cX5_quorum 4 (some .int), .fieldLink RX5 59 "QuorumLockModel" "k" "I", .methodLink RX5 76 yX5_send, .instanceMethod yX5_send, .selects RX5 yX5_send yX5_send, .code yX5_send cX5_send 7 none, .fieldLink RX5 47 "QuorumLockModel" "lying" "[I", .fieldLink RX5 50 "QuorumLockModel" "kinds" "[I", .fieldLink RX5 53 "QuorumLockModel" "times" "[I", .fieldLink RX5 56 "QuorumLockModel" "clocks" "[I", .fieldLink RX5 7 "QuorumLockModel" "clock" "[I"] ++ wsX50)
def wsX5_empty : List Cond := .code yX5_empty cX5_empty 2 none :: ([.fieldLink RX5 19 "QuorumLockModel" "votes" "[I", .fieldLink RX5 22 "QuorumLockModel" "failures" "[I", .fieldLink RX5 25 "QuorumLockModel" "inquiries" "[I"] ++ wsX50)
def wsX5_request_r1 : List Cond := [Cond.fieldLink RX5 13 "QuorumLockModel" "state" "[I", Cond.fieldLink RX5 7 "QuorumLockModel" "clock" "[I", Cond.fieldLink RX5 16 "QuorumLockModel" "time" "[I", Cond.methodLink RX5 80 yX5_isNode, Cond.instanceMethod yX5_isNode, Cond.selects RX5 yX5_isNode yX5_isNode, Cond.initialized RX5, Cond.code yX5_isNode cX5_isNode 2 (some .boolean), Cond.fieldLink RX5 63 "QuorumLockModel" "n" "I", Cond.methodLink RX5 84 yX5_empty, Cond.instanceMethod yX5_empty, Cond.selects RX5 yX5_empty yX5_empty, Cond.code yX5_empty cX5_empty 2 none, Cond.fieldLink RX5 19 "QuorumLockModel" "votes" "[I", Cond.fieldLink RX5 22 "QuorumLockModel" "failures" "[I", Cond.fieldLink RX5 25 "QuorumLockModel" "inquiries" "[I", Cond.methodLink RX5 88 yX5_sendAll, Cond.instanceMethod yX5_sendAll, Cond.selects RX5 yX5_sendAll yX5_sendAll, Cond.code yX5_sendAll cX5_sendAll 5 none, Cond.methodLink RX5 72 yX5_quorum, Cond.instanceMethod yX5_quorum, Cond.selects RX5 yX5_quorum yX5_quorum, Cond.code yX5_quorum cX5_quorum 4 (some .int)]
def wsX5_request_r2 : List Cond := [Cond.fieldLink RX5 59 "QuorumLockModel" "k" "I", Cond.methodLink RX5 76 yX5_send, Cond.instanceMethod yX5_send, Cond.selects RX5 yX5_send yX5_send, Cond.code yX5_send cX5_send 7 none, Cond.fieldLink RX5 47 "QuorumLockModel" "lying" "[I", Cond.fieldLink RX5 50 "QuorumLockModel" "kinds" "[I", Cond.fieldLink RX5 53 "QuorumLockModel" "times" "[I", Cond.fieldLink RX5 56 "QuorumLockModel" "clocks" "[I"]
def wsX5_request : List Cond := .code yX5_request cX5_request 2 (some .int) :: ((wsX5_request_r1 ++ wsX5_request_r2) ++ wsX50)
def wsX5_enter : List Cond := .code yX5_enter cX5_enter 2 (some .boolean) :: ([.fieldLink RX5 13 "QuorumLockModel" "state" "[I", .fieldLink RX5 19 "QuorumLockModel" "votes" "[I", .fieldLink RX5 69 "QuorumLockModel" "entered" "I", .methodLink RX5 80 yX5_isNode, .instanceMethod yX5_isNode, .selects RX5 yX5_isNode yX5_isNode, .initialized RX5, .code yX5_isNode cX5_isNode 2 (some .boolean), .fieldLink RX5 63 "QuorumLockModel" "n" "I", .methodLink RX5 72 yX5_quorum, .instanceMethod yX5_quorum, .selects RX5 yX5_quorum yX5_quorum, .code yX5_quorum cX5_quorum 4 (some .int), .fieldLink RX5 59 "QuorumLockModel" "k" "I"] ++ wsX50)
def wsX5_release_r1 : List Cond := [Cond.fieldLink RX5 13 "QuorumLockModel" "state" "[I", Cond.fieldLink RX5 16 "QuorumLockModel" "time" "[I", Cond.methodLink RX5 80 yX5_isNode, Cond.instanceMethod yX5_isNode, Cond.selects RX5 yX5_isNode yX5_isNode, Cond.initialized RX5, Cond.code yX5_isNode cX5_isNode 2 (some .boolean), Cond.fieldLink RX5 63 "QuorumLockModel" "n" "I", Cond.methodLink RX5 84 yX5_empty, Cond.instanceMethod yX5_empty, Cond.selects RX5 yX5_empty yX5_empty, Cond.code yX5_empty cX5_empty 2 none, Cond.fieldLink RX5 19 "QuorumLockModel" "votes" "[I", Cond.fieldLink RX5 22 "QuorumLockModel" "failures" "[I", Cond.fieldLink RX5 25 "QuorumLockModel" "inquiries" "[I", Cond.methodLink RX5 88 yX5_sendAll, Cond.instanceMethod yX5_sendAll, Cond.selects RX5 yX5_sendAll yX5_sendAll, Cond.code yX5_sendAll cX5_sendAll 5 none, Cond.methodLink RX5 72 yX5_quorum, Cond.instanceMethod yX5_quorum, Cond.selects RX5 yX5_quorum yX5_quorum, Cond.code yX5_quorum cX5_quorum 4 (some .int), Cond.fieldLink RX5 59 "QuorumLockModel" "k" "I"]
def wsX5_release_r2 : List Cond := [Cond.methodLink RX5 76 yX5_send, Cond.instanceMethod yX5_send, Cond.selects RX5 yX5_send yX5_send, Cond.code yX5_send cX5_send 7 none, Cond.fieldLink RX5 47 "QuorumLockModel" "lying" "[I", Cond.fieldLink RX5 50 "QuorumLockModel" "kinds" "[I", Cond.fieldLink RX5 53 "QuorumLockModel" "times" "[I", Cond.fieldLink RX5 56 "QuorumLockModel" "clocks" "[I", Cond.fieldLink RX5 7 "QuorumLockModel" "clock" "[I"]
def wsX5_release : List Cond := .code yX5_release cX5_release 3 (some .int) :: ((wsX5_release_r1 ++ wsX5_release_r2) ++ wsX50)
def wsX5_giveUp : List Cond := .code yX5_giveUp cX5_giveUp 3 none :: ([.fieldLink RX5 16 "QuorumLockModel" "time" "[I", .fieldLink RX5 19 "QuorumLockModel" "votes" "[I", .fieldLink RX5 25 "QuorumLockModel" "inquiries" "[I", .fieldLink RX5 22 "QuorumLockModel" "failures" "[I", .methodLink RX5 76 yX5_send, .instanceMethod yX5_send, .selects RX5 yX5_send yX5_send, .initialized RX5, .code yX5_send cX5_send 7 none, .fieldLink RX5 47 "QuorumLockModel" "lying" "[I", .fieldLink RX5 50 "QuorumLockModel" "kinds" "[I", .fieldLink RX5 53 "QuorumLockModel" "times" "[I", .fieldLink RX5 56 "QuorumLockModel" "clocks" "[I", .fieldLink RX5 7 "QuorumLockModel" "clock" "[I"] ++ wsX50)
def wsX5_answer : List Cond := .code yX5_answer cX5_answer 6 none :: ([.fieldLink RX5 13 "QuorumLockModel" "state" "[I", .fieldLink RX5 16 "QuorumLockModel" "time" "[I", .fieldLink RX5 19 "QuorumLockModel" "votes" "[I", .fieldLink RX5 22 "QuorumLockModel" "failures" "[I", .fieldLink RX5 63 "QuorumLockModel" "n" "I", .fieldLink RX5 25 "QuorumLockModel" "inquiries" "[I", .methodLink RX5 92 yX5_giveUp, .instanceMethod yX5_giveUp, .selects RX5 yX5_giveUp yX5_giveUp, .initialized RX5, .code yX5_giveUp cX5_giveUp 3 none, .methodLink RX5 76 yX5_send, .instanceMethod yX5_send, .selects RX5 yX5_send yX5_send, .code yX5_send cX5_send 7 none, .fieldLink RX5 47 "QuorumLockModel" "lying" "[I", .fieldLink RX5 50 "QuorumLockModel" "kinds" "[I", .fieldLink RX5 53 "QuorumLockModel" "times" "[I", .fieldLink RX5 56 "QuorumLockModel" "clocks" "[I", .fieldLink RX5 7 "QuorumLockModel" "clock" "[I"] ++ wsX50)
def wsX5_isBefore : List Cond := .code yX5_isBefore cX5_isBefore 4 (some .boolean) :: ([])
def wsX5_line : List Cond := .code yX5_line cX5_line 5 (some .int) :: ([.fieldLink RX5 38 "QuorumLockModel" "rows" "[I", .fieldLink RX5 44 "QuorumLockModel" "rowTime" "[I", .fieldLink RX5 41 "QuorumLockModel" "rowNode" "[I", .methodLink RX5 96 yX5_isBefore, .static yX5_isBefore, .initialized RX5, .code yX5_isBefore cX5_isBefore 4 (some .boolean)] ++ wsX50)
def wsX5_lend : List Cond := .code yX5_lend cX5_lend 4 none :: ([.fieldLink RX5 28 "QuorumLockModel" "lent" "[I", .fieldLink RX5 31 "QuorumLockModel" "lentTime" "[I", .fieldLink RX5 34 "QuorumLockModel" "inquired" "[Z", .methodLink RX5 76 yX5_send, .instanceMethod yX5_send, .selects RX5 yX5_send yX5_send, .initialized RX5, .code yX5_send cX5_send 7 none, .fieldLink RX5 47 "QuorumLockModel" "lying" "[I", .fieldLink RX5 50 "QuorumLockModel" "kinds" "[I", .fieldLink RX5 53 "QuorumLockModel" "times" "[I", .fieldLink RX5 56 "QuorumLockModel" "clocks" "[I", .fieldLink RX5 7 "QuorumLockModel" "clock" "[I"] ++ wsX50)
def wsX5_asked_r1 : List Cond := [Cond.fieldLink RX5 28 "QuorumLockModel" "lent" "[I", Cond.fieldLink RX5 38 "QuorumLockModel" "rows" "[I", Cond.fieldLink RX5 41 "QuorumLockModel" "rowNode" "[I", Cond.fieldLink RX5 44 "QuorumLockModel" "rowTime" "[I", Cond.fieldLink RX5 31 "QuorumLockModel" "lentTime" "[I", Cond.fieldLink RX5 34 "QuorumLockModel" "inquired" "[Z", Cond.methodLink RX5 100 yX5_lend, Cond.instanceMethod yX5_lend, Cond.selects RX5 yX5_lend yX5_lend, Cond.initialized RX5, Cond.code yX5_lend cX5_lend 4 none, Cond.methodLink RX5 76 yX5_send, Cond.instanceMethod yX5_send, Cond.selects RX5 yX5_send yX5_send, Cond.code yX5_send cX5_send 7 none, Cond.fieldLink RX5 47 "QuorumLockModel" "lying" "[I", Cond.fieldLink RX5 50 "QuorumLockModel" "kinds" "[I", Cond.fieldLink RX5 53 "QuorumLockModel" "times" "[I", Cond.fieldLink RX5 56 "QuorumLockModel" "clocks" "[I", Cond.fieldLink RX5 7 "QuorumLockModel" "clock" "[I", Cond.methodLink RX5 103 yX5_line, Cond.instanceMethod yX5_line, Cond.selects RX5 yX5_line yX5_line, Cond.code yX5_line cX5_line 5 (some .int)]
def wsX5_asked_r2 : List Cond := [Cond.methodLink RX5 96 yX5_isBefore, Cond.static yX5_isBefore, Cond.code yX5_isBefore cX5_isBefore 4 (some .boolean)]
def wsX5_asked : List Cond := .code yX5_asked cX5_asked 7 none :: ((wsX5_asked_r1 ++ wsX5_asked_r2) ++ wsX50)
def wsX5_home_r1 : List Cond := [Cond.fieldLink RX5 28 "QuorumLockModel" "lent" "[I", Cond.fieldLink RX5 31 "QuorumLockModel" "lentTime" "[I", Cond.fieldLink RX5 34 "QuorumLockModel" "inquired" "[Z", Cond.fieldLink RX5 38 "QuorumLockModel" "rows" "[I", Cond.fieldLink RX5 41 "QuorumLockModel" "rowNode" "[I", Cond.fieldLink RX5 44 "QuorumLockModel" "rowTime" "[I", Cond.methodLink RX5 103 yX5_line, Cond.instanceMethod yX5_line, Cond.selects RX5 yX5_line yX5_line, Cond.initialized RX5, Cond.code yX5_line cX5_line 5 (some .int), Cond.methodLink RX5 96 yX5_isBefore, Cond.static yX5_isBefore, Cond.code yX5_isBefore cX5_isBefore 4 (some .boolean), Cond.methodLink RX5 100 yX5_lend, Cond.instanceMethod yX5_lend, Cond.selects RX5 yX5_lend yX5_lend, Cond.code yX5_lend cX5_lend 4 none, Cond.methodLink RX5 76 yX5_send, Cond.instanceMethod yX5_send, Cond.selects RX5 yX5_send yX5_send, Cond.code yX5_send cX5_send 7 none, Cond.fieldLink RX5 47 "QuorumLockModel" "lying" "[I", Cond.fieldLink RX5 50 "QuorumLockModel" "kinds" "[I"]
def wsX5_home_r2 : List Cond := [Cond.fieldLink RX5 53 "QuorumLockModel" "times" "[I", Cond.fieldLink RX5 56 "QuorumLockModel" "clocks" "[I", Cond.fieldLink RX5 7 "QuorumLockModel" "clock" "[I"]
def wsX5_home : List Cond := .code yX5_home cX5_home 8 none :: ((wsX5_home_r1 ++ wsX5_home_r2) ++ wsX50)
def wsX5_deliver_r1 : List Cond := [Cond.fieldLink RX5 47 "QuorumLockModel" "lying" "[I", Cond.fieldLink RX5 50 "QuorumLockModel" "kinds" "[I", Cond.fieldLink RX5 53 "QuorumLockModel" "times" "[I", Cond.fieldLink RX5 56 "QuorumLockModel" "clocks" "[I", Cond.fieldLink RX5 7 "QuorumLockModel" "clock" "[I", Cond.methodLink RX5 80 yX5_isNode, Cond.instanceMethod yX5_isNode, Cond.selects RX5 yX5_isNode yX5_isNode, Cond.initialized RX5, Cond.code yX5_isNode cX5_isNode 2 (some .boolean), Cond.fieldLink RX5 63 "QuorumLockModel" "n" "I", Cond.methodLink RX5 107 yX5_asked, Cond.instanceMethod yX5_asked, Cond.selects RX5 yX5_asked yX5_asked, Cond.code yX5_asked cX5_asked 7 none, Cond.fieldLink RX5 28 "QuorumLockModel" "lent" "[I", Cond.fieldLink RX5 38 "QuorumLockModel" "rows" "[I", Cond.fieldLink RX5 41 "QuorumLockModel" "rowNode" "[I", Cond.fieldLink RX5 44 "QuorumLockModel" "rowTime" "[I", Cond.fieldLink RX5 31 "QuorumLockModel" "lentTime" "[I", Cond.fieldLink RX5 34 "QuorumLockModel" "inquired" "[Z", Cond.methodLink RX5 100 yX5_lend, Cond.instanceMethod yX5_lend, Cond.selects RX5 yX5_lend yX5_lend]
def wsX5_deliver_r2 : List Cond := [Cond.code yX5_lend cX5_lend 4 none, Cond.methodLink RX5 76 yX5_send, Cond.instanceMethod yX5_send, Cond.selects RX5 yX5_send yX5_send, Cond.code yX5_send cX5_send 7 none, Cond.methodLink RX5 103 yX5_line, Cond.instanceMethod yX5_line, Cond.selects RX5 yX5_line yX5_line, Cond.code yX5_line cX5_line 5 (some .int), Cond.methodLink RX5 96 yX5_isBefore, Cond.static yX5_isBefore, Cond.code yX5_isBefore cX5_isBefore 4 (some .boolean), Cond.methodLink RX5 110 yX5_home, Cond.instanceMethod yX5_home, Cond.selects RX5 yX5_home yX5_home, Cond.code yX5_home cX5_home 8 none, Cond.methodLink RX5 114 yX5_answer, Cond.instanceMethod yX5_answer, Cond.selects RX5 yX5_answer yX5_answer, Cond.code yX5_answer cX5_answer 6 none, Cond.fieldLink RX5 13 "QuorumLockModel" "state" "[I", Cond.fieldLink RX5 16 "QuorumLockModel" "time" "[I", Cond.fieldLink RX5 19 "QuorumLockModel" "votes" "[I", Cond.fieldLink RX5 22 "QuorumLockModel" "failures" "[I"]
def wsX5_deliver_r3 : List Cond := [Cond.fieldLink RX5 25 "QuorumLockModel" "inquiries" "[I", Cond.methodLink RX5 92 yX5_giveUp, Cond.instanceMethod yX5_giveUp, Cond.selects RX5 yX5_giveUp yX5_giveUp, Cond.code yX5_giveUp cX5_giveUp 3 none]
def wsX5_deliver : List Cond := .code yX5_deliver cX5_deliver 9 (some .int) :: ((wsX5_deliver_r1 ++ (wsX5_deliver_r2 ++ wsX5_deliver_r3)) ++ wsX50)
def wsX5_settle_r1 : List Cond := [Cond.fieldLink RX5 47 "QuorumLockModel" "lying" "[I", Cond.methodLink RX5 117 yX5_deliver, Cond.instanceMethod yX5_deliver, Cond.selects RX5 yX5_deliver yX5_deliver, Cond.initialized RX5, Cond.code yX5_deliver cX5_deliver 9 (some .int), Cond.fieldLink RX5 50 "QuorumLockModel" "kinds" "[I", Cond.fieldLink RX5 53 "QuorumLockModel" "times" "[I", Cond.fieldLink RX5 56 "QuorumLockModel" "clocks" "[I", Cond.fieldLink RX5 7 "QuorumLockModel" "clock" "[I", Cond.methodLink RX5 80 yX5_isNode, Cond.instanceMethod yX5_isNode, Cond.selects RX5 yX5_isNode yX5_isNode, Cond.code yX5_isNode cX5_isNode 2 (some .boolean), Cond.fieldLink RX5 63 "QuorumLockModel" "n" "I", Cond.methodLink RX5 107 yX5_asked, Cond.instanceMethod yX5_asked, Cond.selects RX5 yX5_asked yX5_asked, Cond.code yX5_asked cX5_asked 7 none, Cond.fieldLink RX5 28 "QuorumLockModel" "lent" "[I", Cond.fieldLink RX5 38 "QuorumLockModel" "rows" "[I", Cond.fieldLink RX5 41 "QuorumLockModel" "rowNode" "[I", Cond.fieldLink RX5 44 "QuorumLockModel" "rowTime" "[I", Cond.fieldLink RX5 31 "QuorumLockModel" "lentTime" "[I"]
def wsX5_settle_r2 : List Cond := [Cond.fieldLink RX5 34 "QuorumLockModel" "inquired" "[Z", Cond.methodLink RX5 100 yX5_lend, Cond.instanceMethod yX5_lend, Cond.selects RX5 yX5_lend yX5_lend, Cond.code yX5_lend cX5_lend 4 none, Cond.methodLink RX5 76 yX5_send, Cond.instanceMethod yX5_send, Cond.selects RX5 yX5_send yX5_send, Cond.code yX5_send cX5_send 7 none, Cond.methodLink RX5 103 yX5_line, Cond.instanceMethod yX5_line, Cond.selects RX5 yX5_line yX5_line, Cond.code yX5_line cX5_line 5 (some .int), Cond.methodLink RX5 96 yX5_isBefore, Cond.static yX5_isBefore, Cond.code yX5_isBefore cX5_isBefore 4 (some .boolean), Cond.methodLink RX5 110 yX5_home, Cond.instanceMethod yX5_home, Cond.selects RX5 yX5_home yX5_home, Cond.code yX5_home cX5_home 8 none, Cond.methodLink RX5 114 yX5_answer, Cond.instanceMethod yX5_answer, Cond.selects RX5 yX5_answer yX5_answer, Cond.code yX5_answer cX5_answer 6 none]
def wsX5_settle_r3 : List Cond := [Cond.fieldLink RX5 13 "QuorumLockModel" "state" "[I", Cond.fieldLink RX5 16 "QuorumLockModel" "time" "[I", Cond.fieldLink RX5 19 "QuorumLockModel" "votes" "[I", Cond.fieldLink RX5 22 "QuorumLockModel" "failures" "[I", Cond.fieldLink RX5 25 "QuorumLockModel" "inquiries" "[I", Cond.methodLink RX5 92 yX5_giveUp, Cond.instanceMethod yX5_giveUp, Cond.selects RX5 yX5_giveUp yX5_giveUp, Cond.code yX5_giveUp cX5_giveUp 3 none]
def wsX5_settle : List Cond := .code yX5_settle cX5_settle 5 (some .int) :: ((wsX5_settle_r1 ++ (wsX5_settle_r2 ++ wsX5_settle_r3)) ++ wsX50)
def wsX5_holder : List Cond := .code yX5_holder cX5_holder 2 (some .int) :: ([.fieldLink RX5 63 "QuorumLockModel" "n" "I", .fieldLink RX5 13 "QuorumLockModel" "state" "[I"] ++ wsX50)
def wsX5_count : List Cond := .code yX5_count cX5_count 4 (some .int) :: ([.fieldLink RX5 63 "QuorumLockModel" "n" "I"] ++ wsX50)
def wsX5_votesOf : List Cond := .code yX5_votesOf cX5_votesOf 2 (some .int) :: ([.fieldLink RX5 19 "QuorumLockModel" "votes" "[I", .methodLink RX5 80 yX5_isNode, .instanceMethod yX5_isNode, .selects RX5 yX5_isNode yX5_isNode, .initialized RX5, .code yX5_isNode cX5_isNode 2 (some .boolean), .fieldLink RX5 63 "QuorumLockModel" "n" "I", .methodLink RX5 121 yX5_count, .instanceMethod yX5_count, .selects RX5 yX5_count yX5_count, .code yX5_count cX5_count 4 (some .int)] ++ wsX50)
def wsX5_lockedFor : List Cond := .code yX5_lockedFor cX5_lockedFor 2 (some .int) :: ([.fieldLink RX5 28 "QuorumLockModel" "lent" "[I", .methodLink RX5 80 yX5_isNode, .instanceMethod yX5_isNode, .selects RX5 yX5_isNode yX5_isNode, .initialized RX5, .code yX5_isNode cX5_isNode 2 (some .boolean), .fieldLink RX5 63 "QuorumLockModel" "n" "I"] ++ wsX50)
def wsX5_waiting : List Cond := .code yX5_waiting cX5_waiting 3 (some .int) :: ([.fieldLink RX5 47 "QuorumLockModel" "lying" "[I", .methodLink RX5 80 yX5_isNode, .instanceMethod yX5_isNode, .selects RX5 yX5_isNode yX5_isNode, .initialized RX5, .code yX5_isNode cX5_isNode 2 (some .boolean), .fieldLink RX5 63 "QuorumLockModel" "n" "I"] ++ wsX50)
def wsX5_look : List Cond := .code yX5_look cX5_look 6 (some .int) :: ([.fieldLink RX5 47 "QuorumLockModel" "lying" "[I", .fieldLink RX5 50 "QuorumLockModel" "kinds" "[I", .fieldLink RX5 53 "QuorumLockModel" "times" "[I", .fieldLink RX5 56 "QuorumLockModel" "clocks" "[I", .methodLink RX5 80 yX5_isNode, .instanceMethod yX5_isNode, .selects RX5 yX5_isNode yX5_isNode, .initialized RX5, .code yX5_isNode cX5_isNode 2 (some .boolean), .fieldLink RX5 63 "QuorumLockModel" "n" "I"] ++ wsX50)
def wsX5_told : List Cond := .code yX5_told cX5_told 3 (some .int) :: ([.fieldLink RX5 13 "QuorumLockModel" "state" "[I", .fieldLink RX5 7 "QuorumLockModel" "clock" "[I", .fieldLink RX5 16 "QuorumLockModel" "time" "[I", .fieldLink RX5 22 "QuorumLockModel" "failures" "[I", .fieldLink RX5 25 "QuorumLockModel" "inquiries" "[I", .fieldLink RX5 19 "QuorumLockModel" "votes" "[I", .fieldLink RX5 34 "QuorumLockModel" "inquired" "[Z", .fieldLink RX5 38 "QuorumLockModel" "rows" "[I", .methodLink RX5 80 yX5_isNode, .instanceMethod yX5_isNode, .selects RX5 yX5_isNode yX5_isNode, .initialized RX5, .code yX5_isNode cX5_isNode 2 (some .boolean), .fieldLink RX5 63 "QuorumLockModel" "n" "I"] ++ wsX50)
def wsX5_waits : List Cond := .code yX5_waits cX5_waits 3 (some .int) :: ([.fieldLink RX5 38 "QuorumLockModel" "rows" "[I", .fieldLink RX5 41 "QuorumLockModel" "rowNode" "[I", .methodLink RX5 80 yX5_isNode, .instanceMethod yX5_isNode, .selects RX5 yX5_isNode yX5_isNode, .initialized RX5, .code yX5_isNode cX5_isNode 2 (some .boolean), .fieldLink RX5 63 "QuorumLockModel" "n" "I"] ++ wsX50)
def wsX5_entered : List Cond := .code yX5_entered cX5_entered 1 (some .int) :: ([.fieldLink RX5 69 "QuorumLockModel" "entered" "I"] ++ wsX50)
def wsJ9_max_7cf53 : List Cond := .code yJ9_max_7cf53 cJ9_max_7cf53 2 (some .int) :: ([])
def wsJ9_min_7cf53 : List Cond := .code yJ9_min_7cf53 cJ9_min_7cf53 2 (some .int) :: ([])
def wsL_cell : List Cond := .code yL_cell cL_cell 2 (some .int) :: ([])
def wsL_law_r1 : List Cond := [Cond.classLink RL 7 RX4, Cond.instantiable RX4 7, Cond.initialized RX4, Cond.classLink RL 18 RX5, Cond.instantiable RX5 19, Cond.initialized RX5, Cond.methodLink RL 9 yL_cell, Cond.static yL_cell, Cond.initialized RL, Cond.code yL_cell cL_cell 2 (some .int), Cond.methodLink RL 15 yX4_init, Cond.instanceMethod yX4_init, Cond.code yX4_init cX4_init 4 none, Cond.methodLink RX4 1 objectInit, Cond.instanceMethod objectInit, Cond.code objectInit ⟨#[0xb1]⟩ 1 none, Cond.methodLink RX4 7 Lib.Math.max.name, Cond.static Lib.Math.max.name, Cond.initialized "java/lang/Math", Cond.code Lib.Math.max.name Lib.Math.max.code 2 (some .int), Cond.methodLink RX4 15 Lib.Math.min.name, Cond.static Lib.Math.min.name, Cond.code Lib.Math.min.name Lib.Math.min.code 2 (some .int), Cond.fieldLink RX4 18 "QuorumLock" "nodes" "I"]
def wsL_law_r2 : List Cond := [Cond.arrayClass .int, Cond.fieldLink RX4 22 "QuorumLock" "quorums" "[I", Cond.fieldLink RX4 26 "QuorumLock" "clocks" "[I", Cond.classLink RX4 29 RX0, Cond.fieldLink RX4 31 "QuorumLock" "askers" "[LQuorumLock$Asker;", Cond.classLink RX4 35 RX2, Cond.fieldLink RX4 37 "QuorumLock" "voters" "[LQuorumLock$Voter;", Cond.classLink RX4 41 RX3, Cond.instantiable RX3 5, Cond.initialized RX3, Cond.fieldLink RX4 46 "QuorumLock" "wires" "LQuorumLock$Wires;", Cond.instantiable RX0 5, Cond.initialized RX0, Cond.instantiable RX2 4, Cond.initialized RX2, Cond.methodLink RX4 43 yX3_init, Cond.instanceMethod yX3_init, Cond.code yX3_init cX3_init 2 none, Cond.methodLink RX3 3 objectInit, Cond.fieldLink RX3 9 "QuorumLock$Wires" "ends" "I", Cond.fieldLink RX3 15 "QuorumLock$Wires" "parts" "[I", Cond.fieldLink RX3 19 "QuorumLock$Wires" "oldest" "[I", Cond.fieldLink RX3 22 "QuorumLock$Wires" "lying" "[I", Cond.fieldLink RX3 25 "QuorumLock$Wires" "lyingFrom" "[I"]
def wsL_law_r3 : List Cond := [Cond.methodLink RX4 50 yX4_quorumOf, Cond.static yX4_quorumOf, Cond.code yX4_quorumOf cX4_quorumOf 4 (some .int), Cond.instanceMethod yX0_init, Cond.code yX0_init cX0_init 1 none, Cond.methodLink RX0 3 objectInit, Cond.methodLink RX4 54 yX2_init, Cond.instanceMethod yX2_init, Cond.code yX2_init cX2_init 2 none, Cond.methodLink RX2 3 objectInit, Cond.classLink RX2 9 RX1, Cond.instantiable RX1 3, Cond.initialized RX1, Cond.fieldLink RX2 14 "QuorumLock$Voter" "row" "LQuorumLock$Row;", Cond.methodLink RX2 11 yX1_init, Cond.instanceMethod yX1_init, Cond.code yX1_init cX1_init 2 none, Cond.methodLink RX1 3 objectInit, Cond.fieldLink RX1 9 "QuorumLock$Row" "waitingNodes" "[I", Cond.fieldLink RX1 15 "QuorumLock$Row" "waitingTimes" "[I", Cond.methodLink RX4 55 yX4_init_, Cond.instanceMethod yX4_init_, Cond.selects RX4 yX4_init_ yX4_init_, Cond.code yX4_init_ cX4_init_ 2 none]
def wsL_law_r4 : List Cond := [Cond.fieldLink RX4 67 "QuorumLock" "entries" "I", Cond.methodLink RX4 58 yX0_becomeIdle, Cond.instanceMethod yX0_becomeIdle, Cond.selects RX0 yX0_becomeIdle yX0_becomeIdle, Cond.code yX0_becomeIdle cX0_becomeIdle 1 none, Cond.fieldLink RX0 9 "QuorumLock$Asker" "state" "I", Cond.fieldLink RX0 15 "QuorumLock$Asker" "time" "I", Cond.methodLink RX0 18 yX0_forgetSets, Cond.instanceMethod yX0_forgetSets, Cond.selects RX0 yX0_forgetSets yX0_forgetSets, Cond.code yX0_forgetSets cX0_forgetSets 1 none, Cond.fieldLink RX0 21 "QuorumLock$Asker" "votes" "I", Cond.fieldLink RX0 24 "QuorumLock$Asker" "failures" "I", Cond.fieldLink RX0 27 "QuorumLock$Asker" "inquiries" "I", Cond.methodLink RX4 61 yX2_forgetAll, Cond.instanceMethod yX2_forgetAll, Cond.selects RX2 yX2_forgetAll yX2_forgetAll, Cond.code yX2_forgetAll cX2_forgetAll 1 none, Cond.fieldLink RX2 23 "QuorumLock$Row" "length" "I", Cond.methodLink RX2 20 yX2_takeHome, Cond.instanceMethod yX2_takeHome, Cond.selects RX2 yX2_takeHome yX2_takeHome, Cond.code yX2_takeHome cX2_takeHome 1 none, Cond.fieldLink RX2 27 "QuorumLock$Voter" "lentTo" "I"]
def wsL_law_r5 : List Cond := [Cond.fieldLink RX2 30 "QuorumLock$Voter" "lentTime" "I", Cond.fieldLink RX2 33 "QuorumLock$Voter" "inquired" "Z", Cond.methodLink RX4 64 yX3_emptyAll, Cond.instanceMethod yX3_emptyAll, Cond.selects RX3 yX3_emptyAll yX3_emptyAll, Cond.code yX3_emptyAll cX3_emptyAll 2 none, Cond.methodLink RL 20 yX5_init, Cond.instanceMethod yX5_init, Cond.code yX5_init cX5_init 2 none, Cond.methodLink RX5 1 objectInit, Cond.fieldLink RX5 7 "QuorumLockModel" "clock" "[I", Cond.fieldLink RX5 13 "QuorumLockModel" "state" "[I", Cond.fieldLink RX5 16 "QuorumLockModel" "time" "[I", Cond.fieldLink RX5 19 "QuorumLockModel" "votes" "[I", Cond.fieldLink RX5 22 "QuorumLockModel" "failures" "[I", Cond.fieldLink RX5 25 "QuorumLockModel" "inquiries" "[I", Cond.fieldLink RX5 28 "QuorumLockModel" "lent" "[I", Cond.fieldLink RX5 31 "QuorumLockModel" "lentTime" "[I", Cond.arrayClass .boolean, Cond.fieldLink RX5 34 "QuorumLockModel" "inquired" "[Z", Cond.fieldLink RX5 38 "QuorumLockModel" "rows" "[I", Cond.fieldLink RX5 41 "QuorumLockModel" "rowNode" "[I", Cond.fieldLink RX5 44 "QuorumLockModel" "rowTime" "[I", Cond.fieldLink RX5 47 "QuorumLockModel" "lying" "[I"]
def wsL_law_r6 : List Cond := [Cond.fieldLink RX5 50 "QuorumLockModel" "kinds" "[I", Cond.fieldLink RX5 53 "QuorumLockModel" "times" "[I", Cond.fieldLink RX5 56 "QuorumLockModel" "clocks" "[I", Cond.fieldLink RX5 59 "QuorumLockModel" "k" "I", Cond.fieldLink RX5 63 "QuorumLockModel" "n" "I", Cond.methodLink RX5 66 yX5_init_, Cond.instanceMethod yX5_init_, Cond.selects RX5 yX5_init_ yX5_init_, Cond.code yX5_init_ cX5_init_ 2 none, Cond.fieldLink RX5 69 "QuorumLockModel" "entered" "I", Cond.methodLink RL 21 yX4_init_, Cond.methodLink RL 24 yX5_init_, Cond.methodLink RL 25 yX4_request, Cond.instanceMethod yX4_request, Cond.selects RX4 yX4_request yX4_request, Cond.code yX4_request cX4_request 3 (some .int), Cond.fieldLink RX4 74 "QuorumLock$Asker" "state" "I", Cond.fieldLink RX4 80 "QuorumLock$Asker" "time" "I", Cond.methodLink RX4 70 yX4_isNode, Cond.instanceMethod yX4_isNode, Cond.selects RX4 yX4_isNode yX4_isNode, Cond.code yX4_isNode cX4_isNode 2 (some .boolean), Cond.methodLink RX4 77 yX0_becomeAsking, Cond.instanceMethod yX0_becomeAsking]
def wsL_law_r7 : List Cond := [Cond.selects RX0 yX0_becomeAsking yX0_becomeAsking, Cond.code yX0_becomeAsking cX0_becomeAsking 2 none, Cond.methodLink RX4 83 yX4_sendToQuorum, Cond.instanceMethod yX4_sendToQuorum, Cond.selects RX4 yX4_sendToQuorum yX4_sendToQuorum, Cond.code yX4_sendToQuorum cX4_sendToQuorum 5 none, Cond.methodLink RX4 146 yX4_has, Cond.static yX4_has, Cond.code yX4_has cX4_has 2 (some .boolean), Cond.methodLink RX4 149 yX4_send, Cond.instanceMethod yX4_send, Cond.selects RX4 yX4_send yX4_send, Cond.code yX4_send cX4_send 5 none, Cond.methodLink RX4 142 yX3_add, Cond.instanceMethod yX3_add, Cond.selects RX3 yX3_add yX3_add, Cond.code yX3_add cX3_add 8 none, Cond.methodLink RX3 28 yX3_wireOf, Cond.instanceMethod yX3_wireOf, Cond.selects RX3 yX3_wireOf yX3_wireOf, Cond.code yX3_wireOf cX3_wireOf 3 (some .int), Cond.methodLink RX3 32 yX3_slotOf, Cond.instanceMethod yX3_slotOf, Cond.selects RX3 yX3_slotOf yX3_slotOf]
def wsL_law_r8 : List Cond := [Cond.code yX3_slotOf cX3_slotOf 3 (some .int), Cond.methodLink RL 29 yX5_request, Cond.instanceMethod yX5_request, Cond.selects RX5 yX5_request yX5_request, Cond.code yX5_request cX5_request 2 (some .int), Cond.methodLink RX5 80 yX5_isNode, Cond.instanceMethod yX5_isNode, Cond.selects RX5 yX5_isNode yX5_isNode, Cond.code yX5_isNode cX5_isNode 2 (some .boolean), Cond.methodLink RX5 84 yX5_empty, Cond.instanceMethod yX5_empty, Cond.selects RX5 yX5_empty yX5_empty, Cond.code yX5_empty cX5_empty 2 none, Cond.methodLink RX5 88 yX5_sendAll, Cond.instanceMethod yX5_sendAll, Cond.selects RX5 yX5_sendAll yX5_sendAll, Cond.code yX5_sendAll cX5_sendAll 5 none, Cond.methodLink RX5 72 yX5_quorum, Cond.instanceMethod yX5_quorum, Cond.selects RX5 yX5_quorum yX5_quorum, Cond.code yX5_quorum cX5_quorum 4 (some .int), Cond.methodLink RX5 76 yX5_send, Cond.instanceMethod yX5_send, Cond.selects RX5 yX5_send yX5_send]
def wsL_law_r9 : List Cond := [Cond.code yX5_send cX5_send 7 none, Cond.methodLink RL 30 yX4_deliver, Cond.instanceMethod yX4_deliver, Cond.selects RX4 yX4_deliver yX4_deliver, Cond.code yX4_deliver cX4_deliver 3 (some .int), Cond.methodLink RX4 87 yX4_isWire, Cond.instanceMethod yX4_isWire, Cond.selects RX4 yX4_isWire yX4_isWire, Cond.code yX4_isWire cX4_isWire 3 (some .boolean), Cond.methodLink RX4 91 yX4_deliverOldest, Cond.instanceMethod yX4_deliverOldest, Cond.selects RX4 yX4_deliverOldest yX4_deliverOldest, Cond.code yX4_deliverOldest cX4_deliverOldest 5 (some .int), Cond.methodLink RX4 113 yX3_count, Cond.instanceMethod yX3_count, Cond.selects RX3 yX3_count yX3_count, Cond.code yX3_count cX3_count 3 (some .int), Cond.methodLink RX4 116 yX3_part, Cond.instanceMethod yX3_part, Cond.selects RX3 yX3_part yX3_part, Cond.code yX3_part cX3_part 6 (some .int), Cond.methodLink RX4 153 yX3_dropOldest, Cond.instanceMethod yX3_dropOldest, Cond.selects RX3 yX3_dropOldest yX3_dropOldest]
def wsL_law_r10 : List Cond := [Cond.code yX3_dropOldest cX3_dropOldest 4 none, Cond.methodLink RX4 157 yX4_weighRequest, Cond.instanceMethod yX4_weighRequest, Cond.selects RX4 yX4_weighRequest yX4_weighRequest, Cond.code yX4_weighRequest cX4_weighRequest 7 none, Cond.fieldLink RX4 103 "QuorumLock$Voter" "lentTo" "I", Cond.fieldLink RX4 130 "QuorumLock$Voter" "row" "LQuorumLock$Row;", Cond.methodLink RX4 185 yX4_lend, Cond.instanceMethod yX4_lend, Cond.selects RX4 yX4_lend yX4_lend, Cond.code yX4_lend cX4_lend 4 none, Cond.methodLink RX4 210 yX2_lendTo, Cond.instanceMethod yX2_lendTo, Cond.selects RX2 yX2_lendTo yX2_lendTo, Cond.code yX2_lendTo cX2_lendTo 3 none, Cond.methodLink RX4 188 yX2_isPressed, Cond.instanceMethod yX2_isPressed, Cond.selects RX2 yX2_isPressed yX2_isPressed, Cond.code yX2_isPressed cX2_isPressed 1 (some .boolean), Cond.methodLink RX2 37 yX1_nodeAt, Cond.instanceMethod yX1_nodeAt, Cond.selects RX1 yX1_nodeAt yX1_nodeAt, Cond.code yX1_nodeAt cX1_nodeAt 2 (some .int), Cond.fieldLink RX1 18 "QuorumLock$Row" "length" "I"]
def wsL_law_r11 : List Cond := [Cond.methodLink RX2 41 yX1_timeAt, Cond.instanceMethod yX1_timeAt, Cond.selects RX1 yX1_timeAt yX1_timeAt, Cond.code yX1_timeAt cX1_timeAt 2 (some .int), Cond.static yX4_isBefore, Cond.code yX4_isBefore cX4_isBefore 4 (some .boolean), Cond.methodLink RX4 192 yX1_insert, Cond.instanceMethod yX1_insert, Cond.selects RX1 yX1_insert yX1_insert, Cond.code yX1_insert cX1_insert 4 (some .int), Cond.methodLink RX4 139 yX1_nodeAt, Cond.methodLink RX4 195 yX1_timeAt, Cond.methodLink RX4 198 yX4_inquireOnce, Cond.instanceMethod yX4_inquireOnce, Cond.selects RX4 yX4_inquireOnce yX4_inquireOnce, Cond.code yX4_inquireOnce cX4_inquireOnce 3 none, Cond.fieldLink RX4 126 "QuorumLock$Voter" "inquired" "Z", Cond.fieldLink RX4 201 "QuorumLock$Voter" "lentTime" "I", Cond.methodLink RX4 160 yX4_hearLocked, Cond.instanceMethod yX4_hearLocked, Cond.selects RX4 yX4_hearLocked yX4_hearLocked, Cond.code yX4_hearLocked cX4_hearLocked 5 none, Cond.methodLink RX4 173 yX0_gainVote, Cond.instanceMethod yX0_gainVote]
def wsL_law_r12 : List Cond := [Cond.selects RX0 yX0_gainVote yX0_gainVote, Cond.code yX0_gainVote cX0_gainVote 2 none, Cond.methodLink RX4 163 yX4_takeVoteBack, Cond.instanceMethod yX4_takeVoteBack, Cond.selects RX4 yX4_takeVoteBack yX4_takeVoteBack, Cond.code yX4_takeVoteBack cX4_takeVoteBack 8 none, Cond.fieldLink RX4 134 "QuorumLock$Row" "length" "I", Cond.methodLink RX4 204 yX2_takeHome, Cond.methodLink RX4 207 yX1_removeFirst, Cond.instanceMethod yX1_removeFirst, Cond.selects RX1 yX1_removeFirst yX1_removeFirst, Cond.code yX1_removeFirst cX1_removeFirst 2 none, Cond.methodLink RX1 26 Lib.Math.max.name, Cond.methodLink RX4 167 yX4_hearInquire, Cond.instanceMethod yX4_hearInquire, Cond.selects RX4 yX4_hearInquire yX4_hearInquire, Cond.code yX4_hearInquire cX4_hearInquire 5 none, Cond.fieldLink RX4 94 "QuorumLock$Asker" "votes" "I", Cond.fieldLink RX4 120 "QuorumLock$Asker" "failures" "I", Cond.fieldLink RX4 123 "QuorumLock$Asker" "inquiries" "I", Cond.methodLink RX4 176 yX0_isAsking, Cond.instanceMethod yX0_isAsking, Cond.selects RX0 yX0_isAsking yX0_isAsking, Cond.code yX0_isAsking cX0_isAsking 2 (some .boolean)]
def wsL_law_r13 : List Cond := [Cond.methodLink RX4 179 yX4_giveUp, Cond.instanceMethod yX4_giveUp, Cond.selects RX4 yX4_giveUp yX4_giveUp, Cond.code yX4_giveUp cX4_giveUp 4 none, Cond.methodLink RX4 182 yX0_loseVote, Cond.instanceMethod yX0_loseVote, Cond.selects RX0 yX0_loseVote yX0_loseVote, Cond.code yX0_loseVote cX0_loseVote 2 none, Cond.methodLink RX4 170 yX4_hearFailed, Cond.instanceMethod yX4_hearFailed, Cond.selects RX4 yX4_hearFailed yX4_hearFailed, Cond.code yX4_hearFailed cX4_hearFailed 6 none, Cond.methodLink RL 34 yX5_deliver, Cond.instanceMethod yX5_deliver, Cond.selects RX5 yX5_deliver yX5_deliver, Cond.code yX5_deliver cX5_deliver 9 (some .int), Cond.methodLink RX5 107 yX5_asked, Cond.instanceMethod yX5_asked, Cond.selects RX5 yX5_asked yX5_asked, Cond.code yX5_asked cX5_asked 7 none, Cond.methodLink RX5 100 yX5_lend, Cond.instanceMethod yX5_lend, Cond.selects RX5 yX5_lend yX5_lend, Cond.code yX5_lend cX5_lend 4 none]
def wsL_law_r14 : List Cond := [Cond.methodLink RX5 103 yX5_line, Cond.instanceMethod yX5_line, Cond.selects RX5 yX5_line yX5_line, Cond.code yX5_line cX5_line 5 (some .int), Cond.methodLink RX5 96 yX5_isBefore, Cond.static yX5_isBefore, Cond.code yX5_isBefore cX5_isBefore 4 (some .boolean), Cond.methodLink RX5 110 yX5_home, Cond.instanceMethod yX5_home, Cond.selects RX5 yX5_home yX5_home, Cond.code yX5_home cX5_home 8 none, Cond.methodLink RX5 114 yX5_answer, Cond.instanceMethod yX5_answer, Cond.selects RX5 yX5_answer yX5_answer, Cond.code yX5_answer cX5_answer 6 none, Cond.methodLink RX5 92 yX5_giveUp, Cond.instanceMethod yX5_giveUp, Cond.selects RX5 yX5_giveUp yX5_giveUp, Cond.code yX5_giveUp cX5_giveUp 3 none, Cond.methodLink RL 35 yX4_enter, Cond.instanceMethod yX4_enter, Cond.selects RX4 yX4_enter yX4_enter, Cond.code yX4_enter cX4_enter 3 (some .boolean), Cond.methodLink RL 39 yX5_enter]
def wsL_law_r15 : List Cond := [Cond.instanceMethod yX5_enter, Cond.selects RX5 yX5_enter yX5_enter, Cond.code yX5_enter cX5_enter 2 (some .boolean), Cond.methodLink RL 40 yX4_release, Cond.instanceMethod yX4_release, Cond.selects RX4 yX4_release yX4_release, Cond.code yX4_release cX4_release 4 (some .int), Cond.methodLink RL 43 yX5_release, Cond.instanceMethod yX5_release, Cond.selects RX5 yX5_release yX5_release, Cond.code yX5_release cX5_release 3 (some .int), Cond.methodLink RL 44 yX4_holder, Cond.instanceMethod yX4_holder, Cond.selects RX4 yX4_holder yX4_holder, Cond.code yX4_holder cX4_holder 2 (some .int), Cond.methodLink RL 48 yX5_holder, Cond.instanceMethod yX5_holder, Cond.selects RX5 yX5_holder yX5_holder, Cond.code yX5_holder cX5_holder 2 (some .int), Cond.methodLink RL 49 yX4_votesOf, Cond.instanceMethod yX4_votesOf, Cond.selects RX4 yX4_votesOf yX4_votesOf, Cond.code yX4_votesOf cX4_votesOf 2 (some .int), Cond.methodLink RX4 97 yJ6_bitCount_0f7a4]
def wsL_law_r16 : List Cond := [Cond.static yJ6_bitCount_0f7a4, Cond.initialized RJ6, Cond.code yJ6_bitCount_0f7a4 cJ6_bitCount_0f7a4 1 (some .int), Cond.constant RJ6 265 (1431655765), Cond.constant RJ6 266 (858993459), Cond.constant RJ6 267 (252645135), Cond.methodLink RL 52 yX5_votesOf, Cond.instanceMethod yX5_votesOf, Cond.selects RX5 yX5_votesOf yX5_votesOf, Cond.code yX5_votesOf cX5_votesOf 2 (some .int), Cond.methodLink RX5 121 yX5_count, Cond.instanceMethod yX5_count, Cond.selects RX5 yX5_count yX5_count, Cond.code yX5_count cX5_count 4 (some .int), Cond.methodLink RL 53 yX4_lockedFor, Cond.instanceMethod yX4_lockedFor, Cond.selects RX4 yX4_lockedFor yX4_lockedFor, Cond.code yX4_lockedFor cX4_lockedFor 2 (some .int), Cond.methodLink RL 56 yX5_lockedFor, Cond.instanceMethod yX5_lockedFor, Cond.selects RX5 yX5_lockedFor yX5_lockedFor, Cond.code yX5_lockedFor cX5_lockedFor 2 (some .int), Cond.methodLink RL 57 yX4_settle, Cond.instanceMethod yX4_settle]
def wsL_law_r17 : List Cond := [Cond.selects RX4 yX4_settle yX4_settle, Cond.code yX4_settle cX4_settle 5 (some .int), Cond.methodLink RX4 106 yX3_leastFrom, Cond.instanceMethod yX3_leastFrom, Cond.selects RX3 yX3_leastFrom yX3_leastFrom, Cond.code yX3_leastFrom cX3_leastFrom 2 (some .int), Cond.methodLink RX4 110 yX3_leastTo, Cond.instanceMethod yX3_leastTo, Cond.selects RX3 yX3_leastTo yX3_leastTo, Cond.code yX3_leastTo cX3_leastTo 3 (some .int), Cond.methodLink RX3 35 yX3_count, Cond.methodLink RL 60 yX5_settle, Cond.instanceMethod yX5_settle, Cond.selects RX5 yX5_settle yX5_settle, Cond.code yX5_settle cX5_settle 5 (some .int), Cond.methodLink RX5 117 yX5_deliver, Cond.methodLink RL 61 yX4_waiting, Cond.instanceMethod yX4_waiting, Cond.selects RX4 yX4_waiting yX4_waiting, Cond.code yX4_waiting cX4_waiting 3 (some .int), Cond.methodLink RL 64 yX5_waiting, Cond.instanceMethod yX5_waiting, Cond.selects RX5 yX5_waiting yX5_waiting, Cond.code yX5_waiting cX5_waiting 3 (some .int)]
def wsL_law_r18 : List Cond := [Cond.methodLink RL 65 yX4_look, Cond.instanceMethod yX4_look, Cond.selects RX4 yX4_look yX4_look, Cond.code yX4_look cX4_look 5 (some .int), Cond.methodLink RL 69 yX5_look, Cond.instanceMethod yX5_look, Cond.selects RX5 yX5_look yX5_look, Cond.code yX5_look cX5_look 6 (some .int), Cond.methodLink RL 70 yX4_told, Cond.instanceMethod yX4_told, Cond.selects RX4 yX4_told yX4_told, Cond.code yX4_told cX4_told 5 (some .int), Cond.methodLink RL 73 yX5_told, Cond.instanceMethod yX5_told, Cond.selects RX5 yX5_told yX5_told, Cond.code yX5_told cX5_told 3 (some .int), Cond.methodLink RL 74 yX4_waits, Cond.instanceMethod yX4_waits, Cond.selects RX4 yX4_waits yX4_waits, Cond.code yX4_waits cX4_waits 3 (some .int), Cond.methodLink RL 77 yX5_waits, Cond.instanceMethod yX5_waits, Cond.selects RX5 yX5_waits yX5_waits, Cond.code yX5_waits cX5_waits 3 (some .int)]
def wsL_law_r19 : List Cond := [Cond.methodLink RL 78 yX4_entered, Cond.instanceMethod yX4_entered, Cond.selects RX4 yX4_entered yX4_entered, Cond.code yX4_entered cX4_entered 1 (some .int), Cond.methodLink RL 81 yX5_entered, Cond.instanceMethod yX5_entered, Cond.selects RX5 yX5_entered yX5_entered, Cond.code yX5_entered cX5_entered 1 (some .int)]
def wsL_law : List Cond := (wsL_law_r1 ++ (wsL_law_r2 ++ (wsL_law_r3 ++ (wsL_law_r4 ++ (wsL_law_r5 ++ (wsL_law_r6 ++ (wsL_law_r7 ++ (wsL_law_r8 ++ (wsL_law_r9 ++ (wsL_law_r10 ++ (wsL_law_r11 ++ (wsL_law_r12 ++ (wsL_law_r13 ++ (wsL_law_r14 ++ (wsL_law_r15 ++ (wsL_law_r16 ++ (wsL_law_r17 ++ (wsL_law_r18 ++ wsL_law_r19)))))))))))))))))) ++ wsX40 ++ wsX50 ++ wsX30 ++ wsX00 ++ wsX20 ++ wsX10 ++ ([] : List Cond)
abbrev vwCl : List vw_C := [(RX0, TX0, 5), (RX1, TX1, 3), (RX2, TX2, 4), (RX3, TX3, 5), (RX4, TX4, 7), (RX5, TX5, 19)]
end
section
theorem dX0_init_0 : decode cX0_init 0 = .ok (.aload_n 0, 1) := by decide +kernel
theorem dX0_init_1 : decode cX0_init 1 = .ok (.invokespecial 3, 3) := by decide +kernel
theorem dX0_init_4 : decode cX0_init 4 = .ok (.return_, 1) := by decide +kernel
set_option maxRecDepth 20000 in
theorem ggX0_becomeIdle_X0_forgetSets : GoodIn wsX0_becomeIdle wsX0_forgetSets := goodIn_r _ [7, 8, 9, 10, 11, 12, 13, 14, 15] (by decide +kernel) (by decide +kernel)
set_option maxRecDepth 20000 in
theorem gX0_becomeIdle_X0_forgetSets : GoodIn wsX0_becomeIdle (wsV RX0 18 RX0 yX0_forgetSets wsX0_forgetSets) := goodIn_app (goodIn_of _ (by decide +kernel)) ggX0_becomeIdle_X0_forgetSets
theorem dX0_becomeIdle_0 : decode cX0_becomeIdle 0 = .ok (.aload_n 0, 1) := by decide +kernel
theorem dX0_becomeIdle_1 : decode cX0_becomeIdle 1 = .ok (.iconst 0, 1) := by decide +kernel
theorem dX0_becomeIdle_2 : decode cX0_becomeIdle 2 = .ok (.putfield 9, 3) := by decide +kernel
theorem dX0_becomeIdle_5 : decode cX0_becomeIdle 5 = .ok (.aload_n 0, 1) := by decide +kernel
theorem dX0_becomeIdle_6 : decode cX0_becomeIdle 6 = .ok (.iconst 0, 1) := by decide +kernel
theorem dX0_becomeIdle_7 : decode cX0_becomeIdle 7 = .ok (.putfield 15, 3) := by decide +kernel
theorem dX0_becomeIdle_10 : decode cX0_becomeIdle 10 = .ok (.aload_n 0, 1) := by decide +kernel
theorem dX0_becomeIdle_11 : decode cX0_becomeIdle 11 = .ok (.invokevirtual 18, 3) := by decide +kernel
theorem dX0_becomeIdle_14 : decode cX0_becomeIdle 14 = .ok (.return_, 1) := by decide +kernel
set_option maxRecDepth 20000 in
theorem ggX0_becomeAsking_X0_forgetSets : GoodIn wsX0_becomeAsking wsX0_forgetSets := goodIn_r _ [7, 8, 9, 10, 11, 12, 13, 14, 15] (by decide +kernel) (by decide +kernel)
set_option maxRecDepth 20000 in
theorem gX0_becomeAsking_X0_forgetSets : GoodIn wsX0_becomeAsking (wsV RX0 18 RX0 yX0_forgetSets wsX0_forgetSets) := goodIn_app (goodIn_of _ (by decide +kernel)) ggX0_becomeAsking_X0_forgetSets
theorem dX0_becomeAsking_0 : decode cX0_becomeAsking 0 = .ok (.aload_n 0, 1) := by decide +kernel
theorem dX0_becomeAsking_1 : decode cX0_becomeAsking 1 = .ok (.iconst 1, 1) := by decide +kernel
theorem dX0_becomeAsking_2 : decode cX0_becomeAsking 2 = .ok (.putfield 9, 3) := by decide +kernel
theorem dX0_becomeAsking_5 : decode cX0_becomeAsking 5 = .ok (.aload_n 0, 1) := by decide +kernel
theorem dX0_becomeAsking_6 : decode cX0_becomeAsking 6 = .ok (.iload_n 1, 1) := by decide +kernel
theorem dX0_becomeAsking_7 : decode cX0_becomeAsking 7 = .ok (.putfield 15, 3) := by decide +kernel
theorem dX0_becomeAsking_10 : decode cX0_becomeAsking 10 = .ok (.aload_n 0, 1) := by decide +kernel
theorem dX0_becomeAsking_11 : decode cX0_becomeAsking 11 = .ok (.invokevirtual 18, 3) := by decide +kernel
theorem dX0_becomeAsking_14 : decode cX0_becomeAsking 14 = .ok (.return_, 1) := by decide +kernel
theorem dX0_isAsking_0 : decode cX0_isAsking 0 = .ok (.aload_n 0, 1) := by decide +kernel
theorem dX0_isAsking_1 : decode cX0_isAsking 1 = .ok (.getfield 9, 3) := by decide +kernel
theorem dX0_isAsking_4 : decode cX0_isAsking 4 = .ok (.iconst 1, 1) := by decide +kernel
theorem dX0_isAsking_5 : decode cX0_isAsking 5 = .ok (.if_icmp .ne 15, 3) := by decide +kernel
theorem dX0_isAsking_8 : decode cX0_isAsking 8 = .ok (.aload_n 0, 1) := by decide +kernel
theorem dX0_isAsking_9 : decode cX0_isAsking 9 = .ok (.getfield 15, 3) := by decide +kernel
theorem dX0_isAsking_12 : decode cX0_isAsking 12 = .ok (.iload_n 1, 1) := by decide +kernel
theorem dX0_isAsking_13 : decode cX0_isAsking 13 = .ok (.if_icmp .ne 7, 3) := by decide +kernel
theorem dX0_isAsking_16 : decode cX0_isAsking 16 = .ok (.iconst 1, 1) := by decide +kernel
theorem dX0_isAsking_17 : decode cX0_isAsking 17 = .ok (.goto 4, 3) := by decide +kernel
theorem dX0_isAsking_20 : decode cX0_isAsking 20 = .ok (.iconst 0, 1) := by decide +kernel
theorem dX0_isAsking_21 : decode cX0_isAsking 21 = .ok (.ireturn, 1) := by decide +kernel
theorem dX0_gainVote_0 : decode cX0_gainVote 0 = .ok (.aload_n 0, 1) := by decide +kernel
theorem dX0_gainVote_1 : decode cX0_gainVote 1 = .ok (.dup, 1) := by decide +kernel
theorem dX0_gainVote_2 : decode cX0_gainVote 2 = .ok (.getfield 21, 3) := by decide +kernel
theorem dX0_gainVote_5 : decode cX0_gainVote 5 = .ok (.iconst 1, 1) := by decide +kernel
theorem dX0_gainVote_6 : decode cX0_gainVote 6 = .ok (.iload_n 1, 1) := by decide +kernel
theorem dX0_gainVote_7 : decode cX0_gainVote 7 = .ok (.ishl, 1) := by decide +kernel
theorem dX0_gainVote_8 : decode cX0_gainVote 8 = .ok (.ior, 1) := by decide +kernel
theorem dX0_gainVote_9 : decode cX0_gainVote 9 = .ok (.putfield 21, 3) := by decide +kernel
theorem dX0_gainVote_12 : decode cX0_gainVote 12 = .ok (.aload_n 0, 1) := by decide +kernel
theorem dX0_gainVote_13 : decode cX0_gainVote 13 = .ok (.dup, 1) := by decide +kernel
theorem dX0_gainVote_14 : decode cX0_gainVote 14 = .ok (.getfield 24, 3) := by decide +kernel
theorem dX0_gainVote_17 : decode cX0_gainVote 17 = .ok (.iconst 1, 1) := by decide +kernel
theorem dX0_gainVote_18 : decode cX0_gainVote 18 = .ok (.iload_n 1, 1) := by decide +kernel
theorem dX0_gainVote_19 : decode cX0_gainVote 19 = .ok (.ishl, 1) := by decide +kernel
theorem dX0_gainVote_20 : decode cX0_gainVote 20 = .ok (.iconst (-1), 1) := by decide +kernel
theorem dX0_gainVote_21 : decode cX0_gainVote 21 = .ok (.ixor, 1) := by decide +kernel
theorem dX0_gainVote_22 : decode cX0_gainVote 22 = .ok (.iand, 1) := by decide +kernel
theorem dX0_gainVote_23 : decode cX0_gainVote 23 = .ok (.putfield 24, 3) := by decide +kernel
theorem dX0_gainVote_26 : decode cX0_gainVote 26 = .ok (.return_, 1) := by decide +kernel
theorem dX0_loseVote_0 : decode cX0_loseVote 0 = .ok (.aload_n 0, 1) := by decide +kernel
theorem dX0_loseVote_1 : decode cX0_loseVote 1 = .ok (.dup, 1) := by decide +kernel
theorem dX0_loseVote_2 : decode cX0_loseVote 2 = .ok (.getfield 21, 3) := by decide +kernel
theorem dX0_loseVote_5 : decode cX0_loseVote 5 = .ok (.iconst 1, 1) := by decide +kernel
theorem dX0_loseVote_6 : decode cX0_loseVote 6 = .ok (.iload_n 1, 1) := by decide +kernel
theorem dX0_loseVote_7 : decode cX0_loseVote 7 = .ok (.ishl, 1) := by decide +kernel
theorem dX0_loseVote_8 : decode cX0_loseVote 8 = .ok (.iconst (-1), 1) := by decide +kernel
theorem dX0_loseVote_9 : decode cX0_loseVote 9 = .ok (.ixor, 1) := by decide +kernel
theorem dX0_loseVote_10 : decode cX0_loseVote 10 = .ok (.iand, 1) := by decide +kernel
theorem dX0_loseVote_11 : decode cX0_loseVote 11 = .ok (.putfield 21, 3) := by decide +kernel
theorem dX0_loseVote_14 : decode cX0_loseVote 14 = .ok (.aload_n 0, 1) := by decide +kernel
theorem dX0_loseVote_15 : decode cX0_loseVote 15 = .ok (.dup, 1) := by decide +kernel
theorem dX0_loseVote_16 : decode cX0_loseVote 16 = .ok (.getfield 27, 3) := by decide +kernel
theorem dX0_loseVote_19 : decode cX0_loseVote 19 = .ok (.iconst 1, 1) := by decide +kernel
theorem dX0_loseVote_20 : decode cX0_loseVote 20 = .ok (.iload_n 1, 1) := by decide +kernel
theorem dX0_loseVote_21 : decode cX0_loseVote 21 = .ok (.ishl, 1) := by decide +kernel
theorem dX0_loseVote_22 : decode cX0_loseVote 22 = .ok (.iconst (-1), 1) := by decide +kernel
theorem dX0_loseVote_23 : decode cX0_loseVote 23 = .ok (.ixor, 1) := by decide +kernel
theorem dX0_loseVote_24 : decode cX0_loseVote 24 = .ok (.iand, 1) := by decide +kernel
theorem dX0_loseVote_25 : decode cX0_loseVote 25 = .ok (.putfield 27, 3) := by decide +kernel
theorem dX0_loseVote_28 : decode cX0_loseVote 28 = .ok (.aload_n 0, 1) := by decide +kernel
theorem dX0_loseVote_29 : decode cX0_loseVote 29 = .ok (.dup, 1) := by decide +kernel
theorem dX0_loseVote_30 : decode cX0_loseVote 30 = .ok (.getfield 24, 3) := by decide +kernel
theorem dX0_loseVote_33 : decode cX0_loseVote 33 = .ok (.iconst 1, 1) := by decide +kernel
theorem dX0_loseVote_34 : decode cX0_loseVote 34 = .ok (.iload_n 1, 1) := by decide +kernel
theorem dX0_loseVote_35 : decode cX0_loseVote 35 = .ok (.ishl, 1) := by decide +kernel
theorem dX0_loseVote_36 : decode cX0_loseVote 36 = .ok (.ior, 1) := by decide +kernel
theorem dX0_loseVote_37 : decode cX0_loseVote 37 = .ok (.putfield 24, 3) := by decide +kernel
theorem dX0_loseVote_40 : decode cX0_loseVote 40 = .ok (.return_, 1) := by decide +kernel
theorem dX0_forgetSets_0 : decode cX0_forgetSets 0 = .ok (.aload_n 0, 1) := by decide +kernel
theorem dX0_forgetSets_1 : decode cX0_forgetSets 1 = .ok (.iconst 0, 1) := by decide +kernel
theorem dX0_forgetSets_2 : decode cX0_forgetSets 2 = .ok (.putfield 21, 3) := by decide +kernel
theorem dX0_forgetSets_5 : decode cX0_forgetSets 5 = .ok (.aload_n 0, 1) := by decide +kernel
theorem dX0_forgetSets_6 : decode cX0_forgetSets 6 = .ok (.iconst 0, 1) := by decide +kernel
theorem dX0_forgetSets_7 : decode cX0_forgetSets 7 = .ok (.putfield 24, 3) := by decide +kernel
theorem dX0_forgetSets_10 : decode cX0_forgetSets 10 = .ok (.aload_n 0, 1) := by decide +kernel
theorem dX0_forgetSets_11 : decode cX0_forgetSets 11 = .ok (.iconst 0, 1) := by decide +kernel
theorem dX0_forgetSets_12 : decode cX0_forgetSets 12 = .ok (.putfield 27, 3) := by decide +kernel
theorem dX0_forgetSets_15 : decode cX0_forgetSets 15 = .ok (.return_, 1) := by decide +kernel
theorem dX1_init_0 : decode cX1_init 0 = .ok (.aload_n 0, 1) := by decide +kernel
theorem dX1_init_1 : decode cX1_init 1 = .ok (.invokespecial 3, 3) := by decide +kernel
theorem dX1_init_4 : decode cX1_init 4 = .ok (.aload_n 0, 1) := by decide +kernel
theorem dX1_init_5 : decode cX1_init 5 = .ok (.iload_n 1, 1) := by decide +kernel
theorem dX1_init_6 : decode cX1_init 6 = .ok (.newarray .int, 2) := by decide +kernel
theorem dX1_init_8 : decode cX1_init 8 = .ok (.putfield 9, 3) := by decide +kernel
theorem dX1_init_11 : decode cX1_init 11 = .ok (.aload_n 0, 1) := by decide +kernel
theorem dX1_init_12 : decode cX1_init 12 = .ok (.iload_n 1, 1) := by decide +kernel
theorem dX1_init_13 : decode cX1_init 13 = .ok (.newarray .int, 2) := by decide +kernel
theorem dX1_init_15 : decode cX1_init 15 = .ok (.putfield 15, 3) := by decide +kernel
theorem dX1_init_18 : decode cX1_init 18 = .ok (.return_, 1) := by decide +kernel
theorem dX1_nodeAt_0 : decode cX1_nodeAt 0 = .ok (.iload_n 1, 1) := by decide +kernel
theorem dX1_nodeAt_1 : decode cX1_nodeAt 1 = .ok (.ifCond .lt 20, 3) := by decide +kernel
theorem dX1_nodeAt_4 : decode cX1_nodeAt 4 = .ok (.iload_n 1, 1) := by decide +kernel
theorem dX1_nodeAt_5 : decode cX1_nodeAt 5 = .ok (.aload_n 0, 1) := by decide +kernel
theorem dX1_nodeAt_6 : decode cX1_nodeAt 6 = .ok (.getfield 18, 3) := by decide +kernel
theorem dX1_nodeAt_9 : decode cX1_nodeAt 9 = .ok (.if_icmp .ge 12, 3) := by decide +kernel
theorem dX1_nodeAt_12 : decode cX1_nodeAt 12 = .ok (.aload_n 0, 1) := by decide +kernel
theorem dX1_nodeAt_13 : decode cX1_nodeAt 13 = .ok (.getfield 9, 3) := by decide +kernel
theorem dX1_nodeAt_16 : decode cX1_nodeAt 16 = .ok (.iload_n 1, 1) := by decide +kernel
theorem dX1_nodeAt_17 : decode cX1_nodeAt 17 = .ok (.iaload, 1) := by decide +kernel
theorem dX1_nodeAt_18 : decode cX1_nodeAt 18 = .ok (.goto 4, 3) := by decide +kernel
theorem dX1_nodeAt_21 : decode cX1_nodeAt 21 = .ok (.iconst (-1), 1) := by decide +kernel
theorem dX1_nodeAt_22 : decode cX1_nodeAt 22 = .ok (.ireturn, 1) := by decide +kernel
theorem dX1_timeAt_0 : decode cX1_timeAt 0 = .ok (.iload_n 1, 1) := by decide +kernel
theorem dX1_timeAt_1 : decode cX1_timeAt 1 = .ok (.ifCond .lt 20, 3) := by decide +kernel
theorem dX1_timeAt_4 : decode cX1_timeAt 4 = .ok (.iload_n 1, 1) := by decide +kernel
theorem dX1_timeAt_5 : decode cX1_timeAt 5 = .ok (.aload_n 0, 1) := by decide +kernel
theorem dX1_timeAt_6 : decode cX1_timeAt 6 = .ok (.getfield 18, 3) := by decide +kernel
theorem dX1_timeAt_9 : decode cX1_timeAt 9 = .ok (.if_icmp .ge 12, 3) := by decide +kernel
theorem dX1_timeAt_12 : decode cX1_timeAt 12 = .ok (.aload_n 0, 1) := by decide +kernel
theorem dX1_timeAt_13 : decode cX1_timeAt 13 = .ok (.getfield 15, 3) := by decide +kernel
theorem dX1_timeAt_16 : decode cX1_timeAt 16 = .ok (.iload_n 1, 1) := by decide +kernel
theorem dX1_timeAt_17 : decode cX1_timeAt 17 = .ok (.iaload, 1) := by decide +kernel
theorem dX1_timeAt_18 : decode cX1_timeAt 18 = .ok (.goto 4, 3) := by decide +kernel
theorem dX1_timeAt_21 : decode cX1_timeAt 21 = .ok (.iconst (-1), 1) := by decide +kernel
theorem dX1_timeAt_22 : decode cX1_timeAt 22 = .ok (.ireturn, 1) := by decide +kernel
set_option maxRecDepth 20000 in
theorem ggX1_insert_X4_isBefore : GoodIn wsX1_insert wsX4_isBefore := goodIn_r _ [6] (by decide +kernel) (by decide +kernel)
set_option maxRecDepth 20000 in
theorem gX1_insert_X4_isBefore_n22 : GoodIn wsX1_insert (wsX4_isBefore) := ggX1_insert_X4_isBefore
theorem dX1_insert_0 : decode cX1_insert 0 = .ok (.aload_n 0, 1) := by decide +kernel
theorem dX1_insert_1 : decode cX1_insert 1 = .ok (.getfield 18, 3) := by decide +kernel
theorem dX1_insert_4 : decode cX1_insert 4 = .ok (.aload_n 0, 1) := by decide +kernel
theorem dX1_insert_5 : decode cX1_insert 5 = .ok (.getfield 9, 3) := by decide +kernel
theorem dX1_insert_8 : decode cX1_insert 8 = .ok (.arraylength, 1) := by decide +kernel
theorem dX1_insert_9 : decode cX1_insert 9 = .ok (.if_icmp .lt 5, 3) := by decide +kernel
theorem dX1_insert_12 : decode cX1_insert 12 = .ok (.iconst (-1), 1) := by decide +kernel
theorem dX1_insert_13 : decode cX1_insert 13 = .ok (.ireturn, 1) := by decide +kernel
theorem dX1_insert_14 : decode cX1_insert 14 = .ok (.aload_n 0, 1) := by decide +kernel
theorem dX1_insert_15 : decode cX1_insert 15 = .ok (.getfield 18, 3) := by decide +kernel
theorem dX1_insert_18 : decode cX1_insert 18 = .ok (.istore_n 3, 1) := by decide +kernel
theorem dX1_insert_19 : decode cX1_insert 19 = .ok (.iload_n 3, 1) := by decide +kernel
theorem dX1_insert_20 : decode cX1_insert 20 = .ok (.ifCond .le 61, 3) := by decide +kernel
theorem dX1_insert_23 : decode cX1_insert 23 = .ok (.iload_n 1, 1) := by decide +kernel
theorem dX1_insert_24 : decode cX1_insert 24 = .ok (.iload_n 2, 1) := by decide +kernel
theorem dX1_insert_25 : decode cX1_insert 25 = .ok (.aload_n 0, 1) := by decide +kernel
theorem dX1_insert_26 : decode cX1_insert 26 = .ok (.getfield 9, 3) := by decide +kernel
theorem dX1_insert_29 : decode cX1_insert 29 = .ok (.iload_n 3, 1) := by decide +kernel
theorem dX1_insert_30 : decode cX1_insert 30 = .ok (.iconst 1, 1) := by decide +kernel
theorem dX1_insert_31 : decode cX1_insert 31 = .ok (.isub, 1) := by decide +kernel
theorem dX1_insert_32 : decode cX1_insert 32 = .ok (.iaload, 1) := by decide +kernel
theorem dX1_insert_33 : decode cX1_insert 33 = .ok (.aload_n 0, 1) := by decide +kernel
theorem dX1_insert_34 : decode cX1_insert 34 = .ok (.getfield 15, 3) := by decide +kernel
theorem dX1_insert_37 : decode cX1_insert 37 = .ok (.iload_n 3, 1) := by decide +kernel
theorem dX1_insert_38 : decode cX1_insert 38 = .ok (.iconst 1, 1) := by decide +kernel
theorem dX1_insert_39 : decode cX1_insert 39 = .ok (.isub, 1) := by decide +kernel
theorem dX1_insert_40 : decode cX1_insert 40 = .ok (.iaload, 1) := by decide +kernel
theorem dX1_insert_41 : decode cX1_insert 41 = .ok (.invokestatic 22, 3) := by decide +kernel
theorem dX1_insert_44 : decode cX1_insert 44 = .ok (.ifCond .eq 37, 3) := by decide +kernel
theorem dX1_insert_47 : decode cX1_insert 47 = .ok (.aload_n 0, 1) := by decide +kernel
theorem dX1_insert_48 : decode cX1_insert 48 = .ok (.getfield 9, 3) := by decide +kernel
theorem dX1_insert_51 : decode cX1_insert 51 = .ok (.iload_n 3, 1) := by decide +kernel
theorem dX1_insert_52 : decode cX1_insert 52 = .ok (.aload_n 0, 1) := by decide +kernel
theorem dX1_insert_53 : decode cX1_insert 53 = .ok (.getfield 9, 3) := by decide +kernel
theorem dX1_insert_56 : decode cX1_insert 56 = .ok (.iload_n 3, 1) := by decide +kernel
theorem dX1_insert_57 : decode cX1_insert 57 = .ok (.iconst 1, 1) := by decide +kernel
theorem dX1_insert_58 : decode cX1_insert 58 = .ok (.isub, 1) := by decide +kernel
theorem dX1_insert_59 : decode cX1_insert 59 = .ok (.iaload, 1) := by decide +kernel
theorem dX1_insert_60 : decode cX1_insert 60 = .ok (.iastore, 1) := by decide +kernel
theorem dX1_insert_61 : decode cX1_insert 61 = .ok (.aload_n 0, 1) := by decide +kernel
theorem dX1_insert_62 : decode cX1_insert 62 = .ok (.getfield 15, 3) := by decide +kernel
theorem dX1_insert_65 : decode cX1_insert 65 = .ok (.iload_n 3, 1) := by decide +kernel
theorem dX1_insert_66 : decode cX1_insert 66 = .ok (.aload_n 0, 1) := by decide +kernel
theorem dX1_insert_67 : decode cX1_insert 67 = .ok (.getfield 15, 3) := by decide +kernel
theorem dX1_insert_70 : decode cX1_insert 70 = .ok (.iload_n 3, 1) := by decide +kernel
theorem dX1_insert_71 : decode cX1_insert 71 = .ok (.iconst 1, 1) := by decide +kernel
theorem dX1_insert_72 : decode cX1_insert 72 = .ok (.isub, 1) := by decide +kernel
theorem dX1_insert_73 : decode cX1_insert 73 = .ok (.iaload, 1) := by decide +kernel
theorem dX1_insert_74 : decode cX1_insert 74 = .ok (.iastore, 1) := by decide +kernel
theorem dX1_insert_75 : decode cX1_insert 75 = .ok (.iinc 3 (-1), 3) := by decide +kernel
theorem dX1_insert_78 : decode cX1_insert 78 = .ok (.goto (-59), 3) := by decide +kernel
theorem dX1_insert_81 : decode cX1_insert 81 = .ok (.aload_n 0, 1) := by decide +kernel
theorem dX1_insert_82 : decode cX1_insert 82 = .ok (.getfield 9, 3) := by decide +kernel
theorem dX1_insert_85 : decode cX1_insert 85 = .ok (.iload_n 3, 1) := by decide +kernel
theorem dX1_insert_86 : decode cX1_insert 86 = .ok (.iload_n 1, 1) := by decide +kernel
theorem dX1_insert_87 : decode cX1_insert 87 = .ok (.iastore, 1) := by decide +kernel
theorem dX1_insert_88 : decode cX1_insert 88 = .ok (.aload_n 0, 1) := by decide +kernel
theorem dX1_insert_89 : decode cX1_insert 89 = .ok (.getfield 15, 3) := by decide +kernel
theorem dX1_insert_92 : decode cX1_insert 92 = .ok (.iload_n 3, 1) := by decide +kernel
theorem dX1_insert_93 : decode cX1_insert 93 = .ok (.iload_n 2, 1) := by decide +kernel
theorem dX1_insert_94 : decode cX1_insert 94 = .ok (.iastore, 1) := by decide +kernel
theorem dX1_insert_95 : decode cX1_insert 95 = .ok (.aload_n 0, 1) := by decide +kernel
theorem dX1_insert_96 : decode cX1_insert 96 = .ok (.dup, 1) := by decide +kernel
theorem dX1_insert_97 : decode cX1_insert 97 = .ok (.getfield 18, 3) := by decide +kernel
theorem dX1_insert_100 : decode cX1_insert 100 = .ok (.iconst 1, 1) := by decide +kernel
theorem dX1_insert_101 : decode cX1_insert 101 = .ok (.iadd, 1) := by decide +kernel
theorem dX1_insert_102 : decode cX1_insert 102 = .ok (.putfield 18, 3) := by decide +kernel
theorem dX1_insert_105 : decode cX1_insert 105 = .ok (.iload_n 3, 1) := by decide +kernel
theorem dX1_insert_106 : decode cX1_insert 106 = .ok (.ireturn, 1) := by decide +kernel
theorem dX1_removeFirst_0 : decode cX1_removeFirst 0 = .ok (.iconst 1, 1) := by decide +kernel
theorem dX1_removeFirst_1 : decode cX1_removeFirst 1 = .ok (.istore_n 1, 1) := by decide +kernel
theorem dX1_removeFirst_2 : decode cX1_removeFirst 2 = .ok (.iload_n 1, 1) := by decide +kernel
theorem dX1_removeFirst_3 : decode cX1_removeFirst 3 = .ok (.aload_n 0, 1) := by decide +kernel
theorem dX1_removeFirst_4 : decode cX1_removeFirst 4 = .ok (.getfield 18, 3) := by decide +kernel
theorem dX1_removeFirst_7 : decode cX1_removeFirst 7 = .ok (.if_icmp .ge 37, 3) := by decide +kernel
theorem dX1_removeFirst_10 : decode cX1_removeFirst 10 = .ok (.aload_n 0, 1) := by decide +kernel
theorem dX1_removeFirst_11 : decode cX1_removeFirst 11 = .ok (.getfield 9, 3) := by decide +kernel
theorem dX1_removeFirst_14 : decode cX1_removeFirst 14 = .ok (.iload_n 1, 1) := by decide +kernel
theorem dX1_removeFirst_15 : decode cX1_removeFirst 15 = .ok (.iconst 1, 1) := by decide +kernel
theorem dX1_removeFirst_16 : decode cX1_removeFirst 16 = .ok (.isub, 1) := by decide +kernel
theorem dX1_removeFirst_17 : decode cX1_removeFirst 17 = .ok (.aload_n 0, 1) := by decide +kernel
theorem dX1_removeFirst_18 : decode cX1_removeFirst 18 = .ok (.getfield 9, 3) := by decide +kernel
theorem dX1_removeFirst_21 : decode cX1_removeFirst 21 = .ok (.iload_n 1, 1) := by decide +kernel
theorem dX1_removeFirst_22 : decode cX1_removeFirst 22 = .ok (.iaload, 1) := by decide +kernel
theorem dX1_removeFirst_23 : decode cX1_removeFirst 23 = .ok (.iastore, 1) := by decide +kernel
theorem dX1_removeFirst_24 : decode cX1_removeFirst 24 = .ok (.aload_n 0, 1) := by decide +kernel
theorem dX1_removeFirst_25 : decode cX1_removeFirst 25 = .ok (.getfield 15, 3) := by decide +kernel
theorem dX1_removeFirst_28 : decode cX1_removeFirst 28 = .ok (.iload_n 1, 1) := by decide +kernel
theorem dX1_removeFirst_29 : decode cX1_removeFirst 29 = .ok (.iconst 1, 1) := by decide +kernel
theorem dX1_removeFirst_30 : decode cX1_removeFirst 30 = .ok (.isub, 1) := by decide +kernel
theorem dX1_removeFirst_31 : decode cX1_removeFirst 31 = .ok (.aload_n 0, 1) := by decide +kernel
theorem dX1_removeFirst_32 : decode cX1_removeFirst 32 = .ok (.getfield 15, 3) := by decide +kernel
theorem dX1_removeFirst_35 : decode cX1_removeFirst 35 = .ok (.iload_n 1, 1) := by decide +kernel
theorem dX1_removeFirst_36 : decode cX1_removeFirst 36 = .ok (.iaload, 1) := by decide +kernel
theorem dX1_removeFirst_37 : decode cX1_removeFirst 37 = .ok (.iastore, 1) := by decide +kernel
theorem dX1_removeFirst_38 : decode cX1_removeFirst 38 = .ok (.iinc 1 1, 3) := by decide +kernel
theorem dX1_removeFirst_41 : decode cX1_removeFirst 41 = .ok (.goto (-39), 3) := by decide +kernel
theorem dX1_removeFirst_44 : decode cX1_removeFirst 44 = .ok (.aload_n 0, 1) := by decide +kernel
theorem dX1_removeFirst_45 : decode cX1_removeFirst 45 = .ok (.aload_n 0, 1) := by decide +kernel
theorem dX1_removeFirst_46 : decode cX1_removeFirst 46 = .ok (.getfield 18, 3) := by decide +kernel
theorem dX1_removeFirst_49 : decode cX1_removeFirst 49 = .ok (.iconst 1, 1) := by decide +kernel
theorem dX1_removeFirst_50 : decode cX1_removeFirst 50 = .ok (.isub, 1) := by decide +kernel
theorem dX1_removeFirst_51 : decode cX1_removeFirst 51 = .ok (.iconst 0, 1) := by decide +kernel
theorem dX1_removeFirst_52 : decode cX1_removeFirst 52 = .ok (.invokestatic 26, 3) := by decide +kernel
theorem dX1_removeFirst_55 : decode cX1_removeFirst 55 = .ok (.putfield 18, 3) := by decide +kernel
theorem dX1_removeFirst_58 : decode cX1_removeFirst 58 = .ok (.return_, 1) := by decide +kernel
set_option maxRecDepth 20000 in
theorem ggX2_init_X1_init : GoodIn wsX2_init wsX1_init := goodIn_r _ [10, 11, 2, 3, 12, 13, 14, 15, 16, 17] (by decide +kernel) (by decide +kernel)
set_option maxRecDepth 20000 in
theorem gX2_init_X1_init : GoodIn wsX2_init (wsX1_init) := ggX2_init_X1_init
theorem dX2_init_0 : decode cX2_init 0 = .ok (.aload_n 0, 1) := by decide +kernel
theorem dX2_init_1 : decode cX2_init 1 = .ok (.invokespecial 3, 3) := by decide +kernel
theorem dX2_init_4 : decode cX2_init 4 = .ok (.aload_n 0, 1) := by decide +kernel
theorem dX2_init_5 : decode cX2_init 5 = .ok (.new 9, 3) := by decide +kernel
theorem dX2_init_8 : decode cX2_init 8 = .ok (.dup, 1) := by decide +kernel
theorem dX2_init_9 : decode cX2_init 9 = .ok (.iload_n 1, 1) := by decide +kernel
theorem dX2_init_10 : decode cX2_init 10 = .ok (.invokespecial 11, 3) := by decide +kernel
theorem dX2_init_13 : decode cX2_init 13 = .ok (.putfield 14, 3) := by decide +kernel
theorem dX2_init_16 : decode cX2_init 16 = .ok (.return_, 1) := by decide +kernel
set_option maxRecDepth 20000 in
theorem ggX2_forgetAll_X2_takeHome : GoodIn wsX2_forgetAll wsX2_takeHome := goodIn_r _ [7, 8, 9, 10, 11, 12, 13, 14] (by decide +kernel) (by decide +kernel)
set_option maxRecDepth 20000 in
theorem gX2_forgetAll_X2_takeHome : GoodIn wsX2_forgetAll (wsV RX2 20 RX2 yX2_takeHome wsX2_takeHome) := goodIn_app (goodIn_of _ (by decide +kernel)) ggX2_forgetAll_X2_takeHome
theorem dX2_forgetAll_0 : decode cX2_forgetAll 0 = .ok (.aload_n 0, 1) := by decide +kernel
theorem dX2_forgetAll_1 : decode cX2_forgetAll 1 = .ok (.invokevirtual 20, 3) := by decide +kernel
theorem dX2_forgetAll_4 : decode cX2_forgetAll 4 = .ok (.aload_n 0, 1) := by decide +kernel
theorem dX2_forgetAll_5 : decode cX2_forgetAll 5 = .ok (.getfield 14, 3) := by decide +kernel
theorem dX2_forgetAll_8 : decode cX2_forgetAll 8 = .ok (.iconst 0, 1) := by decide +kernel
theorem dX2_forgetAll_9 : decode cX2_forgetAll 9 = .ok (.putfield 23, 3) := by decide +kernel
theorem dX2_forgetAll_12 : decode cX2_forgetAll 12 = .ok (.return_, 1) := by decide +kernel
theorem dX2_takeHome_0 : decode cX2_takeHome 0 = .ok (.aload_n 0, 1) := by decide +kernel
theorem dX2_takeHome_1 : decode cX2_takeHome 1 = .ok (.iconst (-1), 1) := by decide +kernel
theorem dX2_takeHome_2 : decode cX2_takeHome 2 = .ok (.putfield 27, 3) := by decide +kernel
theorem dX2_takeHome_5 : decode cX2_takeHome 5 = .ok (.aload_n 0, 1) := by decide +kernel
theorem dX2_takeHome_6 : decode cX2_takeHome 6 = .ok (.iconst 0, 1) := by decide +kernel
theorem dX2_takeHome_7 : decode cX2_takeHome 7 = .ok (.putfield 30, 3) := by decide +kernel
theorem dX2_takeHome_10 : decode cX2_takeHome 10 = .ok (.aload_n 0, 1) := by decide +kernel
theorem dX2_takeHome_11 : decode cX2_takeHome 11 = .ok (.iconst 0, 1) := by decide +kernel
theorem dX2_takeHome_12 : decode cX2_takeHome 12 = .ok (.putfield 33, 3) := by decide +kernel
theorem dX2_takeHome_15 : decode cX2_takeHome 15 = .ok (.return_, 1) := by decide +kernel
theorem dX2_lendTo_0 : decode cX2_lendTo 0 = .ok (.aload_n 0, 1) := by decide +kernel
theorem dX2_lendTo_1 : decode cX2_lendTo 1 = .ok (.iload_n 1, 1) := by decide +kernel
theorem dX2_lendTo_2 : decode cX2_lendTo 2 = .ok (.putfield 27, 3) := by decide +kernel
theorem dX2_lendTo_5 : decode cX2_lendTo 5 = .ok (.aload_n 0, 1) := by decide +kernel
theorem dX2_lendTo_6 : decode cX2_lendTo 6 = .ok (.iload_n 2, 1) := by decide +kernel
theorem dX2_lendTo_7 : decode cX2_lendTo 7 = .ok (.putfield 30, 3) := by decide +kernel
theorem dX2_lendTo_10 : decode cX2_lendTo 10 = .ok (.aload_n 0, 1) := by decide +kernel
theorem dX2_lendTo_11 : decode cX2_lendTo 11 = .ok (.iconst 0, 1) := by decide +kernel
theorem dX2_lendTo_12 : decode cX2_lendTo 12 = .ok (.putfield 33, 3) := by decide +kernel
theorem dX2_lendTo_15 : decode cX2_lendTo 15 = .ok (.return_, 1) := by decide +kernel
set_option maxRecDepth 20000 in
theorem ggX2_isPressed_X1_nodeAt : GoodIn wsX2_isPressed wsX1_nodeAt := goodIn_r _ [9, 10, 11, 24, 25, 26] (by decide +kernel) (by decide +kernel)
set_option maxRecDepth 20000 in
theorem gX2_isPressed_X1_nodeAt : GoodIn wsX2_isPressed (wsV RX2 37 RX1 yX1_nodeAt wsX1_nodeAt) := goodIn_app (goodIn_of _ (by decide +kernel)) ggX2_isPressed_X1_nodeAt
set_option maxRecDepth 20000 in
theorem ggX2_isPressed_X1_timeAt : GoodIn wsX2_isPressed wsX1_timeAt := goodIn_r _ [15, 10, 16, 24, 25, 26] (by decide +kernel) (by decide +kernel)
set_option maxRecDepth 20000 in
theorem gX2_isPressed_X1_timeAt : GoodIn wsX2_isPressed (wsV RX2 41 RX1 yX1_timeAt wsX1_timeAt) := goodIn_app (goodIn_of _ (by decide +kernel)) ggX2_isPressed_X1_timeAt
set_option maxRecDepth 20000 in
theorem ggX2_isPressed_X4_isBefore : GoodIn wsX2_isPressed wsX4_isBefore := goodIn_r _ [19] (by decide +kernel) (by decide +kernel)
set_option maxRecDepth 20000 in
theorem gX2_isPressed_X4_isBefore_n44 : GoodIn wsX2_isPressed (wsX4_isBefore) := ggX2_isPressed_X4_isBefore
theorem dX2_isPressed_0 : decode cX2_isPressed 0 = .ok (.aload_n 0, 1) := by decide +kernel
theorem dX2_isPressed_1 : decode cX2_isPressed 1 = .ok (.getfield 14, 3) := by decide +kernel
theorem dX2_isPressed_4 : decode cX2_isPressed 4 = .ok (.getfield 23, 3) := by decide +kernel
theorem dX2_isPressed_7 : decode cX2_isPressed 7 = .ok (.ifCond .le 37, 3) := by decide +kernel
theorem dX2_isPressed_10 : decode cX2_isPressed 10 = .ok (.aload_n 0, 1) := by decide +kernel
theorem dX2_isPressed_11 : decode cX2_isPressed 11 = .ok (.getfield 14, 3) := by decide +kernel
theorem dX2_isPressed_14 : decode cX2_isPressed 14 = .ok (.iconst 0, 1) := by decide +kernel
theorem dX2_isPressed_15 : decode cX2_isPressed 15 = .ok (.invokevirtual 37, 3) := by decide +kernel
theorem dX2_isPressed_18 : decode cX2_isPressed 18 = .ok (.aload_n 0, 1) := by decide +kernel
theorem dX2_isPressed_19 : decode cX2_isPressed 19 = .ok (.getfield 14, 3) := by decide +kernel
theorem dX2_isPressed_22 : decode cX2_isPressed 22 = .ok (.iconst 0, 1) := by decide +kernel
theorem dX2_isPressed_23 : decode cX2_isPressed 23 = .ok (.invokevirtual 41, 3) := by decide +kernel
theorem dX2_isPressed_26 : decode cX2_isPressed 26 = .ok (.aload_n 0, 1) := by decide +kernel
theorem dX2_isPressed_27 : decode cX2_isPressed 27 = .ok (.getfield 27, 3) := by decide +kernel
theorem dX2_isPressed_30 : decode cX2_isPressed 30 = .ok (.aload_n 0, 1) := by decide +kernel
theorem dX2_isPressed_31 : decode cX2_isPressed 31 = .ok (.getfield 30, 3) := by decide +kernel
theorem dX2_isPressed_34 : decode cX2_isPressed 34 = .ok (.invokestatic 44, 3) := by decide +kernel
theorem dX2_isPressed_37 : decode cX2_isPressed 37 = .ok (.ifCond .eq 7, 3) := by decide +kernel
theorem dX2_isPressed_40 : decode cX2_isPressed 40 = .ok (.iconst 1, 1) := by decide +kernel
theorem dX2_isPressed_41 : decode cX2_isPressed 41 = .ok (.goto 4, 3) := by decide +kernel
theorem dX2_isPressed_44 : decode cX2_isPressed 44 = .ok (.iconst 0, 1) := by decide +kernel
theorem dX2_isPressed_45 : decode cX2_isPressed 45 = .ok (.ireturn, 1) := by decide +kernel
theorem dX3_init_0 : decode cX3_init 0 = .ok (.aload_n 0, 1) := by decide +kernel
theorem dX3_init_1 : decode cX3_init 1 = .ok (.invokespecial 3, 3) := by decide +kernel
theorem dX3_init_4 : decode cX3_init 4 = .ok (.aload_n 0, 1) := by decide +kernel
theorem dX3_init_5 : decode cX3_init 5 = .ok (.iload_n 1, 1) := by decide +kernel
theorem dX3_init_6 : decode cX3_init 6 = .ok (.putfield 9, 3) := by decide +kernel
theorem dX3_init_9 : decode cX3_init 9 = .ok (.aload_n 0, 1) := by decide +kernel
theorem dX3_init_10 : decode cX3_init 10 = .ok (.iload_n 1, 1) := by decide +kernel
theorem dX3_init_11 : decode cX3_init 11 = .ok (.iload_n 1, 1) := by decide +kernel
theorem dX3_init_12 : decode cX3_init 12 = .ok (.imul, 1) := by decide +kernel
theorem dX3_init_13 : decode cX3_init 13 = .ok (.bipush 8, 2) := by decide +kernel
theorem dX3_init_15 : decode cX3_init 15 = .ok (.imul, 1) := by decide +kernel
theorem dX3_init_16 : decode cX3_init 16 = .ok (.iconst 3, 1) := by decide +kernel
theorem dX3_init_17 : decode cX3_init 17 = .ok (.imul, 1) := by decide +kernel
theorem dX3_init_18 : decode cX3_init 18 = .ok (.newarray .int, 2) := by decide +kernel
theorem dX3_init_20 : decode cX3_init 20 = .ok (.putfield 15, 3) := by decide +kernel
theorem dX3_init_23 : decode cX3_init 23 = .ok (.aload_n 0, 1) := by decide +kernel
theorem dX3_init_24 : decode cX3_init 24 = .ok (.iload_n 1, 1) := by decide +kernel
theorem dX3_init_25 : decode cX3_init 25 = .ok (.iload_n 1, 1) := by decide +kernel
theorem dX3_init_26 : decode cX3_init 26 = .ok (.imul, 1) := by decide +kernel
theorem dX3_init_27 : decode cX3_init 27 = .ok (.newarray .int, 2) := by decide +kernel
theorem dX3_init_29 : decode cX3_init 29 = .ok (.putfield 19, 3) := by decide +kernel
theorem dX3_init_32 : decode cX3_init 32 = .ok (.aload_n 0, 1) := by decide +kernel
theorem dX3_init_33 : decode cX3_init 33 = .ok (.iload_n 1, 1) := by decide +kernel
theorem dX3_init_34 : decode cX3_init 34 = .ok (.iload_n 1, 1) := by decide +kernel
theorem dX3_init_35 : decode cX3_init 35 = .ok (.imul, 1) := by decide +kernel
theorem dX3_init_36 : decode cX3_init 36 = .ok (.newarray .int, 2) := by decide +kernel
theorem dX3_init_38 : decode cX3_init 38 = .ok (.putfield 22, 3) := by decide +kernel
theorem dX3_init_41 : decode cX3_init 41 = .ok (.aload_n 0, 1) := by decide +kernel
theorem dX3_init_42 : decode cX3_init 42 = .ok (.iload_n 1, 1) := by decide +kernel
theorem dX3_init_43 : decode cX3_init 43 = .ok (.newarray .int, 2) := by decide +kernel
theorem dX3_init_45 : decode cX3_init 45 = .ok (.putfield 25, 3) := by decide +kernel
theorem dX3_init_48 : decode cX3_init 48 = .ok (.return_, 1) := by decide +kernel
theorem dX3_emptyAll_0 : decode cX3_emptyAll 0 = .ok (.iconst 0, 1) := by decide +kernel
theorem dX3_emptyAll_1 : decode cX3_emptyAll 1 = .ok (.istore_n 1, 1) := by decide +kernel
theorem dX3_emptyAll_2 : decode cX3_emptyAll 2 = .ok (.iload_n 1, 1) := by decide +kernel
theorem dX3_emptyAll_3 : decode cX3_emptyAll 3 = .ok (.aload_n 0, 1) := by decide +kernel
theorem dX3_emptyAll_4 : decode cX3_emptyAll 4 = .ok (.getfield 22, 3) := by decide +kernel
theorem dX3_emptyAll_7 : decode cX3_emptyAll 7 = .ok (.arraylength, 1) := by decide +kernel
theorem dX3_emptyAll_8 : decode cX3_emptyAll 8 = .ok (.if_icmp .ge 23, 3) := by decide +kernel
theorem dX3_emptyAll_11 : decode cX3_emptyAll 11 = .ok (.aload_n 0, 1) := by decide +kernel
theorem dX3_emptyAll_12 : decode cX3_emptyAll 12 = .ok (.getfield 19, 3) := by decide +kernel
theorem dX3_emptyAll_15 : decode cX3_emptyAll 15 = .ok (.iload_n 1, 1) := by decide +kernel
theorem dX3_emptyAll_16 : decode cX3_emptyAll 16 = .ok (.iconst 0, 1) := by decide +kernel
theorem dX3_emptyAll_17 : decode cX3_emptyAll 17 = .ok (.iastore, 1) := by decide +kernel
theorem dX3_emptyAll_18 : decode cX3_emptyAll 18 = .ok (.aload_n 0, 1) := by decide +kernel
theorem dX3_emptyAll_19 : decode cX3_emptyAll 19 = .ok (.getfield 22, 3) := by decide +kernel
theorem dX3_emptyAll_22 : decode cX3_emptyAll 22 = .ok (.iload_n 1, 1) := by decide +kernel
theorem dX3_emptyAll_23 : decode cX3_emptyAll 23 = .ok (.iconst 0, 1) := by decide +kernel
theorem dX3_emptyAll_24 : decode cX3_emptyAll 24 = .ok (.iastore, 1) := by decide +kernel
theorem dX3_emptyAll_25 : decode cX3_emptyAll 25 = .ok (.iinc 1 1, 3) := by decide +kernel
theorem dX3_emptyAll_28 : decode cX3_emptyAll 28 = .ok (.goto (-26), 3) := by decide +kernel
theorem dX3_emptyAll_31 : decode cX3_emptyAll 31 = .ok (.iconst 0, 1) := by decide +kernel
theorem dX3_emptyAll_32 : decode cX3_emptyAll 32 = .ok (.istore_n 1, 1) := by decide +kernel
theorem dX3_emptyAll_33 : decode cX3_emptyAll 33 = .ok (.iload_n 1, 1) := by decide +kernel
theorem dX3_emptyAll_34 : decode cX3_emptyAll 34 = .ok (.aload_n 0, 1) := by decide +kernel
theorem dX3_emptyAll_35 : decode cX3_emptyAll 35 = .ok (.getfield 9, 3) := by decide +kernel
theorem dX3_emptyAll_38 : decode cX3_emptyAll 38 = .ok (.if_icmp .ge 16, 3) := by decide +kernel
theorem dX3_emptyAll_41 : decode cX3_emptyAll 41 = .ok (.aload_n 0, 1) := by decide +kernel
theorem dX3_emptyAll_42 : decode cX3_emptyAll 42 = .ok (.getfield 25, 3) := by decide +kernel
theorem dX3_emptyAll_45 : decode cX3_emptyAll 45 = .ok (.iload_n 1, 1) := by decide +kernel
theorem dX3_emptyAll_46 : decode cX3_emptyAll 46 = .ok (.iconst 0, 1) := by decide +kernel
theorem dX3_emptyAll_47 : decode cX3_emptyAll 47 = .ok (.iastore, 1) := by decide +kernel
theorem dX3_emptyAll_48 : decode cX3_emptyAll 48 = .ok (.iinc 1 1, 3) := by decide +kernel
theorem dX3_emptyAll_51 : decode cX3_emptyAll 51 = .ok (.goto (-18), 3) := by decide +kernel
theorem dX3_emptyAll_54 : decode cX3_emptyAll 54 = .ok (.return_, 1) := by decide +kernel
set_option maxRecDepth 20000 in
theorem ggX3_count_X3_wireOf : GoodIn wsX3_count wsX3_wireOf := goodIn_r _ [6, 7, 8, 9, 10, 11, 12] (by decide +kernel) (by decide +kernel)
set_option maxRecDepth 20000 in
theorem gX3_count_X3_wireOf : GoodIn wsX3_count (wsV RX3 28 RX3 yX3_wireOf wsX3_wireOf) := goodIn_app (goodIn_of _ (by decide +kernel)) ggX3_count_X3_wireOf
theorem dX3_count_0 : decode cX3_count 0 = .ok (.aload_n 0, 1) := by decide +kernel
theorem dX3_count_1 : decode cX3_count 1 = .ok (.getfield 22, 3) := by decide +kernel
theorem dX3_count_4 : decode cX3_count 4 = .ok (.aload_n 0, 1) := by decide +kernel
theorem dX3_count_5 : decode cX3_count 5 = .ok (.iload_n 1, 1) := by decide +kernel
theorem dX3_count_6 : decode cX3_count 6 = .ok (.iload_n 2, 1) := by decide +kernel
theorem dX3_count_7 : decode cX3_count 7 = .ok (.invokevirtual 28, 3) := by decide +kernel
theorem dX3_count_10 : decode cX3_count 10 = .ok (.iaload, 1) := by decide +kernel
theorem dX3_count_11 : decode cX3_count 11 = .ok (.ireturn, 1) := by decide +kernel
set_option maxRecDepth 20000 in
theorem ggX3_part_X3_wireOf : GoodIn wsX3_part wsX3_wireOf := goodIn_r _ [7, 8, 14, 15, 16, 17, 18] (by decide +kernel) (by decide +kernel)
set_option maxRecDepth 20000 in
theorem gX3_part_X3_wireOf : GoodIn wsX3_part (wsV RX3 28 RX3 yX3_wireOf wsX3_wireOf) := goodIn_app (goodIn_of _ (by decide +kernel)) ggX3_part_X3_wireOf
set_option maxRecDepth 20000 in
theorem ggX3_part_X3_slotOf : GoodIn wsX3_part wsX3_slotOf := goodIn_r _ [12, 13, 14, 15, 16, 17, 18] (by decide +kernel) (by decide +kernel)
set_option maxRecDepth 20000 in
theorem gX3_part_X3_slotOf : GoodIn wsX3_part (wsV RX3 32 RX3 yX3_slotOf wsX3_slotOf) := goodIn_app (goodIn_of _ (by decide +kernel)) ggX3_part_X3_slotOf
theorem dX3_part_0 : decode cX3_part 0 = .ok (.aload_n 0, 1) := by decide +kernel
theorem dX3_part_1 : decode cX3_part 1 = .ok (.iload_n 1, 1) := by decide +kernel
theorem dX3_part_2 : decode cX3_part 2 = .ok (.iload_n 2, 1) := by decide +kernel
theorem dX3_part_3 : decode cX3_part 3 = .ok (.invokevirtual 28, 3) := by decide +kernel
theorem dX3_part_6 : decode cX3_part 6 = .ok (.istore 5, 2) := by decide +kernel
theorem dX3_part_8 : decode cX3_part 8 = .ok (.iload_n 3, 1) := by decide +kernel
theorem dX3_part_9 : decode cX3_part 9 = .ok (.ifCond .lt 25, 3) := by decide +kernel
theorem dX3_part_12 : decode cX3_part 12 = .ok (.iload_n 3, 1) := by decide +kernel
theorem dX3_part_13 : decode cX3_part 13 = .ok (.aload_n 0, 1) := by decide +kernel
theorem dX3_part_14 : decode cX3_part 14 = .ok (.getfield 22, 3) := by decide +kernel
theorem dX3_part_17 : decode cX3_part 17 = .ok (.iload 5, 2) := by decide +kernel
theorem dX3_part_19 : decode cX3_part 19 = .ok (.iaload, 1) := by decide +kernel
theorem dX3_part_20 : decode cX3_part 20 = .ok (.if_icmp .ge 14, 3) := by decide +kernel
theorem dX3_part_23 : decode cX3_part 23 = .ok (.iload 4, 2) := by decide +kernel
theorem dX3_part_25 : decode cX3_part 25 = .ok (.ifCond .lt 9, 3) := by decide +kernel
theorem dX3_part_28 : decode cX3_part 28 = .ok (.iload 4, 2) := by decide +kernel
theorem dX3_part_30 : decode cX3_part 30 = .ok (.iconst 3, 1) := by decide +kernel
theorem dX3_part_31 : decode cX3_part 31 = .ok (.if_icmp .lt 5, 3) := by decide +kernel
theorem dX3_part_34 : decode cX3_part 34 = .ok (.iconst (-1), 1) := by decide +kernel
theorem dX3_part_35 : decode cX3_part 35 = .ok (.ireturn, 1) := by decide +kernel
theorem dX3_part_36 : decode cX3_part 36 = .ok (.aload_n 0, 1) := by decide +kernel
theorem dX3_part_37 : decode cX3_part 37 = .ok (.getfield 15, 3) := by decide +kernel
theorem dX3_part_40 : decode cX3_part 40 = .ok (.aload_n 0, 1) := by decide +kernel
theorem dX3_part_41 : decode cX3_part 41 = .ok (.iload 5, 2) := by decide +kernel
theorem dX3_part_43 : decode cX3_part 43 = .ok (.iload_n 3, 1) := by decide +kernel
theorem dX3_part_44 : decode cX3_part 44 = .ok (.invokevirtual 32, 3) := by decide +kernel
theorem dX3_part_47 : decode cX3_part 47 = .ok (.iload 4, 2) := by decide +kernel
theorem dX3_part_49 : decode cX3_part 49 = .ok (.iadd, 1) := by decide +kernel
theorem dX3_part_50 : decode cX3_part 50 = .ok (.iaload, 1) := by decide +kernel
theorem dX3_part_51 : decode cX3_part 51 = .ok (.ireturn, 1) := by decide +kernel
set_option maxRecDepth 20000 in
theorem ggX3_add_X3_wireOf : GoodIn wsX3_add wsX3_wireOf := goodIn_r _ [8, 9, 15, 16, 17, 18, 19] (by decide +kernel) (by decide +kernel)
set_option maxRecDepth 20000 in
theorem gX3_add_X3_wireOf : GoodIn wsX3_add (wsV RX3 28 RX3 yX3_wireOf wsX3_wireOf) := goodIn_app (goodIn_of _ (by decide +kernel)) ggX3_add_X3_wireOf
set_option maxRecDepth 20000 in
theorem ggX3_add_X3_slotOf : GoodIn wsX3_add wsX3_slotOf := goodIn_r _ [13, 14, 15, 16, 17, 18, 19] (by decide +kernel) (by decide +kernel)
set_option maxRecDepth 20000 in
theorem gX3_add_X3_slotOf : GoodIn wsX3_add (wsV RX3 32 RX3 yX3_slotOf wsX3_slotOf) := goodIn_app (goodIn_of _ (by decide +kernel)) ggX3_add_X3_slotOf
theorem dX3_add_0 : decode cX3_add 0 = .ok (.aload_n 0, 1) := by decide +kernel
theorem dX3_add_1 : decode cX3_add 1 = .ok (.iload_n 1, 1) := by decide +kernel
theorem dX3_add_2 : decode cX3_add 2 = .ok (.iload_n 2, 1) := by decide +kernel
theorem dX3_add_3 : decode cX3_add 3 = .ok (.invokevirtual 28, 3) := by decide +kernel
theorem dX3_add_6 : decode cX3_add 6 = .ok (.istore 6, 2) := by decide +kernel
theorem dX3_add_8 : decode cX3_add 8 = .ok (.aload_n 0, 1) := by decide +kernel
theorem dX3_add_9 : decode cX3_add 9 = .ok (.getfield 22, 3) := by decide +kernel
theorem dX3_add_12 : decode cX3_add 12 = .ok (.iload 6, 2) := by decide +kernel
theorem dX3_add_14 : decode cX3_add 14 = .ok (.iaload, 1) := by decide +kernel
theorem dX3_add_15 : decode cX3_add 15 = .ok (.bipush 8, 2) := by decide +kernel
theorem dX3_add_17 : decode cX3_add 17 = .ok (.if_icmp .lt 4, 3) := by decide +kernel
theorem dX3_add_20 : decode cX3_add 20 = .ok (.return_, 1) := by decide +kernel
theorem dX3_add_21 : decode cX3_add 21 = .ok (.aload_n 0, 1) := by decide +kernel
theorem dX3_add_22 : decode cX3_add 22 = .ok (.iload 6, 2) := by decide +kernel
theorem dX3_add_24 : decode cX3_add 24 = .ok (.aload_n 0, 1) := by decide +kernel
theorem dX3_add_25 : decode cX3_add 25 = .ok (.getfield 22, 3) := by decide +kernel
theorem dX3_add_28 : decode cX3_add 28 = .ok (.iload 6, 2) := by decide +kernel
theorem dX3_add_30 : decode cX3_add 30 = .ok (.iaload, 1) := by decide +kernel
theorem dX3_add_31 : decode cX3_add 31 = .ok (.invokevirtual 32, 3) := by decide +kernel
theorem dX3_add_34 : decode cX3_add 34 = .ok (.istore 7, 2) := by decide +kernel
theorem dX3_add_36 : decode cX3_add 36 = .ok (.aload_n 0, 1) := by decide +kernel
theorem dX3_add_37 : decode cX3_add 37 = .ok (.getfield 15, 3) := by decide +kernel
theorem dX3_add_40 : decode cX3_add 40 = .ok (.iload 7, 2) := by decide +kernel
theorem dX3_add_42 : decode cX3_add 42 = .ok (.iconst 0, 1) := by decide +kernel
theorem dX3_add_43 : decode cX3_add 43 = .ok (.iadd, 1) := by decide +kernel
theorem dX3_add_44 : decode cX3_add 44 = .ok (.iload_n 3, 1) := by decide +kernel
theorem dX3_add_45 : decode cX3_add 45 = .ok (.iastore, 1) := by decide +kernel
theorem dX3_add_46 : decode cX3_add 46 = .ok (.aload_n 0, 1) := by decide +kernel
theorem dX3_add_47 : decode cX3_add 47 = .ok (.getfield 15, 3) := by decide +kernel
theorem dX3_add_50 : decode cX3_add 50 = .ok (.iload 7, 2) := by decide +kernel
theorem dX3_add_52 : decode cX3_add 52 = .ok (.iconst 1, 1) := by decide +kernel
theorem dX3_add_53 : decode cX3_add 53 = .ok (.iadd, 1) := by decide +kernel
theorem dX3_add_54 : decode cX3_add 54 = .ok (.iload 4, 2) := by decide +kernel
theorem dX3_add_56 : decode cX3_add 56 = .ok (.iastore, 1) := by decide +kernel
theorem dX3_add_57 : decode cX3_add 57 = .ok (.aload_n 0, 1) := by decide +kernel
theorem dX3_add_58 : decode cX3_add 58 = .ok (.getfield 15, 3) := by decide +kernel
theorem dX3_add_61 : decode cX3_add 61 = .ok (.iload 7, 2) := by decide +kernel
theorem dX3_add_63 : decode cX3_add 63 = .ok (.iconst 2, 1) := by decide +kernel
theorem dX3_add_64 : decode cX3_add 64 = .ok (.iadd, 1) := by decide +kernel
theorem dX3_add_65 : decode cX3_add 65 = .ok (.iload 5, 2) := by decide +kernel
theorem dX3_add_67 : decode cX3_add 67 = .ok (.iastore, 1) := by decide +kernel
theorem dX3_add_68 : decode cX3_add 68 = .ok (.aload_n 0, 1) := by decide +kernel
theorem dX3_add_69 : decode cX3_add 69 = .ok (.getfield 22, 3) := by decide +kernel
theorem dX3_add_72 : decode cX3_add 72 = .ok (.iload 6, 2) := by decide +kernel
theorem dX3_add_74 : decode cX3_add 74 = .ok (.dup2, 1) := by decide +kernel
theorem dX3_add_75 : decode cX3_add 75 = .ok (.iaload, 1) := by decide +kernel
theorem dX3_add_76 : decode cX3_add 76 = .ok (.iconst 1, 1) := by decide +kernel
theorem dX3_add_77 : decode cX3_add 77 = .ok (.iadd, 1) := by decide +kernel
theorem dX3_add_78 : decode cX3_add 78 = .ok (.iastore, 1) := by decide +kernel
theorem dX3_add_79 : decode cX3_add 79 = .ok (.aload_n 0, 1) := by decide +kernel
theorem dX3_add_80 : decode cX3_add 80 = .ok (.getfield 25, 3) := by decide +kernel
theorem dX3_add_83 : decode cX3_add 83 = .ok (.iload_n 1, 1) := by decide +kernel
theorem dX3_add_84 : decode cX3_add 84 = .ok (.dup2, 1) := by decide +kernel
theorem dX3_add_85 : decode cX3_add 85 = .ok (.iaload, 1) := by decide +kernel
theorem dX3_add_86 : decode cX3_add 86 = .ok (.iconst 1, 1) := by decide +kernel
theorem dX3_add_87 : decode cX3_add 87 = .ok (.iadd, 1) := by decide +kernel
theorem dX3_add_88 : decode cX3_add 88 = .ok (.iastore, 1) := by decide +kernel
theorem dX3_add_89 : decode cX3_add 89 = .ok (.return_, 1) := by decide +kernel
set_option maxRecDepth 20000 in
theorem ggX3_dropOldest_X3_wireOf : GoodIn wsX3_dropOldest wsX3_wireOf := goodIn_r _ [8, 9, 10, 11, 12, 13, 14] (by decide +kernel) (by decide +kernel)
set_option maxRecDepth 20000 in
theorem gX3_dropOldest_X3_wireOf : GoodIn wsX3_dropOldest (wsV RX3 28 RX3 yX3_wireOf wsX3_wireOf) := goodIn_app (goodIn_of _ (by decide +kernel)) ggX3_dropOldest_X3_wireOf
theorem dX3_dropOldest_0 : decode cX3_dropOldest 0 = .ok (.aload_n 0, 1) := by decide +kernel
theorem dX3_dropOldest_1 : decode cX3_dropOldest 1 = .ok (.iload_n 1, 1) := by decide +kernel
theorem dX3_dropOldest_2 : decode cX3_dropOldest 2 = .ok (.iload_n 2, 1) := by decide +kernel
theorem dX3_dropOldest_3 : decode cX3_dropOldest 3 = .ok (.invokevirtual 28, 3) := by decide +kernel
theorem dX3_dropOldest_6 : decode cX3_dropOldest 6 = .ok (.istore_n 3, 1) := by decide +kernel
theorem dX3_dropOldest_7 : decode cX3_dropOldest 7 = .ok (.aload_n 0, 1) := by decide +kernel
theorem dX3_dropOldest_8 : decode cX3_dropOldest 8 = .ok (.getfield 22, 3) := by decide +kernel
theorem dX3_dropOldest_11 : decode cX3_dropOldest 11 = .ok (.iload_n 3, 1) := by decide +kernel
theorem dX3_dropOldest_12 : decode cX3_dropOldest 12 = .ok (.iaload, 1) := by decide +kernel
theorem dX3_dropOldest_13 : decode cX3_dropOldest 13 = .ok (.ifCond .le 40, 3) := by decide +kernel
theorem dX3_dropOldest_16 : decode cX3_dropOldest 16 = .ok (.aload_n 0, 1) := by decide +kernel
theorem dX3_dropOldest_17 : decode cX3_dropOldest 17 = .ok (.getfield 19, 3) := by decide +kernel
theorem dX3_dropOldest_20 : decode cX3_dropOldest 20 = .ok (.iload_n 3, 1) := by decide +kernel
theorem dX3_dropOldest_21 : decode cX3_dropOldest 21 = .ok (.aload_n 0, 1) := by decide +kernel
theorem dX3_dropOldest_22 : decode cX3_dropOldest 22 = .ok (.getfield 19, 3) := by decide +kernel
theorem dX3_dropOldest_25 : decode cX3_dropOldest 25 = .ok (.iload_n 3, 1) := by decide +kernel
theorem dX3_dropOldest_26 : decode cX3_dropOldest 26 = .ok (.iaload, 1) := by decide +kernel
theorem dX3_dropOldest_27 : decode cX3_dropOldest 27 = .ok (.iconst 1, 1) := by decide +kernel
theorem dX3_dropOldest_28 : decode cX3_dropOldest 28 = .ok (.iadd, 1) := by decide +kernel
theorem dX3_dropOldest_29 : decode cX3_dropOldest 29 = .ok (.bipush 8, 2) := by decide +kernel
theorem dX3_dropOldest_31 : decode cX3_dropOldest 31 = .ok (.irem, 1) := by decide +kernel
theorem dX3_dropOldest_32 : decode cX3_dropOldest 32 = .ok (.iastore, 1) := by decide +kernel
theorem dX3_dropOldest_33 : decode cX3_dropOldest 33 = .ok (.aload_n 0, 1) := by decide +kernel
theorem dX3_dropOldest_34 : decode cX3_dropOldest 34 = .ok (.getfield 22, 3) := by decide +kernel
theorem dX3_dropOldest_37 : decode cX3_dropOldest 37 = .ok (.iload_n 3, 1) := by decide +kernel
theorem dX3_dropOldest_38 : decode cX3_dropOldest 38 = .ok (.dup2, 1) := by decide +kernel
theorem dX3_dropOldest_39 : decode cX3_dropOldest 39 = .ok (.iaload, 1) := by decide +kernel
theorem dX3_dropOldest_40 : decode cX3_dropOldest 40 = .ok (.iconst 1, 1) := by decide +kernel
theorem dX3_dropOldest_41 : decode cX3_dropOldest 41 = .ok (.isub, 1) := by decide +kernel
theorem dX3_dropOldest_42 : decode cX3_dropOldest 42 = .ok (.iastore, 1) := by decide +kernel
theorem dX3_dropOldest_43 : decode cX3_dropOldest 43 = .ok (.aload_n 0, 1) := by decide +kernel
theorem dX3_dropOldest_44 : decode cX3_dropOldest 44 = .ok (.getfield 25, 3) := by decide +kernel
theorem dX3_dropOldest_47 : decode cX3_dropOldest 47 = .ok (.iload_n 1, 1) := by decide +kernel
theorem dX3_dropOldest_48 : decode cX3_dropOldest 48 = .ok (.dup2, 1) := by decide +kernel
theorem dX3_dropOldest_49 : decode cX3_dropOldest 49 = .ok (.iaload, 1) := by decide +kernel
theorem dX3_dropOldest_50 : decode cX3_dropOldest 50 = .ok (.iconst 1, 1) := by decide +kernel
theorem dX3_dropOldest_51 : decode cX3_dropOldest 51 = .ok (.isub, 1) := by decide +kernel
theorem dX3_dropOldest_52 : decode cX3_dropOldest 52 = .ok (.iastore, 1) := by decide +kernel
theorem dX3_dropOldest_53 : decode cX3_dropOldest 53 = .ok (.return_, 1) := by decide +kernel
theorem dX3_leastFrom_0 : decode cX3_leastFrom 0 = .ok (.iconst 0, 1) := by decide +kernel
theorem dX3_leastFrom_1 : decode cX3_leastFrom 1 = .ok (.istore_n 1, 1) := by decide +kernel
theorem dX3_leastFrom_2 : decode cX3_leastFrom 2 = .ok (.iload_n 1, 1) := by decide +kernel
theorem dX3_leastFrom_3 : decode cX3_leastFrom 3 = .ok (.aload_n 0, 1) := by decide +kernel
theorem dX3_leastFrom_4 : decode cX3_leastFrom 4 = .ok (.getfield 9, 3) := by decide +kernel
theorem dX3_leastFrom_7 : decode cX3_leastFrom 7 = .ok (.if_icmp .ge 20, 3) := by decide +kernel
theorem dX3_leastFrom_10 : decode cX3_leastFrom 10 = .ok (.aload_n 0, 1) := by decide +kernel
theorem dX3_leastFrom_11 : decode cX3_leastFrom 11 = .ok (.getfield 25, 3) := by decide +kernel
theorem dX3_leastFrom_14 : decode cX3_leastFrom 14 = .ok (.iload_n 1, 1) := by decide +kernel
theorem dX3_leastFrom_15 : decode cX3_leastFrom 15 = .ok (.iaload, 1) := by decide +kernel
theorem dX3_leastFrom_16 : decode cX3_leastFrom 16 = .ok (.ifCond .le 5, 3) := by decide +kernel
theorem dX3_leastFrom_19 : decode cX3_leastFrom 19 = .ok (.iload_n 1, 1) := by decide +kernel
theorem dX3_leastFrom_20 : decode cX3_leastFrom 20 = .ok (.ireturn, 1) := by decide +kernel
theorem dX3_leastFrom_21 : decode cX3_leastFrom 21 = .ok (.iinc 1 1, 3) := by decide +kernel
theorem dX3_leastFrom_24 : decode cX3_leastFrom 24 = .ok (.goto (-22), 3) := by decide +kernel
theorem dX3_leastFrom_27 : decode cX3_leastFrom 27 = .ok (.iconst (-1), 1) := by decide +kernel
theorem dX3_leastFrom_28 : decode cX3_leastFrom 28 = .ok (.ireturn, 1) := by decide +kernel
set_option maxRecDepth 20000 in
theorem ggX3_leastTo_X3_count : GoodIn wsX3_leastTo wsX3_count := goodIn_r _ [6, 7, 8, 9, 10, 5, 11, 1, 12, 13, 14, 15, 16] (by decide +kernel) (by decide +kernel)
set_option maxRecDepth 20000 in
theorem gX3_leastTo_X3_count : GoodIn wsX3_leastTo (wsV RX3 35 RX3 yX3_count wsX3_count) := goodIn_app (goodIn_of _ (by decide +kernel)) ggX3_leastTo_X3_count
theorem dX3_leastTo_0 : decode cX3_leastTo 0 = .ok (.iload_n 1, 1) := by decide +kernel
theorem dX3_leastTo_1 : decode cX3_leastTo 1 = .ok (.ifCond .lt 11, 3) := by decide +kernel
theorem dX3_leastTo_4 : decode cX3_leastTo 4 = .ok (.iload_n 1, 1) := by decide +kernel
theorem dX3_leastTo_5 : decode cX3_leastTo 5 = .ok (.aload_n 0, 1) := by decide +kernel
theorem dX3_leastTo_6 : decode cX3_leastTo 6 = .ok (.getfield 9, 3) := by decide +kernel
theorem dX3_leastTo_9 : decode cX3_leastTo 9 = .ok (.if_icmp .lt 5, 3) := by decide +kernel
theorem dX3_leastTo_12 : decode cX3_leastTo 12 = .ok (.iconst (-1), 1) := by decide +kernel
theorem dX3_leastTo_13 : decode cX3_leastTo 13 = .ok (.ireturn, 1) := by decide +kernel
theorem dX3_leastTo_14 : decode cX3_leastTo 14 = .ok (.iconst 0, 1) := by decide +kernel
theorem dX3_leastTo_15 : decode cX3_leastTo 15 = .ok (.istore_n 2, 1) := by decide +kernel
theorem dX3_leastTo_16 : decode cX3_leastTo 16 = .ok (.iload_n 2, 1) := by decide +kernel
theorem dX3_leastTo_17 : decode cX3_leastTo 17 = .ok (.aload_n 0, 1) := by decide +kernel
theorem dX3_leastTo_18 : decode cX3_leastTo 18 = .ok (.getfield 9, 3) := by decide +kernel
theorem dX3_leastTo_21 : decode cX3_leastTo 21 = .ok (.if_icmp .ge 20, 3) := by decide +kernel
theorem dX3_leastTo_24 : decode cX3_leastTo 24 = .ok (.aload_n 0, 1) := by decide +kernel
theorem dX3_leastTo_25 : decode cX3_leastTo 25 = .ok (.iload_n 1, 1) := by decide +kernel
theorem dX3_leastTo_26 : decode cX3_leastTo 26 = .ok (.iload_n 2, 1) := by decide +kernel
theorem dX3_leastTo_27 : decode cX3_leastTo 27 = .ok (.invokevirtual 35, 3) := by decide +kernel
theorem dX3_leastTo_30 : decode cX3_leastTo 30 = .ok (.ifCond .le 5, 3) := by decide +kernel
theorem dX3_leastTo_33 : decode cX3_leastTo 33 = .ok (.iload_n 2, 1) := by decide +kernel
theorem dX3_leastTo_34 : decode cX3_leastTo 34 = .ok (.ireturn, 1) := by decide +kernel
theorem dX3_leastTo_35 : decode cX3_leastTo 35 = .ok (.iinc 2 1, 3) := by decide +kernel
theorem dX3_leastTo_38 : decode cX3_leastTo 38 = .ok (.goto (-22), 3) := by decide +kernel
theorem dX3_leastTo_41 : decode cX3_leastTo 41 = .ok (.iconst (-1), 1) := by decide +kernel
theorem dX3_leastTo_42 : decode cX3_leastTo 42 = .ok (.ireturn, 1) := by decide +kernel
theorem dX3_wireOf_0 : decode cX3_wireOf 0 = .ok (.iload_n 1, 1) := by decide +kernel
theorem dX3_wireOf_1 : decode cX3_wireOf 1 = .ok (.aload_n 0, 1) := by decide +kernel
theorem dX3_wireOf_2 : decode cX3_wireOf 2 = .ok (.getfield 9, 3) := by decide +kernel
theorem dX3_wireOf_5 : decode cX3_wireOf 5 = .ok (.imul, 1) := by decide +kernel
theorem dX3_wireOf_6 : decode cX3_wireOf 6 = .ok (.iload_n 2, 1) := by decide +kernel
theorem dX3_wireOf_7 : decode cX3_wireOf 7 = .ok (.iadd, 1) := by decide +kernel
theorem dX3_wireOf_8 : decode cX3_wireOf 8 = .ok (.ireturn, 1) := by decide +kernel
theorem dX3_slotOf_0 : decode cX3_slotOf 0 = .ok (.iload_n 1, 1) := by decide +kernel
theorem dX3_slotOf_1 : decode cX3_slotOf 1 = .ok (.bipush 8, 2) := by decide +kernel
theorem dX3_slotOf_3 : decode cX3_slotOf 3 = .ok (.imul, 1) := by decide +kernel
theorem dX3_slotOf_4 : decode cX3_slotOf 4 = .ok (.aload_n 0, 1) := by decide +kernel
theorem dX3_slotOf_5 : decode cX3_slotOf 5 = .ok (.getfield 19, 3) := by decide +kernel
theorem dX3_slotOf_8 : decode cX3_slotOf 8 = .ok (.iload_n 1, 1) := by decide +kernel
theorem dX3_slotOf_9 : decode cX3_slotOf 9 = .ok (.iaload, 1) := by decide +kernel
theorem dX3_slotOf_10 : decode cX3_slotOf 10 = .ok (.iload_n 2, 1) := by decide +kernel
theorem dX3_slotOf_11 : decode cX3_slotOf 11 = .ok (.iadd, 1) := by decide +kernel
theorem dX3_slotOf_12 : decode cX3_slotOf 12 = .ok (.bipush 8, 2) := by decide +kernel
theorem dX3_slotOf_14 : decode cX3_slotOf 14 = .ok (.irem, 1) := by decide +kernel
theorem dX3_slotOf_15 : decode cX3_slotOf 15 = .ok (.iadd, 1) := by decide +kernel
theorem dX3_slotOf_16 : decode cX3_slotOf 16 = .ok (.iconst 3, 1) := by decide +kernel
theorem dX3_slotOf_17 : decode cX3_slotOf 17 = .ok (.imul, 1) := by decide +kernel
theorem dX3_slotOf_18 : decode cX3_slotOf 18 = .ok (.ireturn, 1) := by decide +kernel
end
section
set_option maxRecDepth 20000 in
theorem ggX4_init_X3_init : GoodIn wsX4_init wsX3_init := goodIn_r _ [29, 30, 2, 3, 31, 12, 32, 33, 34, 35, 98, 99, 100, 101, 102] (by decide +kernel) (by decide +kernel)
set_option maxRecDepth 20000 in
theorem gX4_init_X3_init : GoodIn wsX4_init (wsX3_init) := ggX4_init_X3_init
set_option maxRecDepth 20000 in
theorem ggX4_init_X4_quorumOf : GoodIn wsX4_init wsX4_quorumOf := goodIn_r _ [39] (by decide +kernel) (by decide +kernel)
set_option maxRecDepth 20000 in
theorem gX4_init_X4_quorumOf : GoodIn wsX4_init (va_wsS RX4 50 yX4_quorumOf wsX4_quorumOf) := goodIn_app (goodIn_of _ (by decide +kernel)) ggX4_init_X4_quorumOf
set_option maxRecDepth 20000 in
theorem ggX4_init_X0_init : GoodIn wsX4_init wsX0_init := goodIn_r _ [41, 42, 2, 3] (by decide +kernel) (by decide +kernel)
set_option maxRecDepth 20000 in
theorem gX4_init_X0_init_n53 : GoodIn wsX4_init (wsX0_init) := ggX4_init_X0_init
set_option maxRecDepth 20000 in
theorem ggX4_init_X2_init : GoodIn wsX4_init wsX2_init := goodIn_r _ [45, 46, 2, 3, 47, 48, 49, 50, 51, 52, 53, 54, 12, 55, 56, 112, 113, 114, 108, 109, 110, 111] (by decide +kernel) (by decide +kernel)
set_option maxRecDepth 20000 in
theorem gX4_init_X2_init : GoodIn wsX4_init (wsX2_init) := ggX4_init_X2_init
set_option maxRecDepth 20000 in
theorem ggX4_init_X4_init_ : GoodIn wsX4_init wsX4_init_ := goodIn_r _ [60, 11, 14, 16, 18, 22, 61, 62, 63, 64, 24, 65, 66, 67, 68, 69, 70, 71, 72, 73, 74, 75, 76, 77, 26, 78, 50, 79, 80, 81, 82, 83, 84, 85, 86, 87, 88, 89, 21, 90, 34, 33, 31, 35, 91, 92, 93, 94, 95, 96, 97, 103, 104, 105, 106, 107, 108, 109, 110, 111, 112, 113, 114, 98, 99, 100, 101, 102] (by decide +kernel) (by decide +kernel)
set_option maxRecDepth 20000 in
theorem gX4_init_X4_init_ : GoodIn wsX4_init (wsV RX4 55 RX4 yX4_init_ wsX4_init_) := goodIn_app (goodIn_of _ (by decide +kernel)) ggX4_init_X4_init_
theorem dX4_init_0 : decode cX4_init 0 = .ok (.aload_n 0, 1) := by decide +kernel
theorem dX4_init_1 : decode cX4_init 1 = .ok (.invokespecial 1, 3) := by decide +kernel
theorem dX4_init_4 : decode cX4_init 4 = .ok (.iload_n 1, 1) := by decide +kernel
theorem dX4_init_5 : decode cX4_init 5 = .ok (.iconst 1, 1) := by decide +kernel
theorem dX4_init_6 : decode cX4_init 6 = .ok (.invokestatic 7, 3) := by decide +kernel
theorem dX4_init_9 : decode cX4_init 9 = .ok (.iconst 4, 1) := by decide +kernel
theorem dX4_init_10 : decode cX4_init 10 = .ok (.invokestatic 15, 3) := by decide +kernel
theorem dX4_init_13 : decode cX4_init 13 = .ok (.istore_n 2, 1) := by decide +kernel
theorem dX4_init_14 : decode cX4_init 14 = .ok (.aload_n 0, 1) := by decide +kernel
theorem dX4_init_15 : decode cX4_init 15 = .ok (.iload_n 2, 1) := by decide +kernel
theorem dX4_init_16 : decode cX4_init 16 = .ok (.iload_n 2, 1) := by decide +kernel
theorem dX4_init_17 : decode cX4_init 17 = .ok (.imul, 1) := by decide +kernel
theorem dX4_init_18 : decode cX4_init 18 = .ok (.putfield 18, 3) := by decide +kernel
theorem dX4_init_21 : decode cX4_init 21 = .ok (.aload_n 0, 1) := by decide +kernel
theorem dX4_init_22 : decode cX4_init 22 = .ok (.aload_n 0, 1) := by decide +kernel
theorem dX4_init_23 : decode cX4_init 23 = .ok (.getfield 18, 3) := by decide +kernel
theorem dX4_init_26 : decode cX4_init 26 = .ok (.newarray .int, 2) := by decide +kernel
theorem dX4_init_28 : decode cX4_init 28 = .ok (.putfield 22, 3) := by decide +kernel
theorem dX4_init_31 : decode cX4_init 31 = .ok (.aload_n 0, 1) := by decide +kernel
theorem dX4_init_32 : decode cX4_init 32 = .ok (.aload_n 0, 1) := by decide +kernel
theorem dX4_init_33 : decode cX4_init 33 = .ok (.getfield 18, 3) := by decide +kernel
theorem dX4_init_36 : decode cX4_init 36 = .ok (.newarray .int, 2) := by decide +kernel
theorem dX4_init_38 : decode cX4_init 38 = .ok (.putfield 26, 3) := by decide +kernel
theorem dX4_init_41 : decode cX4_init 41 = .ok (.aload_n 0, 1) := by decide +kernel
theorem dX4_init_42 : decode cX4_init 42 = .ok (.aload_n 0, 1) := by decide +kernel
theorem dX4_init_43 : decode cX4_init 43 = .ok (.getfield 18, 3) := by decide +kernel
theorem dX4_init_46 : decode cX4_init 46 = .ok (.anewarray 29, 3) := by decide +kernel
theorem dX4_init_49 : decode cX4_init 49 = .ok (.putfield 31, 3) := by decide +kernel
theorem dX4_init_52 : decode cX4_init 52 = .ok (.aload_n 0, 1) := by decide +kernel
theorem dX4_init_53 : decode cX4_init 53 = .ok (.aload_n 0, 1) := by decide +kernel
theorem dX4_init_54 : decode cX4_init 54 = .ok (.getfield 18, 3) := by decide +kernel
theorem dX4_init_57 : decode cX4_init 57 = .ok (.anewarray 35, 3) := by decide +kernel
theorem dX4_init_60 : decode cX4_init 60 = .ok (.putfield 37, 3) := by decide +kernel
theorem dX4_init_63 : decode cX4_init 63 = .ok (.aload_n 0, 1) := by decide +kernel
theorem dX4_init_64 : decode cX4_init 64 = .ok (.new 41, 3) := by decide +kernel
theorem dX4_init_67 : decode cX4_init 67 = .ok (.dup, 1) := by decide +kernel
theorem dX4_init_68 : decode cX4_init 68 = .ok (.aload_n 0, 1) := by decide +kernel
theorem dX4_init_69 : decode cX4_init 69 = .ok (.getfield 18, 3) := by decide +kernel
theorem dX4_init_72 : decode cX4_init 72 = .ok (.invokespecial 43, 3) := by decide +kernel
theorem dX4_init_75 : decode cX4_init 75 = .ok (.putfield 46, 3) := by decide +kernel
theorem dX4_init_78 : decode cX4_init 78 = .ok (.iconst 0, 1) := by decide +kernel
theorem dX4_init_79 : decode cX4_init 79 = .ok (.istore_n 3, 1) := by decide +kernel
theorem dX4_init_80 : decode cX4_init 80 = .ok (.iload_n 3, 1) := by decide +kernel
theorem dX4_init_81 : decode cX4_init 81 = .ok (.aload_n 0, 1) := by decide +kernel
theorem dX4_init_82 : decode cX4_init 82 = .ok (.getfield 18, 3) := by decide +kernel
theorem dX4_init_85 : decode cX4_init 85 = .ok (.if_icmp .ge 51, 3) := by decide +kernel
theorem dX4_init_88 : decode cX4_init 88 = .ok (.aload_n 0, 1) := by decide +kernel
theorem dX4_init_89 : decode cX4_init 89 = .ok (.getfield 22, 3) := by decide +kernel
theorem dX4_init_92 : decode cX4_init 92 = .ok (.iload_n 3, 1) := by decide +kernel
theorem dX4_init_93 : decode cX4_init 93 = .ok (.iload_n 3, 1) := by decide +kernel
theorem dX4_init_94 : decode cX4_init 94 = .ok (.iload_n 2, 1) := by decide +kernel
theorem dX4_init_95 : decode cX4_init 95 = .ok (.invokestatic 50, 3) := by decide +kernel
theorem dX4_init_98 : decode cX4_init 98 = .ok (.iastore, 1) := by decide +kernel
theorem dX4_init_99 : decode cX4_init 99 = .ok (.aload_n 0, 1) := by decide +kernel
theorem dX4_init_100 : decode cX4_init 100 = .ok (.getfield 31, 3) := by decide +kernel
theorem dX4_init_103 : decode cX4_init 103 = .ok (.iload_n 3, 1) := by decide +kernel
theorem dX4_init_104 : decode cX4_init 104 = .ok (.new 29, 3) := by decide +kernel
theorem dX4_init_107 : decode cX4_init 107 = .ok (.dup, 1) := by decide +kernel
theorem dX4_init_108 : decode cX4_init 108 = .ok (.invokespecial 53, 3) := by decide +kernel
theorem dX4_init_111 : decode cX4_init 111 = .ok (.aastore, 1) := by decide +kernel
theorem dX4_init_112 : decode cX4_init 112 = .ok (.aload_n 0, 1) := by decide +kernel
theorem dX4_init_113 : decode cX4_init 113 = .ok (.getfield 37, 3) := by decide +kernel
theorem dX4_init_116 : decode cX4_init 116 = .ok (.iload_n 3, 1) := by decide +kernel
theorem dX4_init_117 : decode cX4_init 117 = .ok (.new 35, 3) := by decide +kernel
theorem dX4_init_120 : decode cX4_init 120 = .ok (.dup, 1) := by decide +kernel
theorem dX4_init_121 : decode cX4_init 121 = .ok (.iconst 2, 1) := by decide +kernel
theorem dX4_init_122 : decode cX4_init 122 = .ok (.iload_n 2, 1) := by decide +kernel
theorem dX4_init_123 : decode cX4_init 123 = .ok (.imul, 1) := by decide +kernel
theorem dX4_init_124 : decode cX4_init 124 = .ok (.iconst 1, 1) := by decide +kernel
theorem dX4_init_125 : decode cX4_init 125 = .ok (.isub, 1) := by decide +kernel
theorem dX4_init_126 : decode cX4_init 126 = .ok (.invokespecial 54, 3) := by decide +kernel
theorem dX4_init_129 : decode cX4_init 129 = .ok (.aastore, 1) := by decide +kernel
theorem dX4_init_130 : decode cX4_init 130 = .ok (.iinc 3 1, 3) := by decide +kernel
theorem dX4_init_133 : decode cX4_init 133 = .ok (.goto (-53), 3) := by decide +kernel
theorem dX4_init_136 : decode cX4_init 136 = .ok (.aload_n 0, 1) := by decide +kernel
theorem dX4_init_137 : decode cX4_init 137 = .ok (.invokevirtual 55, 3) := by decide +kernel
theorem dX4_init_140 : decode cX4_init 140 = .ok (.return_, 1) := by decide +kernel
set_option maxRecDepth 20000 in
theorem ggX4_init__X0_becomeIdle : GoodIn wsX4_init_ wsX0_becomeIdle := goodIn_r _ [11, 12, 13, 14, 15, 16, 10, 17, 18, 19, 20, 51, 52, 53, 54, 55] (by decide +kernel) (by decide +kernel)
set_option maxRecDepth 20000 in
theorem gX4_init__X0_becomeIdle : GoodIn wsX4_init_ (wsV RX4 58 RX0 yX0_becomeIdle wsX0_becomeIdle) := goodIn_app (goodIn_of _ (by decide +kernel)) ggX4_init__X0_becomeIdle
set_option maxRecDepth 20000 in
theorem ggX4_init__X2_forgetAll : GoodIn wsX4_init_ wsX2_forgetAll := goodIn_r _ [25, 26, 27, 28, 29, 30, 24, 31, 32, 33, 34, 56, 57, 58, 59, 60, 61, 62] (by decide +kernel) (by decide +kernel)
set_option maxRecDepth 20000 in
theorem gX4_init__X2_forgetAll : GoodIn wsX4_init_ (wsV RX4 61 RX2 yX2_forgetAll wsX2_forgetAll) := goodIn_app (goodIn_of _ (by decide +kernel)) ggX4_init__X2_forgetAll
set_option maxRecDepth 20000 in
theorem ggX4_init__X3_emptyAll : GoodIn wsX4_init_ wsX3_emptyAll := goodIn_r _ [39, 40, 41, 42, 43, 63, 64, 65, 66, 67] (by decide +kernel) (by decide +kernel)
set_option maxRecDepth 20000 in
theorem gX4_init__X3_emptyAll : GoodIn wsX4_init_ (wsV RX4 64 RX3 yX3_emptyAll wsX3_emptyAll) := goodIn_app (goodIn_of _ (by decide +kernel)) ggX4_init__X3_emptyAll
theorem dX4_init__0 : decode cX4_init_ 0 = .ok (.iconst 0, 1) := by decide +kernel
theorem dX4_init__1 : decode cX4_init_ 1 = .ok (.istore_n 1, 1) := by decide +kernel
theorem dX4_init__2 : decode cX4_init_ 2 = .ok (.iload_n 1, 1) := by decide +kernel
theorem dX4_init__3 : decode cX4_init_ 3 = .ok (.aload_n 0, 1) := by decide +kernel
theorem dX4_init__4 : decode cX4_init_ 4 = .ok (.getfield 18, 3) := by decide +kernel
theorem dX4_init__7 : decode cX4_init_ 7 = .ok (.if_icmp .ge 34, 3) := by decide +kernel
theorem dX4_init__10 : decode cX4_init_ 10 = .ok (.aload_n 0, 1) := by decide +kernel
theorem dX4_init__11 : decode cX4_init_ 11 = .ok (.getfield 26, 3) := by decide +kernel
theorem dX4_init__14 : decode cX4_init_ 14 = .ok (.iload_n 1, 1) := by decide +kernel
theorem dX4_init__15 : decode cX4_init_ 15 = .ok (.iconst 0, 1) := by decide +kernel
theorem dX4_init__16 : decode cX4_init_ 16 = .ok (.iastore, 1) := by decide +kernel
theorem dX4_init__17 : decode cX4_init_ 17 = .ok (.aload_n 0, 1) := by decide +kernel
theorem dX4_init__18 : decode cX4_init_ 18 = .ok (.getfield 31, 3) := by decide +kernel
theorem dX4_init__21 : decode cX4_init_ 21 = .ok (.iload_n 1, 1) := by decide +kernel
theorem dX4_init__22 : decode cX4_init_ 22 = .ok (.aaload, 1) := by decide +kernel
theorem dX4_init__23 : decode cX4_init_ 23 = .ok (.invokevirtual 58, 3) := by decide +kernel
theorem dX4_init__26 : decode cX4_init_ 26 = .ok (.aload_n 0, 1) := by decide +kernel
theorem dX4_init__27 : decode cX4_init_ 27 = .ok (.getfield 37, 3) := by decide +kernel
theorem dX4_init__30 : decode cX4_init_ 30 = .ok (.iload_n 1, 1) := by decide +kernel
theorem dX4_init__31 : decode cX4_init_ 31 = .ok (.aaload, 1) := by decide +kernel
theorem dX4_init__32 : decode cX4_init_ 32 = .ok (.invokevirtual 61, 3) := by decide +kernel
theorem dX4_init__35 : decode cX4_init_ 35 = .ok (.iinc 1 1, 3) := by decide +kernel
theorem dX4_init__38 : decode cX4_init_ 38 = .ok (.goto (-36), 3) := by decide +kernel
theorem dX4_init__41 : decode cX4_init_ 41 = .ok (.aload_n 0, 1) := by decide +kernel
theorem dX4_init__42 : decode cX4_init_ 42 = .ok (.getfield 46, 3) := by decide +kernel
theorem dX4_init__45 : decode cX4_init_ 45 = .ok (.invokevirtual 64, 3) := by decide +kernel
theorem dX4_init__48 : decode cX4_init_ 48 = .ok (.aload_n 0, 1) := by decide +kernel
theorem dX4_init__49 : decode cX4_init_ 49 = .ok (.iconst 0, 1) := by decide +kernel
theorem dX4_init__50 : decode cX4_init_ 50 = .ok (.putfield 67, 3) := by decide +kernel
theorem dX4_init__53 : decode cX4_init_ 53 = .ok (.return_, 1) := by decide +kernel
set_option maxRecDepth 20000 in
theorem ggX4_request_X4_isNode : GoodIn wsX4_request wsX4_isNode := goodIn_r _ [9, 10, 56, 57, 58, 59, 60, 61, 62] (by decide +kernel) (by decide +kernel)
set_option maxRecDepth 20000 in
theorem gX4_request_X4_isNode : GoodIn wsX4_request (wsV RX4 70 RX4 yX4_isNode wsX4_isNode) := goodIn_app (goodIn_of _ (by decide +kernel)) ggX4_request_X4_isNode
set_option maxRecDepth 20000 in
theorem ggX4_request_X0_becomeAsking : GoodIn wsX4_request wsX0_becomeAsking := goodIn_r _ [15, 16, 17, 18, 19, 20, 14, 21, 22, 23, 24, 63, 64, 65, 66, 67] (by decide +kernel) (by decide +kernel)
set_option maxRecDepth 20000 in
theorem gX4_request_X0_becomeAsking : GoodIn wsX4_request (wsV RX4 77 RX0 yX0_becomeAsking wsX0_becomeAsking) := goodIn_app (goodIn_of _ (by decide +kernel)) ggX4_request_X0_becomeAsking
set_option maxRecDepth 20000 in
theorem ggX4_request_X4_sendToQuorum : GoodIn wsX4_request wsX4_sendToQuorum := goodIn_r _ [28, 10, 29, 30, 31, 8, 32, 33, 34, 35, 36, 37, 3, 38, 39, 40, 41, 42, 43, 44, 45, 46, 47, 48, 49, 50, 51, 52, 53, 54, 55, 56, 57, 58, 59, 60, 61, 62, 68, 69, 70, 71, 72] (by decide +kernel) (by decide +kernel)
set_option maxRecDepth 20000 in
theorem gX4_request_X4_sendToQuorum : GoodIn wsX4_request (wsV RX4 83 RX4 yX4_sendToQuorum wsX4_sendToQuorum) := goodIn_app (goodIn_of _ (by decide +kernel)) ggX4_request_X4_sendToQuorum
theorem dX4_request_0 : decode cX4_request 0 = .ok (.aload_n 0, 1) := by decide +kernel
theorem dX4_request_1 : decode cX4_request 1 = .ok (.iload_n 1, 1) := by decide +kernel
theorem dX4_request_2 : decode cX4_request 2 = .ok (.invokevirtual 70, 3) := by decide +kernel
theorem dX4_request_5 : decode cX4_request 5 = .ok (.ifCond .ne 5, 3) := by decide +kernel
theorem dX4_request_8 : decode cX4_request 8 = .ok (.iconst (-1), 1) := by decide +kernel
theorem dX4_request_9 : decode cX4_request 9 = .ok (.ireturn, 1) := by decide +kernel
theorem dX4_request_10 : decode cX4_request 10 = .ok (.aload_n 0, 1) := by decide +kernel
theorem dX4_request_11 : decode cX4_request 11 = .ok (.getfield 31, 3) := by decide +kernel
theorem dX4_request_14 : decode cX4_request 14 = .ok (.iload_n 1, 1) := by decide +kernel
theorem dX4_request_15 : decode cX4_request 15 = .ok (.aaload, 1) := by decide +kernel
theorem dX4_request_16 : decode cX4_request 16 = .ok (.astore_n 2, 1) := by decide +kernel
theorem dX4_request_17 : decode cX4_request 17 = .ok (.aload_n 2, 1) := by decide +kernel
theorem dX4_request_18 : decode cX4_request 18 = .ok (.getfield 74, 3) := by decide +kernel
theorem dX4_request_21 : decode cX4_request 21 = .ok (.ifCond .eq 5, 3) := by decide +kernel
theorem dX4_request_24 : decode cX4_request 24 = .ok (.iconst 1, 1) := by decide +kernel
theorem dX4_request_25 : decode cX4_request 25 = .ok (.ireturn, 1) := by decide +kernel
theorem dX4_request_26 : decode cX4_request 26 = .ok (.aload_n 0, 1) := by decide +kernel
theorem dX4_request_27 : decode cX4_request 27 = .ok (.getfield 26, 3) := by decide +kernel
theorem dX4_request_30 : decode cX4_request 30 = .ok (.iload_n 1, 1) := by decide +kernel
theorem dX4_request_31 : decode cX4_request 31 = .ok (.dup2, 1) := by decide +kernel
theorem dX4_request_32 : decode cX4_request 32 = .ok (.iaload, 1) := by decide +kernel
theorem dX4_request_33 : decode cX4_request 33 = .ok (.iconst 1, 1) := by decide +kernel
theorem dX4_request_34 : decode cX4_request 34 = .ok (.iadd, 1) := by decide +kernel
theorem dX4_request_35 : decode cX4_request 35 = .ok (.iastore, 1) := by decide +kernel
theorem dX4_request_36 : decode cX4_request 36 = .ok (.aload_n 2, 1) := by decide +kernel
theorem dX4_request_37 : decode cX4_request 37 = .ok (.aload_n 0, 1) := by decide +kernel
theorem dX4_request_38 : decode cX4_request 38 = .ok (.getfield 26, 3) := by decide +kernel
theorem dX4_request_41 : decode cX4_request 41 = .ok (.iload_n 1, 1) := by decide +kernel
theorem dX4_request_42 : decode cX4_request 42 = .ok (.iaload, 1) := by decide +kernel
theorem dX4_request_43 : decode cX4_request 43 = .ok (.invokevirtual 77, 3) := by decide +kernel
theorem dX4_request_46 : decode cX4_request 46 = .ok (.aload_n 0, 1) := by decide +kernel
theorem dX4_request_47 : decode cX4_request 47 = .ok (.iload_n 1, 1) := by decide +kernel
theorem dX4_request_48 : decode cX4_request 48 = .ok (.iconst 1, 1) := by decide +kernel
theorem dX4_request_49 : decode cX4_request 49 = .ok (.aload_n 2, 1) := by decide +kernel
theorem dX4_request_50 : decode cX4_request 50 = .ok (.getfield 80, 3) := by decide +kernel
theorem dX4_request_53 : decode cX4_request 53 = .ok (.invokevirtual 83, 3) := by decide +kernel
theorem dX4_request_56 : decode cX4_request 56 = .ok (.iconst 0, 1) := by decide +kernel
theorem dX4_request_57 : decode cX4_request 57 = .ok (.ireturn, 1) := by decide +kernel
set_option maxRecDepth 20000 in
theorem ggX4_deliver_X4_isWire : GoodIn wsX4_deliver wsX4_isWire := goodIn_r _ [5, 6, 7, 8, 4, 9, 10, 163, 164, 165, 166, 167, 168, 169] (by decide +kernel) (by decide +kernel)
set_option maxRecDepth 20000 in
theorem gX4_deliver_X4_isWire : GoodIn wsX4_deliver (wsV RX4 87 RX4 yX4_isWire wsX4_isWire) := goodIn_app (goodIn_of _ (by decide +kernel)) ggX4_deliver_X4_isWire
set_option maxRecDepth 20000 in
theorem ggX4_deliver_X4_deliverOldest : GoodIn wsX4_deliver wsX4_deliverOldest := goodIn_r _ [14, 15, 16, 17, 18, 19, 20, 21, 22, 23, 24, 25, 26, 27, 28, 29, 30, 31, 32, 33, 34, 35, 36, 37, 38, 39, 40, 41, 42, 43, 44, 45, 46, 47, 48, 49, 4, 50, 51, 52, 53, 54, 55, 56, 57, 58, 59, 60, 61, 62, 63, 64, 65, 66, 67, 68, 69, 70, 71, 72, 73, 74, 75, 76, 77, 78, 79, 80, 81, 82, 83, 84, 85, 86, 87, 88, 89, 90, 91, 92, 93, 94, 95, 96, 97, 98, 99, 100, 101, 102, 103, 104, 105, 106, 107, 108, 109, 110, 111, 112, 113, 114, 115, 116, 117, 118, 119, 120, 121, 122, 123, 124, 125, 126, 127, 128, 129, 130, 131, 132, 133, 134, 135, 136, 137, 138, 139, 140, 141, 142, 143, 144, 145, 146, 147, 148, 149, 150, 151, 152, 153, 154, 155, 156, 157, 158, 159, 160, 161, 162, 10, 163, 164, 165, 166, 167, 168, 169, 170, 171, 172, 173, 174, 175, 176, 177, 178, 179, 180, 181, 182, 183, 184, 185, 186] (by decide +kernel) (by decide +kernel)
set_option maxRecDepth 20000 in
theorem gX4_deliver_X4_deliverOldest : GoodIn wsX4_deliver (wsV RX4 91 RX4 yX4_deliverOldest wsX4_deliverOldest) := goodIn_app (goodIn_of _ (by decide +kernel)) ggX4_deliver_X4_deliverOldest
theorem dX4_deliver_0 : decode cX4_deliver 0 = .ok (.aload_n 0, 1) := by decide +kernel
theorem dX4_deliver_1 : decode cX4_deliver 1 = .ok (.iload_n 1, 1) := by decide +kernel
theorem dX4_deliver_2 : decode cX4_deliver 2 = .ok (.iload_n 2, 1) := by decide +kernel
theorem dX4_deliver_3 : decode cX4_deliver 3 = .ok (.invokevirtual 87, 3) := by decide +kernel
theorem dX4_deliver_6 : decode cX4_deliver 6 = .ok (.ifCond .ne 5, 3) := by decide +kernel
theorem dX4_deliver_9 : decode cX4_deliver 9 = .ok (.iconst (-1), 1) := by decide +kernel
theorem dX4_deliver_10 : decode cX4_deliver 10 = .ok (.ireturn, 1) := by decide +kernel
theorem dX4_deliver_11 : decode cX4_deliver 11 = .ok (.aload_n 0, 1) := by decide +kernel
theorem dX4_deliver_12 : decode cX4_deliver 12 = .ok (.iload_n 1, 1) := by decide +kernel
theorem dX4_deliver_13 : decode cX4_deliver 13 = .ok (.iload_n 2, 1) := by decide +kernel
theorem dX4_deliver_14 : decode cX4_deliver 14 = .ok (.invokevirtual 91, 3) := by decide +kernel
theorem dX4_deliver_17 : decode cX4_deliver 17 = .ok (.ireturn, 1) := by decide +kernel
set_option maxRecDepth 20000 in
theorem ggX4_enter_X4_isNode : GoodIn wsX4_enter wsX4_isNode := goodIn_r _ [10, 11, 12, 13, 14, 15, 16, 17, 18] (by decide +kernel) (by decide +kernel)
set_option maxRecDepth 20000 in
theorem gX4_enter_X4_isNode : GoodIn wsX4_enter (wsV RX4 70 RX4 yX4_isNode wsX4_isNode) := goodIn_app (goodIn_of _ (by decide +kernel)) ggX4_enter_X4_isNode
theorem dX4_enter_0 : decode cX4_enter 0 = .ok (.aload_n 0, 1) := by decide +kernel
theorem dX4_enter_1 : decode cX4_enter 1 = .ok (.iload_n 1, 1) := by decide +kernel
theorem dX4_enter_2 : decode cX4_enter 2 = .ok (.invokevirtual 70, 3) := by decide +kernel
theorem dX4_enter_5 : decode cX4_enter 5 = .ok (.ifCond .ne 5, 3) := by decide +kernel
theorem dX4_enter_8 : decode cX4_enter 8 = .ok (.iconst 0, 1) := by decide +kernel
theorem dX4_enter_9 : decode cX4_enter 9 = .ok (.ireturn, 1) := by decide +kernel
theorem dX4_enter_10 : decode cX4_enter 10 = .ok (.aload_n 0, 1) := by decide +kernel
theorem dX4_enter_11 : decode cX4_enter 11 = .ok (.getfield 31, 3) := by decide +kernel
theorem dX4_enter_14 : decode cX4_enter 14 = .ok (.iload_n 1, 1) := by decide +kernel
theorem dX4_enter_15 : decode cX4_enter 15 = .ok (.aaload, 1) := by decide +kernel
theorem dX4_enter_16 : decode cX4_enter 16 = .ok (.astore_n 2, 1) := by decide +kernel
theorem dX4_enter_17 : decode cX4_enter 17 = .ok (.aload_n 2, 1) := by decide +kernel
theorem dX4_enter_18 : decode cX4_enter 18 = .ok (.getfield 74, 3) := by decide +kernel
theorem dX4_enter_21 : decode cX4_enter 21 = .ok (.iconst 1, 1) := by decide +kernel
theorem dX4_enter_22 : decode cX4_enter 22 = .ok (.if_icmp .ne 23, 3) := by decide +kernel
theorem dX4_enter_25 : decode cX4_enter 25 = .ok (.aload_n 2, 1) := by decide +kernel
theorem dX4_enter_26 : decode cX4_enter 26 = .ok (.getfield 94, 3) := by decide +kernel
theorem dX4_enter_29 : decode cX4_enter 29 = .ok (.aload_n 0, 1) := by decide +kernel
theorem dX4_enter_30 : decode cX4_enter 30 = .ok (.getfield 22, 3) := by decide +kernel
theorem dX4_enter_33 : decode cX4_enter 33 = .ok (.iload_n 1, 1) := by decide +kernel
theorem dX4_enter_34 : decode cX4_enter 34 = .ok (.iaload, 1) := by decide +kernel
theorem dX4_enter_35 : decode cX4_enter 35 = .ok (.iand, 1) := by decide +kernel
theorem dX4_enter_36 : decode cX4_enter 36 = .ok (.aload_n 0, 1) := by decide +kernel
theorem dX4_enter_37 : decode cX4_enter 37 = .ok (.getfield 22, 3) := by decide +kernel
theorem dX4_enter_40 : decode cX4_enter 40 = .ok (.iload_n 1, 1) := by decide +kernel
theorem dX4_enter_41 : decode cX4_enter 41 = .ok (.iaload, 1) := by decide +kernel
theorem dX4_enter_42 : decode cX4_enter 42 = .ok (.if_icmp .eq 5, 3) := by decide +kernel
theorem dX4_enter_45 : decode cX4_enter 45 = .ok (.iconst 0, 1) := by decide +kernel
theorem dX4_enter_46 : decode cX4_enter 46 = .ok (.ireturn, 1) := by decide +kernel
theorem dX4_enter_47 : decode cX4_enter 47 = .ok (.aload_n 2, 1) := by decide +kernel
theorem dX4_enter_48 : decode cX4_enter 48 = .ok (.iconst 2, 1) := by decide +kernel
theorem dX4_enter_49 : decode cX4_enter 49 = .ok (.putfield 74, 3) := by decide +kernel
theorem dX4_enter_52 : decode cX4_enter 52 = .ok (.aload_n 0, 1) := by decide +kernel
theorem dX4_enter_53 : decode cX4_enter 53 = .ok (.dup, 1) := by decide +kernel
theorem dX4_enter_54 : decode cX4_enter 54 = .ok (.getfield 67, 3) := by decide +kernel
theorem dX4_enter_57 : decode cX4_enter 57 = .ok (.iconst 1, 1) := by decide +kernel
theorem dX4_enter_58 : decode cX4_enter 58 = .ok (.iadd, 1) := by decide +kernel
theorem dX4_enter_59 : decode cX4_enter 59 = .ok (.putfield 67, 3) := by decide +kernel
theorem dX4_enter_62 : decode cX4_enter 62 = .ok (.iconst 1, 1) := by decide +kernel
theorem dX4_enter_63 : decode cX4_enter 63 = .ok (.ireturn, 1) := by decide +kernel
set_option maxRecDepth 20000 in
theorem ggX4_release_X4_isNode : GoodIn wsX4_release wsX4_isNode := goodIn_r _ [8, 9, 56, 57, 58, 59, 60, 61, 62] (by decide +kernel) (by decide +kernel)
set_option maxRecDepth 20000 in
theorem gX4_release_X4_isNode : GoodIn wsX4_release (wsV RX4 70 RX4 yX4_isNode wsX4_isNode) := goodIn_app (goodIn_of _ (by decide +kernel)) ggX4_release_X4_isNode
set_option maxRecDepth 20000 in
theorem ggX4_release_X0_becomeIdle : GoodIn wsX4_release wsX0_becomeIdle := goodIn_r _ [14, 15, 16, 17, 18, 19, 13, 20, 21, 22, 23, 63, 64, 65, 66, 67] (by decide +kernel) (by decide +kernel)
set_option maxRecDepth 20000 in
theorem gX4_release_X0_becomeIdle : GoodIn wsX4_release (wsV RX4 58 RX0 yX0_becomeIdle wsX0_becomeIdle) := goodIn_app (goodIn_of _ (by decide +kernel)) ggX4_release_X0_becomeIdle
set_option maxRecDepth 20000 in
theorem ggX4_release_X4_sendToQuorum : GoodIn wsX4_release wsX4_sendToQuorum := goodIn_r _ [27, 9, 28, 29, 30, 7, 31, 32, 33, 34, 35, 36, 37, 38, 39, 40, 41, 42, 43, 44, 45, 46, 47, 48, 49, 50, 51, 52, 53, 54, 55, 56, 57, 58, 59, 60, 61, 62, 68, 69, 70, 71, 72] (by decide +kernel) (by decide +kernel)
set_option maxRecDepth 20000 in
theorem gX4_release_X4_sendToQuorum : GoodIn wsX4_release (wsV RX4 83 RX4 yX4_sendToQuorum wsX4_sendToQuorum) := goodIn_app (goodIn_of _ (by decide +kernel)) ggX4_release_X4_sendToQuorum
theorem dX4_release_0 : decode cX4_release 0 = .ok (.aload_n 0, 1) := by decide +kernel
theorem dX4_release_1 : decode cX4_release 1 = .ok (.iload_n 1, 1) := by decide +kernel
theorem dX4_release_2 : decode cX4_release 2 = .ok (.invokevirtual 70, 3) := by decide +kernel
theorem dX4_release_5 : decode cX4_release 5 = .ok (.ifCond .ne 5, 3) := by decide +kernel
theorem dX4_release_8 : decode cX4_release 8 = .ok (.iconst (-1), 1) := by decide +kernel
theorem dX4_release_9 : decode cX4_release 9 = .ok (.ireturn, 1) := by decide +kernel
theorem dX4_release_10 : decode cX4_release 10 = .ok (.aload_n 0, 1) := by decide +kernel
theorem dX4_release_11 : decode cX4_release 11 = .ok (.getfield 31, 3) := by decide +kernel
theorem dX4_release_14 : decode cX4_release 14 = .ok (.iload_n 1, 1) := by decide +kernel
theorem dX4_release_15 : decode cX4_release 15 = .ok (.aaload, 1) := by decide +kernel
theorem dX4_release_16 : decode cX4_release 16 = .ok (.astore_n 2, 1) := by decide +kernel
theorem dX4_release_17 : decode cX4_release 17 = .ok (.aload_n 2, 1) := by decide +kernel
theorem dX4_release_18 : decode cX4_release 18 = .ok (.getfield 74, 3) := by decide +kernel
theorem dX4_release_21 : decode cX4_release 21 = .ok (.iconst 2, 1) := by decide +kernel
theorem dX4_release_22 : decode cX4_release 22 = .ok (.if_icmp .eq 5, 3) := by decide +kernel
theorem dX4_release_25 : decode cX4_release 25 = .ok (.iconst 1, 1) := by decide +kernel
theorem dX4_release_26 : decode cX4_release 26 = .ok (.ireturn, 1) := by decide +kernel
theorem dX4_release_27 : decode cX4_release 27 = .ok (.aload_n 2, 1) := by decide +kernel
theorem dX4_release_28 : decode cX4_release 28 = .ok (.getfield 80, 3) := by decide +kernel
theorem dX4_release_31 : decode cX4_release 31 = .ok (.istore_n 3, 1) := by decide +kernel
theorem dX4_release_32 : decode cX4_release 32 = .ok (.aload_n 2, 1) := by decide +kernel
theorem dX4_release_33 : decode cX4_release 33 = .ok (.invokevirtual 58, 3) := by decide +kernel
theorem dX4_release_36 : decode cX4_release 36 = .ok (.aload_n 0, 1) := by decide +kernel
theorem dX4_release_37 : decode cX4_release 37 = .ok (.iload_n 1, 1) := by decide +kernel
theorem dX4_release_38 : decode cX4_release 38 = .ok (.iconst 3, 1) := by decide +kernel
theorem dX4_release_39 : decode cX4_release 39 = .ok (.iload_n 3, 1) := by decide +kernel
theorem dX4_release_40 : decode cX4_release 40 = .ok (.invokevirtual 83, 3) := by decide +kernel
theorem dX4_release_43 : decode cX4_release 43 = .ok (.iconst 0, 1) := by decide +kernel
theorem dX4_release_44 : decode cX4_release 44 = .ok (.ireturn, 1) := by decide +kernel
theorem dX4_holder_0 : decode cX4_holder 0 = .ok (.iconst 0, 1) := by decide +kernel
theorem dX4_holder_1 : decode cX4_holder 1 = .ok (.istore_n 1, 1) := by decide +kernel
theorem dX4_holder_2 : decode cX4_holder 2 = .ok (.iload_n 1, 1) := by decide +kernel
theorem dX4_holder_3 : decode cX4_holder 3 = .ok (.aload_n 0, 1) := by decide +kernel
theorem dX4_holder_4 : decode cX4_holder 4 = .ok (.getfield 18, 3) := by decide +kernel
theorem dX4_holder_7 : decode cX4_holder 7 = .ok (.if_icmp .ge 24, 3) := by decide +kernel
theorem dX4_holder_10 : decode cX4_holder 10 = .ok (.aload_n 0, 1) := by decide +kernel
theorem dX4_holder_11 : decode cX4_holder 11 = .ok (.getfield 31, 3) := by decide +kernel
theorem dX4_holder_14 : decode cX4_holder 14 = .ok (.iload_n 1, 1) := by decide +kernel
theorem dX4_holder_15 : decode cX4_holder 15 = .ok (.aaload, 1) := by decide +kernel
theorem dX4_holder_16 : decode cX4_holder 16 = .ok (.getfield 74, 3) := by decide +kernel
theorem dX4_holder_19 : decode cX4_holder 19 = .ok (.iconst 2, 1) := by decide +kernel
theorem dX4_holder_20 : decode cX4_holder 20 = .ok (.if_icmp .ne 5, 3) := by decide +kernel
theorem dX4_holder_23 : decode cX4_holder 23 = .ok (.iload_n 1, 1) := by decide +kernel
theorem dX4_holder_24 : decode cX4_holder 24 = .ok (.ireturn, 1) := by decide +kernel
theorem dX4_holder_25 : decode cX4_holder 25 = .ok (.iinc 1 1, 3) := by decide +kernel
theorem dX4_holder_28 : decode cX4_holder 28 = .ok (.goto (-26), 3) := by decide +kernel
theorem dX4_holder_31 : decode cX4_holder 31 = .ok (.iconst (-1), 1) := by decide +kernel
theorem dX4_holder_32 : decode cX4_holder 32 = .ok (.ireturn, 1) := by decide +kernel
set_option maxRecDepth 20000 in
theorem ggX4_votesOf_X4_isNode : GoodIn wsX4_votesOf wsX4_isNode := goodIn_r _ [7, 8, 16, 17, 18, 19, 20, 21, 22] (by decide +kernel) (by decide +kernel)
set_option maxRecDepth 20000 in
theorem gX4_votesOf_X4_isNode : GoodIn wsX4_votesOf (wsV RX4 70 RX4 yX4_isNode wsX4_isNode) := goodIn_app (goodIn_of _ (by decide +kernel)) ggX4_votesOf_X4_isNode
set_option maxRecDepth 20000 in
theorem ggX4_votesOf_J6_bitCount_0f7a4 : GoodIn wsX4_votesOf wsJ6_bitCount_0f7a4 := goodIn_r _ [12, 13, 14, 15] (by decide +kernel) (by decide +kernel)
set_option maxRecDepth 20000 in
theorem gX4_votesOf_J6_bitCount_0f7a4 : GoodIn wsX4_votesOf (va_wsS RX4 97 yJ6_bitCount_0f7a4 wsJ6_bitCount_0f7a4) := goodIn_app (goodIn_of _ (by decide +kernel)) ggX4_votesOf_J6_bitCount_0f7a4
theorem dX4_votesOf_0 : decode cX4_votesOf 0 = .ok (.aload_n 0, 1) := by decide +kernel
theorem dX4_votesOf_1 : decode cX4_votesOf 1 = .ok (.iload_n 1, 1) := by decide +kernel
theorem dX4_votesOf_2 : decode cX4_votesOf 2 = .ok (.invokevirtual 70, 3) := by decide +kernel
theorem dX4_votesOf_5 : decode cX4_votesOf 5 = .ok (.ifCond .eq 18, 3) := by decide +kernel
theorem dX4_votesOf_8 : decode cX4_votesOf 8 = .ok (.aload_n 0, 1) := by decide +kernel
theorem dX4_votesOf_9 : decode cX4_votesOf 9 = .ok (.getfield 31, 3) := by decide +kernel
theorem dX4_votesOf_12 : decode cX4_votesOf 12 = .ok (.iload_n 1, 1) := by decide +kernel
theorem dX4_votesOf_13 : decode cX4_votesOf 13 = .ok (.aaload, 1) := by decide +kernel
theorem dX4_votesOf_14 : decode cX4_votesOf 14 = .ok (.getfield 94, 3) := by decide +kernel
theorem dX4_votesOf_17 : decode cX4_votesOf 17 = .ok (.invokestatic 97, 3) := by decide +kernel
theorem dX4_votesOf_20 : decode cX4_votesOf 20 = .ok (.goto 4, 3) := by decide +kernel
theorem dX4_votesOf_23 : decode cX4_votesOf 23 = .ok (.iconst (-1), 1) := by decide +kernel
theorem dX4_votesOf_24 : decode cX4_votesOf 24 = .ok (.ireturn, 1) := by decide +kernel
set_option maxRecDepth 20000 in
theorem ggX4_lockedFor_X4_isNode : GoodIn wsX4_lockedFor wsX4_isNode := goodIn_r _ [7, 8, 9, 10, 11, 12, 13, 14, 15] (by decide +kernel) (by decide +kernel)
set_option maxRecDepth 20000 in
theorem gX4_lockedFor_X4_isNode : GoodIn wsX4_lockedFor (wsV RX4 70 RX4 yX4_isNode wsX4_isNode) := goodIn_app (goodIn_of _ (by decide +kernel)) ggX4_lockedFor_X4_isNode
theorem dX4_lockedFor_0 : decode cX4_lockedFor 0 = .ok (.aload_n 0, 1) := by decide +kernel
theorem dX4_lockedFor_1 : decode cX4_lockedFor 1 = .ok (.iload_n 1, 1) := by decide +kernel
theorem dX4_lockedFor_2 : decode cX4_lockedFor 2 = .ok (.invokevirtual 70, 3) := by decide +kernel
theorem dX4_lockedFor_5 : decode cX4_lockedFor 5 = .ok (.ifCond .eq 15, 3) := by decide +kernel
theorem dX4_lockedFor_8 : decode cX4_lockedFor 8 = .ok (.aload_n 0, 1) := by decide +kernel
theorem dX4_lockedFor_9 : decode cX4_lockedFor 9 = .ok (.getfield 37, 3) := by decide +kernel
theorem dX4_lockedFor_12 : decode cX4_lockedFor 12 = .ok (.iload_n 1, 1) := by decide +kernel
theorem dX4_lockedFor_13 : decode cX4_lockedFor 13 = .ok (.aaload, 1) := by decide +kernel
theorem dX4_lockedFor_14 : decode cX4_lockedFor 14 = .ok (.getfield 103, 3) := by decide +kernel
theorem dX4_lockedFor_17 : decode cX4_lockedFor 17 = .ok (.goto 4, 3) := by decide +kernel
theorem dX4_lockedFor_20 : decode cX4_lockedFor 20 = .ok (.iconst (-1), 1) := by decide +kernel
theorem dX4_lockedFor_21 : decode cX4_lockedFor 21 = .ok (.ireturn, 1) := by decide +kernel
set_option maxRecDepth 20000 in
theorem ggX4_settle_X3_leastFrom : GoodIn wsX4_settle wsX3_leastFrom := goodIn_r _ [6, 7, 8, 171, 172, 173, 174, 175] (by decide +kernel) (by decide +kernel)
set_option maxRecDepth 20000 in
theorem gX4_settle_X3_leastFrom : GoodIn wsX4_settle (wsV RX4 106 RX3 yX3_leastFrom wsX3_leastFrom) := goodIn_app (goodIn_of _ (by decide +kernel)) ggX4_settle_X3_leastFrom
set_option maxRecDepth 20000 in
theorem ggX4_settle_X3_leastTo : GoodIn wsX4_settle wsX3_leastTo := goodIn_r _ [12, 7, 13, 14, 15, 5, 16, 17, 18, 19, 20, 21, 171, 172, 173, 174, 175] (by decide +kernel) (by decide +kernel)
set_option maxRecDepth 20000 in
theorem gX4_settle_X3_leastTo : GoodIn wsX4_settle (wsV RX4 110 RX3 yX3_leastTo wsX3_leastTo) := goodIn_app (goodIn_of _ (by decide +kernel)) ggX4_settle_X3_leastTo
set_option maxRecDepth 20000 in
theorem ggX4_settle_X4_deliverOldest : GoodIn wsX4_settle wsX4_deliverOldest := goodIn_r _ [26, 1, 27, 28, 29, 30, 31, 32, 14, 15, 5, 16, 17, 18, 19, 20, 21, 7, 33, 34, 35, 36, 37, 38, 39, 40, 41, 42, 43, 44, 45, 46, 8, 47, 48, 49, 25, 50, 51, 52, 53, 54, 55, 56, 57, 58, 59, 60, 61, 62, 63, 64, 65, 66, 67, 68, 69, 70, 71, 72, 73, 74, 75, 76, 77, 78, 79, 80, 81, 82, 83, 84, 85, 86, 87, 88, 89, 90, 91, 92, 93, 94, 95, 96, 97, 98, 99, 100, 101, 102, 103, 104, 105, 106, 107, 108, 109, 110, 111, 112, 113, 114, 115, 116, 117, 118, 119, 120, 121, 122, 123, 124, 125, 126, 127, 128, 129, 130, 131, 132, 133, 134, 135, 136, 137, 138, 139, 140, 141, 142, 143, 144, 145, 146, 147, 148, 149, 150, 151, 152, 153, 154, 155, 156, 157, 158, 159, 160, 161, 162, 163, 164, 165, 166, 167, 168, 169, 170, 171, 172, 173, 174, 175, 176, 177, 178, 179, 180, 181, 182, 183, 184, 185, 186, 187] (by decide +kernel) (by decide +kernel)
set_option maxRecDepth 20000 in
theorem gX4_settle_X4_deliverOldest : GoodIn wsX4_settle (wsV RX4 91 RX4 yX4_deliverOldest wsX4_deliverOldest) := goodIn_app (goodIn_of _ (by decide +kernel)) ggX4_settle_X4_deliverOldest
theorem dX4_settle_0 : decode cX4_settle 0 = .ok (.iload_n 1, 1) := by decide +kernel
theorem dX4_settle_1 : decode cX4_settle 1 = .ok (.iconst 1, 1) := by decide +kernel
theorem dX4_settle_2 : decode cX4_settle 2 = .ok (.if_icmp .lt 10, 3) := by decide +kernel
theorem dX4_settle_5 : decode cX4_settle 5 = .ok (.iload_n 1, 1) := by decide +kernel
theorem dX4_settle_6 : decode cX4_settle 6 = .ok (.sipush 500, 3) := by decide +kernel
theorem dX4_settle_9 : decode cX4_settle 9 = .ok (.if_icmp .le 5, 3) := by decide +kernel
theorem dX4_settle_12 : decode cX4_settle 12 = .ok (.iconst (-1), 1) := by decide +kernel
theorem dX4_settle_13 : decode cX4_settle 13 = .ok (.ireturn, 1) := by decide +kernel
theorem dX4_settle_14 : decode cX4_settle 14 = .ok (.iconst 0, 1) := by decide +kernel
theorem dX4_settle_15 : decode cX4_settle 15 = .ok (.istore_n 2, 1) := by decide +kernel
theorem dX4_settle_16 : decode cX4_settle 16 = .ok (.iload_n 2, 1) := by decide +kernel
theorem dX4_settle_17 : decode cX4_settle 17 = .ok (.iload_n 1, 1) := by decide +kernel
theorem dX4_settle_18 : decode cX4_settle 18 = .ok (.if_icmp .ge 43, 3) := by decide +kernel
theorem dX4_settle_21 : decode cX4_settle 21 = .ok (.aload_n 0, 1) := by decide +kernel
theorem dX4_settle_22 : decode cX4_settle 22 = .ok (.getfield 46, 3) := by decide +kernel
theorem dX4_settle_25 : decode cX4_settle 25 = .ok (.invokevirtual 106, 3) := by decide +kernel
theorem dX4_settle_28 : decode cX4_settle 28 = .ok (.istore_n 3, 1) := by decide +kernel
theorem dX4_settle_29 : decode cX4_settle 29 = .ok (.aload_n 0, 1) := by decide +kernel
theorem dX4_settle_30 : decode cX4_settle 30 = .ok (.getfield 46, 3) := by decide +kernel
theorem dX4_settle_33 : decode cX4_settle 33 = .ok (.iload_n 3, 1) := by decide +kernel
theorem dX4_settle_34 : decode cX4_settle 34 = .ok (.invokevirtual 110, 3) := by decide +kernel
theorem dX4_settle_37 : decode cX4_settle 37 = .ok (.istore 4, 2) := by decide +kernel
theorem dX4_settle_39 : decode cX4_settle 39 = .ok (.iload 4, 2) := by decide +kernel
theorem dX4_settle_41 : decode cX4_settle 41 = .ok (.iconst (-1), 1) := by decide +kernel
theorem dX4_settle_42 : decode cX4_settle 42 = .ok (.if_icmp .ne 5, 3) := by decide +kernel
theorem dX4_settle_45 : decode cX4_settle 45 = .ok (.iload_n 2, 1) := by decide +kernel
theorem dX4_settle_46 : decode cX4_settle 46 = .ok (.ireturn, 1) := by decide +kernel
theorem dX4_settle_47 : decode cX4_settle 47 = .ok (.aload_n 0, 1) := by decide +kernel
theorem dX4_settle_48 : decode cX4_settle 48 = .ok (.iload_n 3, 1) := by decide +kernel
theorem dX4_settle_49 : decode cX4_settle 49 = .ok (.iload 4, 2) := by decide +kernel
theorem dX4_settle_51 : decode cX4_settle 51 = .ok (.invokevirtual 91, 3) := by decide +kernel
theorem dX4_settle_54 : decode cX4_settle 54 = .ok (.pop, 1) := by decide +kernel
theorem dX4_settle_55 : decode cX4_settle 55 = .ok (.iinc 2 1, 3) := by decide +kernel
theorem dX4_settle_58 : decode cX4_settle 58 = .ok (.goto (-42), 3) := by decide +kernel
theorem dX4_settle_61 : decode cX4_settle 61 = .ok (.iload_n 1, 1) := by decide +kernel
theorem dX4_settle_62 : decode cX4_settle 62 = .ok (.ireturn, 1) := by decide +kernel
set_option maxRecDepth 20000 in
theorem ggX4_waiting_X4_isWire : GoodIn wsX4_waiting wsX4_isWire := goodIn_r _ [6, 7, 8, 9, 5, 10, 11, 23, 24, 25, 26, 27, 28, 29] (by decide +kernel) (by decide +kernel)
set_option maxRecDepth 20000 in
theorem gX4_waiting_X4_isWire : GoodIn wsX4_waiting (wsV RX4 87 RX4 yX4_isWire wsX4_isWire) := goodIn_app (goodIn_of _ (by decide +kernel)) ggX4_waiting_X4_isWire
set_option maxRecDepth 20000 in
theorem ggX4_waiting_X3_count : GoodIn wsX4_waiting wsX3_count := goodIn_r _ [16, 17, 18, 19, 20, 15, 21, 22, 30, 31, 32, 33, 34] (by decide +kernel) (by decide +kernel)
set_option maxRecDepth 20000 in
theorem gX4_waiting_X3_count : GoodIn wsX4_waiting (wsV RX4 113 RX3 yX3_count wsX3_count) := goodIn_app (goodIn_of _ (by decide +kernel)) ggX4_waiting_X3_count
theorem dX4_waiting_0 : decode cX4_waiting 0 = .ok (.aload_n 0, 1) := by decide +kernel
theorem dX4_waiting_1 : decode cX4_waiting 1 = .ok (.iload_n 1, 1) := by decide +kernel
theorem dX4_waiting_2 : decode cX4_waiting 2 = .ok (.iload_n 2, 1) := by decide +kernel
theorem dX4_waiting_3 : decode cX4_waiting 3 = .ok (.invokevirtual 87, 3) := by decide +kernel
theorem dX4_waiting_6 : decode cX4_waiting 6 = .ok (.ifCond .eq 15, 3) := by decide +kernel
theorem dX4_waiting_9 : decode cX4_waiting 9 = .ok (.aload_n 0, 1) := by decide +kernel
theorem dX4_waiting_10 : decode cX4_waiting 10 = .ok (.getfield 46, 3) := by decide +kernel
theorem dX4_waiting_13 : decode cX4_waiting 13 = .ok (.iload_n 1, 1) := by decide +kernel
theorem dX4_waiting_14 : decode cX4_waiting 14 = .ok (.iload_n 2, 1) := by decide +kernel
theorem dX4_waiting_15 : decode cX4_waiting 15 = .ok (.invokevirtual 113, 3) := by decide +kernel
theorem dX4_waiting_18 : decode cX4_waiting 18 = .ok (.goto 4, 3) := by decide +kernel
theorem dX4_waiting_21 : decode cX4_waiting 21 = .ok (.iconst (-1), 1) := by decide +kernel
theorem dX4_waiting_22 : decode cX4_waiting 22 = .ok (.ireturn, 1) := by decide +kernel
set_option maxRecDepth 20000 in
theorem ggX4_look_X4_isWire : GoodIn wsX4_look wsX4_isWire := goodIn_r _ [6, 7, 8, 9, 5, 10, 11, 29, 30, 31, 32, 33, 34, 35] (by decide +kernel) (by decide +kernel)
set_option maxRecDepth 20000 in
theorem gX4_look_X4_isWire : GoodIn wsX4_look (wsV RX4 87 RX4 yX4_isWire wsX4_isWire) := goodIn_app (goodIn_of _ (by decide +kernel)) ggX4_look_X4_isWire
set_option maxRecDepth 20000 in
theorem ggX4_look_X3_part : GoodIn wsX4_look wsX3_part := goodIn_r _ [16, 17, 18, 19, 20, 21, 15, 22, 23, 24, 25, 26, 27, 28, 36, 37, 38, 39, 40] (by decide +kernel) (by decide +kernel)
set_option maxRecDepth 20000 in
theorem gX4_look_X3_part : GoodIn wsX4_look (wsV RX4 116 RX3 yX3_part wsX3_part) := goodIn_app (goodIn_of _ (by decide +kernel)) ggX4_look_X3_part
theorem dX4_look_0 : decode cX4_look 0 = .ok (.aload_n 0, 1) := by decide +kernel
theorem dX4_look_1 : decode cX4_look 1 = .ok (.iload_n 1, 1) := by decide +kernel
theorem dX4_look_2 : decode cX4_look 2 = .ok (.iload_n 2, 1) := by decide +kernel
theorem dX4_look_3 : decode cX4_look 3 = .ok (.invokevirtual 87, 3) := by decide +kernel
theorem dX4_look_6 : decode cX4_look 6 = .ok (.ifCond .eq 18, 3) := by decide +kernel
theorem dX4_look_9 : decode cX4_look 9 = .ok (.aload_n 0, 1) := by decide +kernel
theorem dX4_look_10 : decode cX4_look 10 = .ok (.getfield 46, 3) := by decide +kernel
theorem dX4_look_13 : decode cX4_look 13 = .ok (.iload_n 1, 1) := by decide +kernel
theorem dX4_look_14 : decode cX4_look 14 = .ok (.iload_n 2, 1) := by decide +kernel
theorem dX4_look_15 : decode cX4_look 15 = .ok (.iload_n 3, 1) := by decide +kernel
theorem dX4_look_16 : decode cX4_look 16 = .ok (.iload 4, 2) := by decide +kernel
theorem dX4_look_18 : decode cX4_look 18 = .ok (.invokevirtual 116, 3) := by decide +kernel
theorem dX4_look_21 : decode cX4_look 21 = .ok (.goto 4, 3) := by decide +kernel
theorem dX4_look_24 : decode cX4_look 24 = .ok (.iconst (-1), 1) := by decide +kernel
theorem dX4_look_25 : decode cX4_look 25 = .ok (.ireturn, 1) := by decide +kernel
set_option maxRecDepth 20000 in
theorem ggX4_told_X4_isNode : GoodIn wsX4_told wsX4_isNode := goodIn_r _ [16, 17, 18, 19, 20, 21, 22, 23, 24] (by decide +kernel) (by decide +kernel)
set_option maxRecDepth 20000 in
theorem gX4_told_X4_isNode : GoodIn wsX4_told (wsV RX4 70 RX4 yX4_isNode wsX4_isNode) := goodIn_app (goodIn_of _ (by decide +kernel)) ggX4_told_X4_isNode
theorem dX4_told_0 : decode cX4_told 0 = .ok (.aload_n 0, 1) := by decide +kernel
theorem dX4_told_1 : decode cX4_told 1 = .ok (.iload_n 1, 1) := by decide +kernel
theorem dX4_told_2 : decode cX4_told 2 = .ok (.invokevirtual 70, 3) := by decide +kernel
theorem dX4_told_5 : decode cX4_told 5 = .ok (.ifCond .ne 5, 3) := by decide +kernel
theorem dX4_told_8 : decode cX4_told 8 = .ok (.iconst (-1), 1) := by decide +kernel
theorem dX4_told_9 : decode cX4_told 9 = .ok (.ireturn, 1) := by decide +kernel
theorem dX4_told_10 : decode cX4_told 10 = .ok (.aload_n 0, 1) := by decide +kernel
theorem dX4_told_11 : decode cX4_told 11 = .ok (.getfield 31, 3) := by decide +kernel
theorem dX4_told_14 : decode cX4_told 14 = .ok (.iload_n 1, 1) := by decide +kernel
theorem dX4_told_15 : decode cX4_told 15 = .ok (.aaload, 1) := by decide +kernel
theorem dX4_told_16 : decode cX4_told 16 = .ok (.astore_n 3, 1) := by decide +kernel
theorem dX4_told_17 : decode cX4_told 17 = .ok (.aload_n 0, 1) := by decide +kernel
theorem dX4_told_18 : decode cX4_told 18 = .ok (.getfield 37, 3) := by decide +kernel
theorem dX4_told_21 : decode cX4_told 21 = .ok (.iload_n 1, 1) := by decide +kernel
theorem dX4_told_22 : decode cX4_told 22 = .ok (.aaload, 1) := by decide +kernel
theorem dX4_told_23 : decode cX4_told 23 = .ok (.astore 4, 2) := by decide +kernel
theorem dX4_told_25 : decode cX4_told 25 = .ok (.iload_n 2, 1) := by decide +kernel
theorem dX4_told_26 : decode cX4_told 26 = .ok (.tableswitch 101 0 7 #[46, 51, 58, 63, 68, 73, 78, 92], 46) := by decide +kernel
theorem dX4_told_72 : decode cX4_told 72 = .ok (.aload_n 3, 1) := by decide +kernel
theorem dX4_told_73 : decode cX4_told 73 = .ok (.getfield 74, 3) := by decide +kernel
theorem dX4_told_76 : decode cX4_told 76 = .ok (.ireturn, 1) := by decide +kernel
theorem dX4_told_77 : decode cX4_told 77 = .ok (.aload_n 0, 1) := by decide +kernel
theorem dX4_told_78 : decode cX4_told 78 = .ok (.getfield 26, 3) := by decide +kernel
theorem dX4_told_81 : decode cX4_told 81 = .ok (.iload_n 1, 1) := by decide +kernel
theorem dX4_told_82 : decode cX4_told 82 = .ok (.iaload, 1) := by decide +kernel
theorem dX4_told_83 : decode cX4_told 83 = .ok (.ireturn, 1) := by decide +kernel
theorem dX4_told_84 : decode cX4_told 84 = .ok (.aload_n 3, 1) := by decide +kernel
theorem dX4_told_85 : decode cX4_told 85 = .ok (.getfield 80, 3) := by decide +kernel
theorem dX4_told_88 : decode cX4_told 88 = .ok (.ireturn, 1) := by decide +kernel
theorem dX4_told_89 : decode cX4_told 89 = .ok (.aload_n 3, 1) := by decide +kernel
theorem dX4_told_90 : decode cX4_told 90 = .ok (.getfield 120, 3) := by decide +kernel
theorem dX4_told_93 : decode cX4_told 93 = .ok (.ireturn, 1) := by decide +kernel
theorem dX4_told_94 : decode cX4_told 94 = .ok (.aload_n 3, 1) := by decide +kernel
theorem dX4_told_95 : decode cX4_told 95 = .ok (.getfield 123, 3) := by decide +kernel
theorem dX4_told_98 : decode cX4_told 98 = .ok (.ireturn, 1) := by decide +kernel
theorem dX4_told_99 : decode cX4_told 99 = .ok (.aload_n 3, 1) := by decide +kernel
theorem dX4_told_100 : decode cX4_told 100 = .ok (.getfield 94, 3) := by decide +kernel
theorem dX4_told_103 : decode cX4_told 103 = .ok (.ireturn, 1) := by decide +kernel
theorem dX4_told_104 : decode cX4_told 104 = .ok (.aload 4, 2) := by decide +kernel
theorem dX4_told_106 : decode cX4_told 106 = .ok (.getfield 126, 3) := by decide +kernel
theorem dX4_told_109 : decode cX4_told 109 = .ok (.ifCond .eq 7, 3) := by decide +kernel
theorem dX4_told_112 : decode cX4_told 112 = .ok (.iconst 1, 1) := by decide +kernel
theorem dX4_told_113 : decode cX4_told 113 = .ok (.goto 4, 3) := by decide +kernel
theorem dX4_told_116 : decode cX4_told 116 = .ok (.iconst 0, 1) := by decide +kernel
theorem dX4_told_117 : decode cX4_told 117 = .ok (.ireturn, 1) := by decide +kernel
theorem dX4_told_118 : decode cX4_told 118 = .ok (.aload 4, 2) := by decide +kernel
theorem dX4_told_120 : decode cX4_told 120 = .ok (.getfield 130, 3) := by decide +kernel
theorem dX4_told_123 : decode cX4_told 123 = .ok (.getfield 134, 3) := by decide +kernel
theorem dX4_told_126 : decode cX4_told 126 = .ok (.ireturn, 1) := by decide +kernel
theorem dX4_told_127 : decode cX4_told 127 = .ok (.iconst (-1), 1) := by decide +kernel
theorem dX4_told_128 : decode cX4_told 128 = .ok (.ireturn, 1) := by decide +kernel
set_option maxRecDepth 20000 in
theorem ggX4_waits_X4_isNode : GoodIn wsX4_waits wsX4_isNode := goodIn_r _ [7, 8, 16, 17, 18, 19, 20, 21, 22] (by decide +kernel) (by decide +kernel)
set_option maxRecDepth 20000 in
theorem gX4_waits_X4_isNode : GoodIn wsX4_waits (wsV RX4 70 RX4 yX4_isNode wsX4_isNode) := goodIn_app (goodIn_of _ (by decide +kernel)) ggX4_waits_X4_isNode
set_option maxRecDepth 20000 in
theorem ggX4_waits_X1_nodeAt : GoodIn wsX4_waits wsX1_nodeAt := goodIn_r _ [13, 14, 15, 27, 28, 29] (by decide +kernel) (by decide +kernel)
set_option maxRecDepth 20000 in
theorem gX4_waits_X1_nodeAt : GoodIn wsX4_waits (wsV RX4 139 RX1 yX1_nodeAt wsX1_nodeAt) := goodIn_app (goodIn_of _ (by decide +kernel)) ggX4_waits_X1_nodeAt
theorem dX4_waits_0 : decode cX4_waits 0 = .ok (.aload_n 0, 1) := by decide +kernel
theorem dX4_waits_1 : decode cX4_waits 1 = .ok (.iload_n 1, 1) := by decide +kernel
theorem dX4_waits_2 : decode cX4_waits 2 = .ok (.invokevirtual 70, 3) := by decide +kernel
theorem dX4_waits_5 : decode cX4_waits 5 = .ok (.ifCond .eq 19, 3) := by decide +kernel
theorem dX4_waits_8 : decode cX4_waits 8 = .ok (.aload_n 0, 1) := by decide +kernel
theorem dX4_waits_9 : decode cX4_waits 9 = .ok (.getfield 37, 3) := by decide +kernel
theorem dX4_waits_12 : decode cX4_waits 12 = .ok (.iload_n 1, 1) := by decide +kernel
theorem dX4_waits_13 : decode cX4_waits 13 = .ok (.aaload, 1) := by decide +kernel
theorem dX4_waits_14 : decode cX4_waits 14 = .ok (.getfield 130, 3) := by decide +kernel
theorem dX4_waits_17 : decode cX4_waits 17 = .ok (.iload_n 2, 1) := by decide +kernel
theorem dX4_waits_18 : decode cX4_waits 18 = .ok (.invokevirtual 139, 3) := by decide +kernel
theorem dX4_waits_21 : decode cX4_waits 21 = .ok (.goto 4, 3) := by decide +kernel
theorem dX4_waits_24 : decode cX4_waits 24 = .ok (.iconst (-1), 1) := by decide +kernel
theorem dX4_waits_25 : decode cX4_waits 25 = .ok (.ireturn, 1) := by decide +kernel
theorem dX4_entered_0 : decode cX4_entered 0 = .ok (.aload_n 0, 1) := by decide +kernel
theorem dX4_entered_1 : decode cX4_entered 1 = .ok (.getfield 67, 3) := by decide +kernel
theorem dX4_entered_4 : decode cX4_entered 4 = .ok (.ireturn, 1) := by decide +kernel
theorem dX4_quorumOf_0 : decode cX4_quorumOf 0 = .ok (.iconst 0, 1) := by decide +kernel
theorem dX4_quorumOf_1 : decode cX4_quorumOf 1 = .ok (.istore_n 2, 1) := by decide +kernel
theorem dX4_quorumOf_2 : decode cX4_quorumOf 2 = .ok (.iconst 0, 1) := by decide +kernel
theorem dX4_quorumOf_3 : decode cX4_quorumOf 3 = .ok (.istore_n 3, 1) := by decide +kernel
theorem dX4_quorumOf_4 : decode cX4_quorumOf 4 = .ok (.iload_n 3, 1) := by decide +kernel
theorem dX4_quorumOf_5 : decode cX4_quorumOf 5 = .ok (.iload_n 1, 1) := by decide +kernel
theorem dX4_quorumOf_6 : decode cX4_quorumOf 6 = .ok (.iload_n 1, 1) := by decide +kernel
theorem dX4_quorumOf_7 : decode cX4_quorumOf 7 = .ok (.imul, 1) := by decide +kernel
theorem dX4_quorumOf_8 : decode cX4_quorumOf 8 = .ok (.if_icmp .ge 33, 3) := by decide +kernel
theorem dX4_quorumOf_11 : decode cX4_quorumOf 11 = .ok (.iload_n 3, 1) := by decide +kernel
theorem dX4_quorumOf_12 : decode cX4_quorumOf 12 = .ok (.iload_n 1, 1) := by decide +kernel
theorem dX4_quorumOf_13 : decode cX4_quorumOf 13 = .ok (.idiv, 1) := by decide +kernel
theorem dX4_quorumOf_14 : decode cX4_quorumOf 14 = .ok (.iload_n 0, 1) := by decide +kernel
theorem dX4_quorumOf_15 : decode cX4_quorumOf 15 = .ok (.iload_n 1, 1) := by decide +kernel
theorem dX4_quorumOf_16 : decode cX4_quorumOf 16 = .ok (.idiv, 1) := by decide +kernel
theorem dX4_quorumOf_17 : decode cX4_quorumOf 17 = .ok (.if_icmp .eq 12, 3) := by decide +kernel
theorem dX4_quorumOf_20 : decode cX4_quorumOf 20 = .ok (.iload_n 3, 1) := by decide +kernel
theorem dX4_quorumOf_21 : decode cX4_quorumOf 21 = .ok (.iload_n 1, 1) := by decide +kernel
theorem dX4_quorumOf_22 : decode cX4_quorumOf 22 = .ok (.irem, 1) := by decide +kernel
theorem dX4_quorumOf_23 : decode cX4_quorumOf 23 = .ok (.iload_n 0, 1) := by decide +kernel
theorem dX4_quorumOf_24 : decode cX4_quorumOf 24 = .ok (.iload_n 1, 1) := by decide +kernel
theorem dX4_quorumOf_25 : decode cX4_quorumOf 25 = .ok (.irem, 1) := by decide +kernel
theorem dX4_quorumOf_26 : decode cX4_quorumOf 26 = .ok (.if_icmp .ne 9, 3) := by decide +kernel
theorem dX4_quorumOf_29 : decode cX4_quorumOf 29 = .ok (.iload_n 2, 1) := by decide +kernel
theorem dX4_quorumOf_30 : decode cX4_quorumOf 30 = .ok (.iconst 1, 1) := by decide +kernel
theorem dX4_quorumOf_31 : decode cX4_quorumOf 31 = .ok (.iload_n 3, 1) := by decide +kernel
theorem dX4_quorumOf_32 : decode cX4_quorumOf 32 = .ok (.ishl, 1) := by decide +kernel
theorem dX4_quorumOf_33 : decode cX4_quorumOf 33 = .ok (.ior, 1) := by decide +kernel
theorem dX4_quorumOf_34 : decode cX4_quorumOf 34 = .ok (.istore_n 2, 1) := by decide +kernel
theorem dX4_quorumOf_35 : decode cX4_quorumOf 35 = .ok (.iinc 3 1, 3) := by decide +kernel
theorem dX4_quorumOf_38 : decode cX4_quorumOf 38 = .ok (.goto (-34), 3) := by decide +kernel
theorem dX4_quorumOf_41 : decode cX4_quorumOf 41 = .ok (.iload_n 2, 1) := by decide +kernel
theorem dX4_quorumOf_42 : decode cX4_quorumOf 42 = .ok (.ireturn, 1) := by decide +kernel
theorem dX4_isBefore_0 : decode cX4_isBefore 0 = .ok (.iload_n 1, 1) := by decide +kernel
theorem dX4_isBefore_1 : decode cX4_isBefore 1 = .ok (.iload_n 3, 1) := by decide +kernel
theorem dX4_isBefore_2 : decode cX4_isBefore 2 = .ok (.if_icmp .lt 13, 3) := by decide +kernel
theorem dX4_isBefore_5 : decode cX4_isBefore 5 = .ok (.iload_n 1, 1) := by decide +kernel
theorem dX4_isBefore_6 : decode cX4_isBefore 6 = .ok (.iload_n 3, 1) := by decide +kernel
theorem dX4_isBefore_7 : decode cX4_isBefore 7 = .ok (.if_icmp .ne 12, 3) := by decide +kernel
theorem dX4_isBefore_10 : decode cX4_isBefore 10 = .ok (.iload_n 0, 1) := by decide +kernel
theorem dX4_isBefore_11 : decode cX4_isBefore 11 = .ok (.iload_n 2, 1) := by decide +kernel
theorem dX4_isBefore_12 : decode cX4_isBefore 12 = .ok (.if_icmp .ge 7, 3) := by decide +kernel
theorem dX4_isBefore_15 : decode cX4_isBefore 15 = .ok (.iconst 1, 1) := by decide +kernel
theorem dX4_isBefore_16 : decode cX4_isBefore 16 = .ok (.goto 4, 3) := by decide +kernel
theorem dX4_isBefore_19 : decode cX4_isBefore 19 = .ok (.iconst 0, 1) := by decide +kernel
theorem dX4_isBefore_20 : decode cX4_isBefore 20 = .ok (.ireturn, 1) := by decide +kernel
theorem dX4_has_0 : decode cX4_has 0 = .ok (.iload_n 0, 1) := by decide +kernel
theorem dX4_has_1 : decode cX4_has 1 = .ok (.iload_n 1, 1) := by decide +kernel
theorem dX4_has_2 : decode cX4_has 2 = .ok (.ishr, 1) := by decide +kernel
theorem dX4_has_3 : decode cX4_has 3 = .ok (.iconst 1, 1) := by decide +kernel
theorem dX4_has_4 : decode cX4_has 4 = .ok (.iand, 1) := by decide +kernel
theorem dX4_has_5 : decode cX4_has 5 = .ok (.iconst 1, 1) := by decide +kernel
theorem dX4_has_6 : decode cX4_has 6 = .ok (.if_icmp .ne 7, 3) := by decide +kernel
theorem dX4_has_9 : decode cX4_has 9 = .ok (.iconst 1, 1) := by decide +kernel
theorem dX4_has_10 : decode cX4_has 10 = .ok (.goto 4, 3) := by decide +kernel
theorem dX4_has_13 : decode cX4_has 13 = .ok (.iconst 0, 1) := by decide +kernel
theorem dX4_has_14 : decode cX4_has 14 = .ok (.ireturn, 1) := by decide +kernel
theorem dX4_isNode_0 : decode cX4_isNode 0 = .ok (.iload_n 1, 1) := by decide +kernel
theorem dX4_isNode_1 : decode cX4_isNode 1 = .ok (.ifCond .lt 15, 3) := by decide +kernel
theorem dX4_isNode_4 : decode cX4_isNode 4 = .ok (.iload_n 1, 1) := by decide +kernel
theorem dX4_isNode_5 : decode cX4_isNode 5 = .ok (.aload_n 0, 1) := by decide +kernel
theorem dX4_isNode_6 : decode cX4_isNode 6 = .ok (.getfield 18, 3) := by decide +kernel
theorem dX4_isNode_9 : decode cX4_isNode 9 = .ok (.if_icmp .ge 7, 3) := by decide +kernel
theorem dX4_isNode_12 : decode cX4_isNode 12 = .ok (.iconst 1, 1) := by decide +kernel
theorem dX4_isNode_13 : decode cX4_isNode 13 = .ok (.goto 4, 3) := by decide +kernel
theorem dX4_isNode_16 : decode cX4_isNode 16 = .ok (.iconst 0, 1) := by decide +kernel
theorem dX4_isNode_17 : decode cX4_isNode 17 = .ok (.ireturn, 1) := by decide +kernel
set_option maxRecDepth 20000 in
theorem ggX4_isWire_X4_isNode : GoodIn wsX4_isWire wsX4_isNode := goodIn_r _ [5, 6, 7, 8, 9, 10, 11, 12, 13] (by decide +kernel) (by decide +kernel)
set_option maxRecDepth 20000 in
theorem gX4_isWire_X4_isNode : GoodIn wsX4_isWire (wsV RX4 70 RX4 yX4_isNode wsX4_isNode) := goodIn_app (goodIn_of _ (by decide +kernel)) ggX4_isWire_X4_isNode
theorem dX4_isWire_0 : decode cX4_isWire 0 = .ok (.aload_n 0, 1) := by decide +kernel
theorem dX4_isWire_1 : decode cX4_isWire 1 = .ok (.iload_n 1, 1) := by decide +kernel
theorem dX4_isWire_2 : decode cX4_isWire 2 = .ok (.invokevirtual 70, 3) := by decide +kernel
theorem dX4_isWire_5 : decode cX4_isWire 5 = .ok (.ifCond .eq 15, 3) := by decide +kernel
theorem dX4_isWire_8 : decode cX4_isWire 8 = .ok (.aload_n 0, 1) := by decide +kernel
theorem dX4_isWire_9 : decode cX4_isWire 9 = .ok (.iload_n 2, 1) := by decide +kernel
theorem dX4_isWire_10 : decode cX4_isWire 10 = .ok (.invokevirtual 70, 3) := by decide +kernel
theorem dX4_isWire_13 : decode cX4_isWire 13 = .ok (.ifCond .eq 7, 3) := by decide +kernel
theorem dX4_isWire_16 : decode cX4_isWire 16 = .ok (.iconst 1, 1) := by decide +kernel
theorem dX4_isWire_17 : decode cX4_isWire 17 = .ok (.goto 4, 3) := by decide +kernel
theorem dX4_isWire_20 : decode cX4_isWire 20 = .ok (.iconst 0, 1) := by decide +kernel
theorem dX4_isWire_21 : decode cX4_isWire 21 = .ok (.ireturn, 1) := by decide +kernel
set_option maxRecDepth 20000 in
theorem ggX4_send_X3_add : GoodIn wsX4_send wsX3_add := goodIn_r _ [7, 8, 9, 10, 11, 12, 13, 6, 14, 15, 16, 17, 18, 19, 20, 28, 29, 30, 31, 32] (by decide +kernel) (by decide +kernel)
set_option maxRecDepth 20000 in
theorem gX4_send_X3_add : GoodIn wsX4_send (wsV RX4 142 RX3 yX3_add wsX3_add) := goodIn_app (goodIn_of _ (by decide +kernel)) ggX4_send_X3_add
theorem dX4_send_0 : decode cX4_send 0 = .ok (.aload_n 0, 1) := by decide +kernel
theorem dX4_send_1 : decode cX4_send 1 = .ok (.getfield 46, 3) := by decide +kernel
theorem dX4_send_4 : decode cX4_send 4 = .ok (.iload_n 1, 1) := by decide +kernel
theorem dX4_send_5 : decode cX4_send 5 = .ok (.iload_n 2, 1) := by decide +kernel
theorem dX4_send_6 : decode cX4_send 6 = .ok (.iload_n 3, 1) := by decide +kernel
theorem dX4_send_7 : decode cX4_send 7 = .ok (.iload 4, 2) := by decide +kernel
theorem dX4_send_9 : decode cX4_send 9 = .ok (.aload_n 0, 1) := by decide +kernel
theorem dX4_send_10 : decode cX4_send 10 = .ok (.getfield 26, 3) := by decide +kernel
theorem dX4_send_13 : decode cX4_send 13 = .ok (.iload_n 1, 1) := by decide +kernel
theorem dX4_send_14 : decode cX4_send 14 = .ok (.iaload, 1) := by decide +kernel
theorem dX4_send_15 : decode cX4_send 15 = .ok (.invokevirtual 142, 3) := by decide +kernel
theorem dX4_send_18 : decode cX4_send 18 = .ok (.return_, 1) := by decide +kernel
set_option maxRecDepth 20000 in
theorem ggX4_sendToQuorum_X4_has : GoodIn wsX4_sendToQuorum wsX4_has := goodIn_r _ [6] (by decide +kernel) (by decide +kernel)
set_option maxRecDepth 20000 in
theorem gX4_sendToQuorum_X4_has : GoodIn wsX4_sendToQuorum (va_wsS RX4 146 yX4_has wsX4_has) := goodIn_app (goodIn_of _ (by decide +kernel)) ggX4_sendToQuorum_X4_has
set_option maxRecDepth 20000 in
theorem ggX4_sendToQuorum_X4_send : GoodIn wsX4_sendToQuorum wsX4_send := goodIn_r _ [10, 11, 12, 13, 14, 15, 16, 17, 18, 19, 20, 21, 22, 23, 24, 25, 26, 27, 28, 29, 30, 31, 32, 33, 34, 35, 36, 37, 38, 39, 40, 41, 42] (by decide +kernel) (by decide +kernel)
set_option maxRecDepth 20000 in
theorem gX4_sendToQuorum_X4_send : GoodIn wsX4_sendToQuorum (wsV RX4 149 RX4 yX4_send wsX4_send) := goodIn_app (goodIn_of _ (by decide +kernel)) ggX4_sendToQuorum_X4_send
theorem dX4_sendToQuorum_0 : decode cX4_sendToQuorum 0 = .ok (.iconst 0, 1) := by decide +kernel
theorem dX4_sendToQuorum_1 : decode cX4_sendToQuorum 1 = .ok (.istore 4, 2) := by decide +kernel
theorem dX4_sendToQuorum_3 : decode cX4_sendToQuorum 3 = .ok (.iload 4, 2) := by decide +kernel
theorem dX4_sendToQuorum_5 : decode cX4_sendToQuorum 5 = .ok (.aload_n 0, 1) := by decide +kernel
theorem dX4_sendToQuorum_6 : decode cX4_sendToQuorum 6 = .ok (.getfield 18, 3) := by decide +kernel
theorem dX4_sendToQuorum_9 : decode cX4_sendToQuorum 9 = .ok (.if_icmp .ge 32, 3) := by decide +kernel
theorem dX4_sendToQuorum_12 : decode cX4_sendToQuorum 12 = .ok (.aload_n 0, 1) := by decide +kernel
theorem dX4_sendToQuorum_13 : decode cX4_sendToQuorum 13 = .ok (.getfield 22, 3) := by decide +kernel
theorem dX4_sendToQuorum_16 : decode cX4_sendToQuorum 16 = .ok (.iload_n 1, 1) := by decide +kernel
theorem dX4_sendToQuorum_17 : decode cX4_sendToQuorum 17 = .ok (.iaload, 1) := by decide +kernel
theorem dX4_sendToQuorum_18 : decode cX4_sendToQuorum 18 = .ok (.iload 4, 2) := by decide +kernel
theorem dX4_sendToQuorum_20 : decode cX4_sendToQuorum 20 = .ok (.invokestatic 146, 3) := by decide +kernel
theorem dX4_sendToQuorum_23 : decode cX4_sendToQuorum 23 = .ok (.ifCond .eq 12, 3) := by decide +kernel
theorem dX4_sendToQuorum_26 : decode cX4_sendToQuorum 26 = .ok (.aload_n 0, 1) := by decide +kernel
theorem dX4_sendToQuorum_27 : decode cX4_sendToQuorum 27 = .ok (.iload_n 1, 1) := by decide +kernel
theorem dX4_sendToQuorum_28 : decode cX4_sendToQuorum 28 = .ok (.iload 4, 2) := by decide +kernel
theorem dX4_sendToQuorum_30 : decode cX4_sendToQuorum 30 = .ok (.iload_n 2, 1) := by decide +kernel
theorem dX4_sendToQuorum_31 : decode cX4_sendToQuorum 31 = .ok (.iload_n 3, 1) := by decide +kernel
theorem dX4_sendToQuorum_32 : decode cX4_sendToQuorum 32 = .ok (.invokevirtual 149, 3) := by decide +kernel
theorem dX4_sendToQuorum_35 : decode cX4_sendToQuorum 35 = .ok (.iinc 4 1, 3) := by decide +kernel
theorem dX4_sendToQuorum_38 : decode cX4_sendToQuorum 38 = .ok (.goto (-35), 3) := by decide +kernel
theorem dX4_sendToQuorum_41 : decode cX4_sendToQuorum 41 = .ok (.return_, 1) := by decide +kernel
set_option maxRecDepth 20000 in
theorem ggX4_deliverOldest_X3_count : GoodIn wsX4_deliverOldest wsX3_count := goodIn_r _ [11, 12, 13, 14, 15, 10, 16, 17, 158, 159, 160, 161, 162] (by decide +kernel) (by decide +kernel)
set_option maxRecDepth 20000 in
theorem gX4_deliverOldest_X3_count : GoodIn wsX4_deliverOldest (wsV RX4 113 RX3 yX3_count wsX3_count) := goodIn_app (goodIn_of _ (by decide +kernel)) ggX4_deliverOldest_X3_count
set_option maxRecDepth 20000 in
theorem ggX4_deliverOldest_X3_part : GoodIn wsX4_deliverOldest wsX3_part := goodIn_r _ [21, 12, 22, 13, 14, 15, 10, 16, 17, 23, 24, 25, 26, 27, 158, 159, 160, 161, 162] (by decide +kernel) (by decide +kernel)
set_option maxRecDepth 20000 in
theorem gX4_deliverOldest_X3_part : GoodIn wsX4_deliverOldest (wsV RX4 116 RX3 yX3_part wsX3_part) := goodIn_app (goodIn_of _ (by decide +kernel)) ggX4_deliverOldest_X3_part
set_option maxRecDepth 20000 in
theorem ggX4_deliverOldest_X3_dropOldest : GoodIn wsX4_deliverOldest wsX3_dropOldest := goodIn_r _ [31, 12, 27, 32, 13, 14, 15, 10, 16, 17, 158, 159, 160, 161, 162] (by decide +kernel) (by decide +kernel)
set_option maxRecDepth 20000 in
theorem gX4_deliverOldest_X3_dropOldest : GoodIn wsX4_deliverOldest (wsV RX4 153 RX3 yX3_dropOldest wsX3_dropOldest) := goodIn_app (goodIn_of _ (by decide +kernel)) ggX4_deliverOldest_X3_dropOldest
set_option maxRecDepth 20000 in
theorem ggX4_deliverOldest_X4_weighRequest : GoodIn wsX4_deliverOldest wsX4_weighRequest := goodIn_r _ [37, 38, 39, 40, 41, 42, 43, 36, 44, 45, 46, 47, 48, 49, 50, 51, 52, 53, 54, 55, 56, 1, 2, 57, 58, 59, 10, 60, 12, 22, 32, 13, 14, 15, 16, 17, 23, 24, 25, 26, 27, 61, 62, 63, 64, 65, 66, 67, 68, 69, 70, 71, 72, 73, 74, 75, 76, 77, 78, 79, 80, 81, 82, 83, 84, 85, 86, 87, 88, 89, 90, 91, 92, 151, 152, 153, 154, 155, 156, 157, 163, 164, 165, 166, 158, 159, 160, 161, 162, 167, 168, 169] (by decide +kernel) (by decide +kernel)
set_option maxRecDepth 20000 in
theorem gX4_deliverOldest_X4_weighRequest : GoodIn wsX4_deliverOldest (wsV RX4 157 RX4 yX4_weighRequest wsX4_weighRequest) := goodIn_app (goodIn_of _ (by decide +kernel)) ggX4_deliverOldest_X4_weighRequest
set_option maxRecDepth 20000 in
theorem ggX4_deliverOldest_X4_hearLocked : GoodIn wsX4_deliverOldest wsX4_hearLocked := goodIn_r _ [96, 97, 98, 99, 100, 101, 102, 103, 104, 105, 106, 151, 152, 153, 154, 155, 156, 157, 170, 171, 172, 173, 174] (by decide +kernel) (by decide +kernel)
set_option maxRecDepth 20000 in
theorem gX4_deliverOldest_X4_hearLocked : GoodIn wsX4_deliverOldest (wsV RX4 160 RX4 yX4_hearLocked wsX4_hearLocked) := goodIn_app (goodIn_of _ (by decide +kernel)) ggX4_deliverOldest_X4_hearLocked
set_option maxRecDepth 20000 in
theorem ggX4_deliverOldest_X4_takeVoteBack : GoodIn wsX4_deliverOldest wsX4_takeVoteBack := goodIn_r _ [110, 38, 39, 92, 40, 111, 81, 82, 83, 70, 84, 72, 73, 78, 79, 36, 80, 112, 113, 114, 48, 115, 50, 51, 52, 85, 68, 69, 71, 86, 75, 76, 77, 116, 117, 118, 119, 120, 4, 5, 6, 41, 42, 43, 44, 45, 46, 47, 49, 53, 54, 55, 56, 1, 2, 57, 58, 59, 10, 60, 12, 22, 32, 13, 14, 15, 16, 17, 23, 24, 25, 26, 27, 151, 152, 153, 154, 155, 156, 157, 163, 164, 165, 166, 167, 168, 169, 158, 159, 160, 161, 162] (by decide +kernel) (by decide +kernel)
set_option maxRecDepth 20000 in
theorem gX4_deliverOldest_X4_takeVoteBack : GoodIn wsX4_deliverOldest (wsV RX4 163 RX4 yX4_takeVoteBack wsX4_takeVoteBack) := goodIn_app (goodIn_of _ (by decide +kernel)) ggX4_deliverOldest_X4_takeVoteBack
set_option maxRecDepth 20000 in
theorem ggX4_deliverOldest_X4_hearInquire : GoodIn wsX4_deliverOldest wsX4_hearInquire := goodIn_r _ [124, 97, 125, 126, 127, 128, 129, 130, 103, 131, 132, 133, 134, 135, 36, 136, 137, 138, 139, 140, 99, 53, 54, 55, 56, 1, 2, 57, 58, 59, 10, 60, 12, 22, 32, 13, 14, 15, 16, 17, 23, 24, 25, 26, 27, 141, 142, 143, 144, 105, 145, 106, 151, 152, 153, 154, 155, 156, 157, 170, 171, 172, 173, 174, 158, 159, 160, 161, 162] (by decide +kernel) (by decide +kernel)
set_option maxRecDepth 20000 in
theorem gX4_deliverOldest_X4_hearInquire : GoodIn wsX4_deliverOldest (wsV RX4 167 RX4 yX4_hearInquire wsX4_hearInquire) := goodIn_app (goodIn_of _ (by decide +kernel)) ggX4_deliverOldest_X4_hearInquire
set_option maxRecDepth 20000 in
theorem ggX4_deliverOldest_X4_hearFailed : GoodIn wsX4_deliverOldest wsX4_hearFailed := goodIn_r _ [149, 97, 126, 150, 125, 127, 128, 129, 130, 103, 131, 132, 133, 134, 135, 36, 136, 137, 138, 139, 140, 99, 53, 54, 55, 56, 1, 2, 57, 58, 59, 10, 60, 12, 22, 32, 13, 14, 15, 16, 17, 23, 24, 25, 26, 27, 141, 142, 143, 144, 105, 145, 106, 151, 152, 153, 154, 155, 156, 157, 170, 171, 172, 173, 174, 158, 159, 160, 161, 162] (by decide +kernel) (by decide +kernel)
set_option maxRecDepth 20000 in
theorem gX4_deliverOldest_X4_hearFailed : GoodIn wsX4_deliverOldest (wsV RX4 170 RX4 yX4_hearFailed wsX4_hearFailed) := goodIn_app (goodIn_of _ (by decide +kernel)) ggX4_deliverOldest_X4_hearFailed
theorem dX4_deliverOldest_0 : decode cX4_deliverOldest 0 = .ok (.aload_n 0, 1) := by decide +kernel
theorem dX4_deliverOldest_1 : decode cX4_deliverOldest 1 = .ok (.getfield 46, 3) := by decide +kernel
theorem dX4_deliverOldest_4 : decode cX4_deliverOldest 4 = .ok (.iload_n 1, 1) := by decide +kernel
theorem dX4_deliverOldest_5 : decode cX4_deliverOldest 5 = .ok (.iload_n 2, 1) := by decide +kernel
theorem dX4_deliverOldest_6 : decode cX4_deliverOldest 6 = .ok (.invokevirtual 113, 3) := by decide +kernel
theorem dX4_deliverOldest_9 : decode cX4_deliverOldest 9 = .ok (.ifCond .ne 5, 3) := by decide +kernel
theorem dX4_deliverOldest_12 : decode cX4_deliverOldest 12 = .ok (.iconst 0, 1) := by decide +kernel
theorem dX4_deliverOldest_13 : decode cX4_deliverOldest 13 = .ok (.ireturn, 1) := by decide +kernel
theorem dX4_deliverOldest_14 : decode cX4_deliverOldest 14 = .ok (.aload_n 0, 1) := by decide +kernel
theorem dX4_deliverOldest_15 : decode cX4_deliverOldest 15 = .ok (.getfield 46, 3) := by decide +kernel
theorem dX4_deliverOldest_18 : decode cX4_deliverOldest 18 = .ok (.iload_n 1, 1) := by decide +kernel
theorem dX4_deliverOldest_19 : decode cX4_deliverOldest 19 = .ok (.iload_n 2, 1) := by decide +kernel
theorem dX4_deliverOldest_20 : decode cX4_deliverOldest 20 = .ok (.iconst 0, 1) := by decide +kernel
theorem dX4_deliverOldest_21 : decode cX4_deliverOldest 21 = .ok (.iconst 0, 1) := by decide +kernel
theorem dX4_deliverOldest_22 : decode cX4_deliverOldest 22 = .ok (.invokevirtual 116, 3) := by decide +kernel
theorem dX4_deliverOldest_25 : decode cX4_deliverOldest 25 = .ok (.istore_n 3, 1) := by decide +kernel
theorem dX4_deliverOldest_26 : decode cX4_deliverOldest 26 = .ok (.aload_n 0, 1) := by decide +kernel
theorem dX4_deliverOldest_27 : decode cX4_deliverOldest 27 = .ok (.getfield 46, 3) := by decide +kernel
theorem dX4_deliverOldest_30 : decode cX4_deliverOldest 30 = .ok (.iload_n 1, 1) := by decide +kernel
theorem dX4_deliverOldest_31 : decode cX4_deliverOldest 31 = .ok (.iload_n 2, 1) := by decide +kernel
theorem dX4_deliverOldest_32 : decode cX4_deliverOldest 32 = .ok (.iconst 0, 1) := by decide +kernel
theorem dX4_deliverOldest_33 : decode cX4_deliverOldest 33 = .ok (.iconst 1, 1) := by decide +kernel
theorem dX4_deliverOldest_34 : decode cX4_deliverOldest 34 = .ok (.invokevirtual 116, 3) := by decide +kernel
theorem dX4_deliverOldest_37 : decode cX4_deliverOldest 37 = .ok (.istore 4, 2) := by decide +kernel
theorem dX4_deliverOldest_39 : decode cX4_deliverOldest 39 = .ok (.aload_n 0, 1) := by decide +kernel
theorem dX4_deliverOldest_40 : decode cX4_deliverOldest 40 = .ok (.getfield 26, 3) := by decide +kernel
theorem dX4_deliverOldest_43 : decode cX4_deliverOldest 43 = .ok (.iload_n 2, 1) := by decide +kernel
theorem dX4_deliverOldest_44 : decode cX4_deliverOldest 44 = .ok (.aload_n 0, 1) := by decide +kernel
theorem dX4_deliverOldest_45 : decode cX4_deliverOldest 45 = .ok (.getfield 26, 3) := by decide +kernel
theorem dX4_deliverOldest_48 : decode cX4_deliverOldest 48 = .ok (.iload_n 2, 1) := by decide +kernel
theorem dX4_deliverOldest_49 : decode cX4_deliverOldest 49 = .ok (.iaload, 1) := by decide +kernel
theorem dX4_deliverOldest_50 : decode cX4_deliverOldest 50 = .ok (.aload_n 0, 1) := by decide +kernel
theorem dX4_deliverOldest_51 : decode cX4_deliverOldest 51 = .ok (.getfield 46, 3) := by decide +kernel
theorem dX4_deliverOldest_54 : decode cX4_deliverOldest 54 = .ok (.iload_n 1, 1) := by decide +kernel
theorem dX4_deliverOldest_55 : decode cX4_deliverOldest 55 = .ok (.iload_n 2, 1) := by decide +kernel
theorem dX4_deliverOldest_56 : decode cX4_deliverOldest 56 = .ok (.iconst 0, 1) := by decide +kernel
theorem dX4_deliverOldest_57 : decode cX4_deliverOldest 57 = .ok (.iconst 2, 1) := by decide +kernel
theorem dX4_deliverOldest_58 : decode cX4_deliverOldest 58 = .ok (.invokevirtual 116, 3) := by decide +kernel
theorem dX4_deliverOldest_61 : decode cX4_deliverOldest 61 = .ok (.invokestatic 7, 3) := by decide +kernel
theorem dX4_deliverOldest_64 : decode cX4_deliverOldest 64 = .ok (.iconst 1, 1) := by decide +kernel
theorem dX4_deliverOldest_65 : decode cX4_deliverOldest 65 = .ok (.iadd, 1) := by decide +kernel
theorem dX4_deliverOldest_66 : decode cX4_deliverOldest 66 = .ok (.iastore, 1) := by decide +kernel
theorem dX4_deliverOldest_67 : decode cX4_deliverOldest 67 = .ok (.aload_n 0, 1) := by decide +kernel
theorem dX4_deliverOldest_68 : decode cX4_deliverOldest 68 = .ok (.getfield 46, 3) := by decide +kernel
theorem dX4_deliverOldest_71 : decode cX4_deliverOldest 71 = .ok (.iload_n 1, 1) := by decide +kernel
theorem dX4_deliverOldest_72 : decode cX4_deliverOldest 72 = .ok (.iload_n 2, 1) := by decide +kernel
theorem dX4_deliverOldest_73 : decode cX4_deliverOldest 73 = .ok (.invokevirtual 153, 3) := by decide +kernel
theorem dX4_deliverOldest_76 : decode cX4_deliverOldest 76 = .ok (.iload_n 3, 1) := by decide +kernel
theorem dX4_deliverOldest_77 : decode cX4_deliverOldest 77 = .ok (.tableswitch 92 1 5 #[35, 46, 57, 69, 80], 35) := by decide +kernel
theorem dX4_deliverOldest_112 : decode cX4_deliverOldest 112 = .ok (.aload_n 0, 1) := by decide +kernel
theorem dX4_deliverOldest_113 : decode cX4_deliverOldest 113 = .ok (.iload_n 2, 1) := by decide +kernel
theorem dX4_deliverOldest_114 : decode cX4_deliverOldest 114 = .ok (.iload_n 1, 1) := by decide +kernel
theorem dX4_deliverOldest_115 : decode cX4_deliverOldest 115 = .ok (.iload 4, 2) := by decide +kernel
theorem dX4_deliverOldest_117 : decode cX4_deliverOldest 117 = .ok (.invokevirtual 157, 3) := by decide +kernel
theorem dX4_deliverOldest_120 : decode cX4_deliverOldest 120 = .ok (.goto 57, 3) := by decide +kernel
theorem dX4_deliverOldest_123 : decode cX4_deliverOldest 123 = .ok (.aload_n 0, 1) := by decide +kernel
theorem dX4_deliverOldest_124 : decode cX4_deliverOldest 124 = .ok (.iload_n 2, 1) := by decide +kernel
theorem dX4_deliverOldest_125 : decode cX4_deliverOldest 125 = .ok (.iload_n 1, 1) := by decide +kernel
theorem dX4_deliverOldest_126 : decode cX4_deliverOldest 126 = .ok (.iload 4, 2) := by decide +kernel
theorem dX4_deliverOldest_128 : decode cX4_deliverOldest 128 = .ok (.invokevirtual 160, 3) := by decide +kernel
theorem dX4_deliverOldest_131 : decode cX4_deliverOldest 131 = .ok (.goto 46, 3) := by decide +kernel
theorem dX4_deliverOldest_134 : decode cX4_deliverOldest 134 = .ok (.aload_n 0, 1) := by decide +kernel
theorem dX4_deliverOldest_135 : decode cX4_deliverOldest 135 = .ok (.iload_n 2, 1) := by decide +kernel
theorem dX4_deliverOldest_136 : decode cX4_deliverOldest 136 = .ok (.iload_n 1, 1) := by decide +kernel
theorem dX4_deliverOldest_137 : decode cX4_deliverOldest 137 = .ok (.iload 4, 2) := by decide +kernel
theorem dX4_deliverOldest_139 : decode cX4_deliverOldest 139 = .ok (.iconst 0, 1) := by decide +kernel
theorem dX4_deliverOldest_140 : decode cX4_deliverOldest 140 = .ok (.invokevirtual 163, 3) := by decide +kernel
theorem dX4_deliverOldest_143 : decode cX4_deliverOldest 143 = .ok (.goto 34, 3) := by decide +kernel
theorem dX4_deliverOldest_146 : decode cX4_deliverOldest 146 = .ok (.aload_n 0, 1) := by decide +kernel
theorem dX4_deliverOldest_147 : decode cX4_deliverOldest 147 = .ok (.iload_n 2, 1) := by decide +kernel
theorem dX4_deliverOldest_148 : decode cX4_deliverOldest 148 = .ok (.iload_n 1, 1) := by decide +kernel
theorem dX4_deliverOldest_149 : decode cX4_deliverOldest 149 = .ok (.iload 4, 2) := by decide +kernel
theorem dX4_deliverOldest_151 : decode cX4_deliverOldest 151 = .ok (.invokevirtual 167, 3) := by decide +kernel
theorem dX4_deliverOldest_154 : decode cX4_deliverOldest 154 = .ok (.goto 23, 3) := by decide +kernel
theorem dX4_deliverOldest_157 : decode cX4_deliverOldest 157 = .ok (.aload_n 0, 1) := by decide +kernel
theorem dX4_deliverOldest_158 : decode cX4_deliverOldest 158 = .ok (.iload_n 2, 1) := by decide +kernel
theorem dX4_deliverOldest_159 : decode cX4_deliverOldest 159 = .ok (.iload_n 1, 1) := by decide +kernel
theorem dX4_deliverOldest_160 : decode cX4_deliverOldest 160 = .ok (.iload 4, 2) := by decide +kernel
theorem dX4_deliverOldest_162 : decode cX4_deliverOldest 162 = .ok (.iconst 1, 1) := by decide +kernel
theorem dX4_deliverOldest_163 : decode cX4_deliverOldest 163 = .ok (.invokevirtual 163, 3) := by decide +kernel
theorem dX4_deliverOldest_166 : decode cX4_deliverOldest 166 = .ok (.goto 11, 3) := by decide +kernel
theorem dX4_deliverOldest_169 : decode cX4_deliverOldest 169 = .ok (.aload_n 0, 1) := by decide +kernel
theorem dX4_deliverOldest_170 : decode cX4_deliverOldest 170 = .ok (.iload_n 2, 1) := by decide +kernel
theorem dX4_deliverOldest_171 : decode cX4_deliverOldest 171 = .ok (.iload_n 1, 1) := by decide +kernel
theorem dX4_deliverOldest_172 : decode cX4_deliverOldest 172 = .ok (.iload 4, 2) := by decide +kernel
theorem dX4_deliverOldest_174 : decode cX4_deliverOldest 174 = .ok (.invokevirtual 170, 3) := by decide +kernel
theorem dX4_deliverOldest_177 : decode cX4_deliverOldest 177 = .ok (.iload_n 3, 1) := by decide +kernel
theorem dX4_deliverOldest_178 : decode cX4_deliverOldest 178 = .ok (.ireturn, 1) := by decide +kernel
set_option maxRecDepth 20000 in
theorem ggX4_hearLocked_X0_gainVote : GoodIn wsX4_hearLocked wsX0_gainVote := goodIn_r _ [8, 9, 10, 18, 19, 20, 21, 22] (by decide +kernel) (by decide +kernel)
set_option maxRecDepth 20000 in
theorem gX4_hearLocked_X0_gainVote : GoodIn wsX4_hearLocked (wsV RX4 173 RX0 yX0_gainVote wsX0_gainVote) := goodIn_app (goodIn_of _ (by decide +kernel)) ggX4_hearLocked_X0_gainVote
theorem dX4_hearLocked_0 : decode cX4_hearLocked 0 = .ok (.aload_n 0, 1) := by decide +kernel
theorem dX4_hearLocked_1 : decode cX4_hearLocked 1 = .ok (.getfield 31, 3) := by decide +kernel
theorem dX4_hearLocked_4 : decode cX4_hearLocked 4 = .ok (.iload_n 1, 1) := by decide +kernel
theorem dX4_hearLocked_5 : decode cX4_hearLocked 5 = .ok (.aaload, 1) := by decide +kernel
theorem dX4_hearLocked_6 : decode cX4_hearLocked 6 = .ok (.astore 4, 2) := by decide +kernel
theorem dX4_hearLocked_8 : decode cX4_hearLocked 8 = .ok (.aload 4, 2) := by decide +kernel
theorem dX4_hearLocked_10 : decode cX4_hearLocked 10 = .ok (.getfield 74, 3) := by decide +kernel
theorem dX4_hearLocked_13 : decode cX4_hearLocked 13 = .ok (.ifCond .eq 18, 3) := by decide +kernel
theorem dX4_hearLocked_16 : decode cX4_hearLocked 16 = .ok (.aload 4, 2) := by decide +kernel
theorem dX4_hearLocked_18 : decode cX4_hearLocked 18 = .ok (.getfield 80, 3) := by decide +kernel
theorem dX4_hearLocked_21 : decode cX4_hearLocked 21 = .ok (.iload_n 3, 1) := by decide +kernel
theorem dX4_hearLocked_22 : decode cX4_hearLocked 22 = .ok (.if_icmp .ne 9, 3) := by decide +kernel
theorem dX4_hearLocked_25 : decode cX4_hearLocked 25 = .ok (.aload 4, 2) := by decide +kernel
theorem dX4_hearLocked_27 : decode cX4_hearLocked 27 = .ok (.iload_n 2, 1) := by decide +kernel
theorem dX4_hearLocked_28 : decode cX4_hearLocked 28 = .ok (.invokevirtual 173, 3) := by decide +kernel
theorem dX4_hearLocked_31 : decode cX4_hearLocked 31 = .ok (.return_, 1) := by decide +kernel
set_option maxRecDepth 20000 in
theorem ggX4_hearFailed_X0_isAsking : GoodIn wsX4_hearFailed wsX0_isAsking := goodIn_r _ [10, 11, 12, 60, 61, 62, 63, 64] (by decide +kernel) (by decide +kernel)
set_option maxRecDepth 20000 in
theorem gX4_hearFailed_X0_isAsking : GoodIn wsX4_hearFailed (wsV RX4 176 RX0 yX0_isAsking wsX0_isAsking) := goodIn_app (goodIn_of _ (by decide +kernel)) ggX4_hearFailed_X0_isAsking
set_option maxRecDepth 20000 in
theorem ggX4_hearFailed_X4_has : GoodIn wsX4_hearFailed wsX4_has := goodIn_r _ [16] (by decide +kernel) (by decide +kernel)
set_option maxRecDepth 20000 in
theorem gX4_hearFailed_X4_has : GoodIn wsX4_hearFailed (va_wsS RX4 146 yX4_has wsX4_has) := goodIn_app (goodIn_of _ (by decide +kernel)) ggX4_hearFailed_X4_has
set_option maxRecDepth 20000 in
theorem ggX4_hearFailed_X4_giveUp : GoodIn wsX4_hearFailed wsX4_giveUp := goodIn_r _ [20, 1, 21, 22, 23, 24, 15, 25, 26, 27, 28, 29, 30, 31, 32, 33, 34, 35, 36, 37, 38, 39, 40, 41, 42, 43, 44, 45, 46, 47, 48, 9, 49, 50, 51, 52, 53, 54, 55, 56, 57, 58, 59, 60, 61, 62, 63, 64, 65, 66, 67, 68, 69] (by decide +kernel) (by decide +kernel)
set_option maxRecDepth 20000 in
theorem gX4_hearFailed_X4_giveUp : GoodIn wsX4_hearFailed (wsV RX4 179 RX4 yX4_giveUp wsX4_giveUp) := goodIn_app (goodIn_of _ (by decide +kernel)) ggX4_hearFailed_X4_giveUp
theorem dX4_hearFailed_0 : decode cX4_hearFailed 0 = .ok (.aload_n 0, 1) := by decide +kernel
theorem dX4_hearFailed_1 : decode cX4_hearFailed 1 = .ok (.getfield 31, 3) := by decide +kernel
theorem dX4_hearFailed_4 : decode cX4_hearFailed 4 = .ok (.iload_n 1, 1) := by decide +kernel
theorem dX4_hearFailed_5 : decode cX4_hearFailed 5 = .ok (.aaload, 1) := by decide +kernel
theorem dX4_hearFailed_6 : decode cX4_hearFailed 6 = .ok (.astore 4, 2) := by decide +kernel
theorem dX4_hearFailed_8 : decode cX4_hearFailed 8 = .ok (.aload 4, 2) := by decide +kernel
theorem dX4_hearFailed_10 : decode cX4_hearFailed 10 = .ok (.iload_n 3, 1) := by decide +kernel
theorem dX4_hearFailed_11 : decode cX4_hearFailed 11 = .ok (.invokevirtual 176, 3) := by decide +kernel
theorem dX4_hearFailed_14 : decode cX4_hearFailed 14 = .ok (.ifCond .ne 4, 3) := by decide +kernel
theorem dX4_hearFailed_17 : decode cX4_hearFailed 17 = .ok (.return_, 1) := by decide +kernel
theorem dX4_hearFailed_18 : decode cX4_hearFailed 18 = .ok (.aload 4, 2) := by decide +kernel
theorem dX4_hearFailed_20 : decode cX4_hearFailed 20 = .ok (.dup, 1) := by decide +kernel
theorem dX4_hearFailed_21 : decode cX4_hearFailed 21 = .ok (.getfield 120, 3) := by decide +kernel
theorem dX4_hearFailed_24 : decode cX4_hearFailed 24 = .ok (.iconst 1, 1) := by decide +kernel
theorem dX4_hearFailed_25 : decode cX4_hearFailed 25 = .ok (.iload_n 2, 1) := by decide +kernel
theorem dX4_hearFailed_26 : decode cX4_hearFailed 26 = .ok (.ishl, 1) := by decide +kernel
theorem dX4_hearFailed_27 : decode cX4_hearFailed 27 = .ok (.ior, 1) := by decide +kernel
theorem dX4_hearFailed_28 : decode cX4_hearFailed 28 = .ok (.putfield 120, 3) := by decide +kernel
theorem dX4_hearFailed_31 : decode cX4_hearFailed 31 = .ok (.iconst 0, 1) := by decide +kernel
theorem dX4_hearFailed_32 : decode cX4_hearFailed 32 = .ok (.istore 5, 2) := by decide +kernel
theorem dX4_hearFailed_34 : decode cX4_hearFailed 34 = .ok (.iload 5, 2) := by decide +kernel
theorem dX4_hearFailed_36 : decode cX4_hearFailed 36 = .ok (.aload_n 0, 1) := by decide +kernel
theorem dX4_hearFailed_37 : decode cX4_hearFailed 37 = .ok (.getfield 18, 3) := by decide +kernel
theorem dX4_hearFailed_40 : decode cX4_hearFailed 40 = .ok (.if_icmp .ge 35, 3) := by decide +kernel
theorem dX4_hearFailed_43 : decode cX4_hearFailed 43 = .ok (.aload 4, 2) := by decide +kernel
theorem dX4_hearFailed_45 : decode cX4_hearFailed 45 = .ok (.getfield 94, 3) := by decide +kernel
theorem dX4_hearFailed_48 : decode cX4_hearFailed 48 = .ok (.aload 4, 2) := by decide +kernel
theorem dX4_hearFailed_50 : decode cX4_hearFailed 50 = .ok (.getfield 123, 3) := by decide +kernel
theorem dX4_hearFailed_53 : decode cX4_hearFailed 53 = .ok (.iand, 1) := by decide +kernel
theorem dX4_hearFailed_54 : decode cX4_hearFailed 54 = .ok (.iload 5, 2) := by decide +kernel
theorem dX4_hearFailed_56 : decode cX4_hearFailed 56 = .ok (.invokestatic 146, 3) := by decide +kernel
theorem dX4_hearFailed_59 : decode cX4_hearFailed 59 = .ok (.ifCond .eq 10, 3) := by decide +kernel
theorem dX4_hearFailed_62 : decode cX4_hearFailed 62 = .ok (.aload_n 0, 1) := by decide +kernel
theorem dX4_hearFailed_63 : decode cX4_hearFailed 63 = .ok (.iload_n 1, 1) := by decide +kernel
theorem dX4_hearFailed_64 : decode cX4_hearFailed 64 = .ok (.iload 5, 2) := by decide +kernel
theorem dX4_hearFailed_66 : decode cX4_hearFailed 66 = .ok (.invokevirtual 179, 3) := by decide +kernel
theorem dX4_hearFailed_69 : decode cX4_hearFailed 69 = .ok (.iinc 5 1, 3) := by decide +kernel
theorem dX4_hearFailed_72 : decode cX4_hearFailed 72 = .ok (.goto (-38), 3) := by decide +kernel
theorem dX4_hearFailed_75 : decode cX4_hearFailed 75 = .ok (.return_, 1) := by decide +kernel
set_option maxRecDepth 20000 in
theorem ggX4_hearInquire_X0_isAsking : GoodIn wsX4_hearInquire wsX0_isAsking := goodIn_r _ [9, 10, 11, 59, 60, 61, 62, 63] (by decide +kernel) (by decide +kernel)
set_option maxRecDepth 20000 in
theorem gX4_hearInquire_X0_isAsking : GoodIn wsX4_hearInquire (wsV RX4 176 RX0 yX0_isAsking wsX0_isAsking) := goodIn_app (goodIn_of _ (by decide +kernel)) ggX4_hearInquire_X0_isAsking
set_option maxRecDepth 20000 in
theorem ggX4_hearInquire_X4_has : GoodIn wsX4_hearInquire wsX4_has := goodIn_r _ [15] (by decide +kernel) (by decide +kernel)
set_option maxRecDepth 20000 in
theorem gX4_hearInquire_X4_has : GoodIn wsX4_hearInquire (va_wsS RX4 146 yX4_has wsX4_has) := goodIn_app (goodIn_of _ (by decide +kernel)) ggX4_hearInquire_X4_has
set_option maxRecDepth 20000 in
theorem ggX4_hearInquire_X4_giveUp : GoodIn wsX4_hearInquire wsX4_giveUp := goodIn_r _ [19, 1, 20, 21, 22, 23, 14, 24, 25, 26, 27, 28, 29, 30, 31, 32, 33, 34, 35, 36, 37, 38, 39, 40, 41, 42, 43, 44, 45, 46, 47, 8, 48, 49, 50, 51, 52, 53, 54, 55, 56, 57, 58, 59, 60, 61, 62, 63, 64, 65, 66, 67, 68] (by decide +kernel) (by decide +kernel)
set_option maxRecDepth 20000 in
theorem gX4_hearInquire_X4_giveUp : GoodIn wsX4_hearInquire (wsV RX4 179 RX4 yX4_giveUp wsX4_giveUp) := goodIn_app (goodIn_of _ (by decide +kernel)) ggX4_hearInquire_X4_giveUp
theorem dX4_hearInquire_0 : decode cX4_hearInquire 0 = .ok (.aload_n 0, 1) := by decide +kernel
theorem dX4_hearInquire_1 : decode cX4_hearInquire 1 = .ok (.getfield 31, 3) := by decide +kernel
theorem dX4_hearInquire_4 : decode cX4_hearInquire 4 = .ok (.iload_n 1, 1) := by decide +kernel
theorem dX4_hearInquire_5 : decode cX4_hearInquire 5 = .ok (.aaload, 1) := by decide +kernel
theorem dX4_hearInquire_6 : decode cX4_hearInquire 6 = .ok (.astore 4, 2) := by decide +kernel
theorem dX4_hearInquire_8 : decode cX4_hearInquire 8 = .ok (.aload 4, 2) := by decide +kernel
theorem dX4_hearInquire_10 : decode cX4_hearInquire 10 = .ok (.iload_n 3, 1) := by decide +kernel
theorem dX4_hearInquire_11 : decode cX4_hearInquire 11 = .ok (.invokevirtual 176, 3) := by decide +kernel
theorem dX4_hearInquire_14 : decode cX4_hearInquire 14 = .ok (.ifCond .eq 15, 3) := by decide +kernel
theorem dX4_hearInquire_17 : decode cX4_hearInquire 17 = .ok (.aload 4, 2) := by decide +kernel
theorem dX4_hearInquire_19 : decode cX4_hearInquire 19 = .ok (.getfield 94, 3) := by decide +kernel
theorem dX4_hearInquire_22 : decode cX4_hearInquire 22 = .ok (.iload_n 2, 1) := by decide +kernel
theorem dX4_hearInquire_23 : decode cX4_hearInquire 23 = .ok (.invokestatic 146, 3) := by decide +kernel
theorem dX4_hearInquire_26 : decode cX4_hearInquire 26 = .ok (.ifCond .ne 4, 3) := by decide +kernel
theorem dX4_hearInquire_29 : decode cX4_hearInquire 29 = .ok (.return_, 1) := by decide +kernel
theorem dX4_hearInquire_30 : decode cX4_hearInquire 30 = .ok (.aload 4, 2) := by decide +kernel
theorem dX4_hearInquire_32 : decode cX4_hearInquire 32 = .ok (.getfield 120, 3) := by decide +kernel
theorem dX4_hearInquire_35 : decode cX4_hearInquire 35 = .ok (.ifCond .eq 12, 3) := by decide +kernel
theorem dX4_hearInquire_38 : decode cX4_hearInquire 38 = .ok (.aload_n 0, 1) := by decide +kernel
theorem dX4_hearInquire_39 : decode cX4_hearInquire 39 = .ok (.iload_n 1, 1) := by decide +kernel
theorem dX4_hearInquire_40 : decode cX4_hearInquire 40 = .ok (.iload_n 2, 1) := by decide +kernel
theorem dX4_hearInquire_41 : decode cX4_hearInquire 41 = .ok (.invokevirtual 179, 3) := by decide +kernel
theorem dX4_hearInquire_44 : decode cX4_hearInquire 44 = .ok (.goto 16, 3) := by decide +kernel
theorem dX4_hearInquire_47 : decode cX4_hearInquire 47 = .ok (.aload 4, 2) := by decide +kernel
theorem dX4_hearInquire_49 : decode cX4_hearInquire 49 = .ok (.dup, 1) := by decide +kernel
theorem dX4_hearInquire_50 : decode cX4_hearInquire 50 = .ok (.getfield 123, 3) := by decide +kernel
theorem dX4_hearInquire_53 : decode cX4_hearInquire 53 = .ok (.iconst 1, 1) := by decide +kernel
theorem dX4_hearInquire_54 : decode cX4_hearInquire 54 = .ok (.iload_n 2, 1) := by decide +kernel
theorem dX4_hearInquire_55 : decode cX4_hearInquire 55 = .ok (.ishl, 1) := by decide +kernel
theorem dX4_hearInquire_56 : decode cX4_hearInquire 56 = .ok (.ior, 1) := by decide +kernel
theorem dX4_hearInquire_57 : decode cX4_hearInquire 57 = .ok (.putfield 123, 3) := by decide +kernel
theorem dX4_hearInquire_60 : decode cX4_hearInquire 60 = .ok (.return_, 1) := by decide +kernel
set_option maxRecDepth 20000 in
theorem ggX4_giveUp_X4_send : GoodIn wsX4_giveUp wsX4_send := goodIn_r _ [7, 8, 9, 10, 11, 12, 13, 14, 15, 16, 17, 18, 19, 20, 21, 22, 23, 24, 25, 26, 27, 36, 37, 38, 39, 40, 41, 42, 48, 49, 50, 51, 52] (by decide +kernel) (by decide +kernel)
set_option maxRecDepth 20000 in
theorem gX4_giveUp_X4_send : GoodIn wsX4_giveUp (wsV RX4 149 RX4 yX4_send wsX4_send) := goodIn_app (goodIn_of _ (by decide +kernel)) ggX4_giveUp_X4_send
set_option maxRecDepth 20000 in
theorem ggX4_giveUp_X0_loseVote : GoodIn wsX4_giveUp wsX0_loseVote := goodIn_r _ [32, 33, 34, 35, 43, 44, 45, 46, 47] (by decide +kernel) (by decide +kernel)
set_option maxRecDepth 20000 in
theorem gX4_giveUp_X0_loseVote : GoodIn wsX4_giveUp (wsV RX4 182 RX0 yX0_loseVote wsX0_loseVote) := goodIn_app (goodIn_of _ (by decide +kernel)) ggX4_giveUp_X0_loseVote
theorem dX4_giveUp_0 : decode cX4_giveUp 0 = .ok (.aload_n 0, 1) := by decide +kernel
theorem dX4_giveUp_1 : decode cX4_giveUp 1 = .ok (.getfield 31, 3) := by decide +kernel
theorem dX4_giveUp_4 : decode cX4_giveUp 4 = .ok (.iload_n 1, 1) := by decide +kernel
theorem dX4_giveUp_5 : decode cX4_giveUp 5 = .ok (.aaload, 1) := by decide +kernel
theorem dX4_giveUp_6 : decode cX4_giveUp 6 = .ok (.astore_n 3, 1) := by decide +kernel
theorem dX4_giveUp_7 : decode cX4_giveUp 7 = .ok (.aload_n 0, 1) := by decide +kernel
theorem dX4_giveUp_8 : decode cX4_giveUp 8 = .ok (.iload_n 1, 1) := by decide +kernel
theorem dX4_giveUp_9 : decode cX4_giveUp 9 = .ok (.iload_n 2, 1) := by decide +kernel
theorem dX4_giveUp_10 : decode cX4_giveUp 10 = .ok (.iconst 5, 1) := by decide +kernel
theorem dX4_giveUp_11 : decode cX4_giveUp 11 = .ok (.aload_n 3, 1) := by decide +kernel
theorem dX4_giveUp_12 : decode cX4_giveUp 12 = .ok (.getfield 80, 3) := by decide +kernel
theorem dX4_giveUp_15 : decode cX4_giveUp 15 = .ok (.invokevirtual 149, 3) := by decide +kernel
theorem dX4_giveUp_18 : decode cX4_giveUp 18 = .ok (.aload_n 3, 1) := by decide +kernel
theorem dX4_giveUp_19 : decode cX4_giveUp 19 = .ok (.iload_n 2, 1) := by decide +kernel
theorem dX4_giveUp_20 : decode cX4_giveUp 20 = .ok (.invokevirtual 182, 3) := by decide +kernel
theorem dX4_giveUp_23 : decode cX4_giveUp 23 = .ok (.return_, 1) := by decide +kernel
set_option maxRecDepth 20000 in
theorem ggX4_weighRequest_X4_lend : GoodIn wsX4_weighRequest wsX4_lend := goodIn_r _ [8, 1, 9, 10, 11, 12, 13, 14, 15, 16, 17, 18, 19, 7, 20, 21, 22, 23, 24, 25, 26, 27, 28, 29, 30, 31, 32, 33, 34, 35, 36, 37, 38, 39, 40, 73, 74, 75, 76, 77, 78, 79, 80, 81, 82, 83, 84, 85, 86, 87, 88] (by decide +kernel) (by decide +kernel)
set_option maxRecDepth 20000 in
theorem gX4_weighRequest_X4_lend : GoodIn wsX4_weighRequest (wsV RX4 185 RX4 yX4_lend wsX4_lend) := goodIn_app (goodIn_of _ (by decide +kernel)) ggX4_weighRequest_X4_lend
set_option maxRecDepth 20000 in
theorem ggX4_weighRequest_X2_isPressed : GoodIn wsX4_weighRequest wsX2_isPressed := goodIn_r _ [44, 45, 46, 14, 15, 47, 48, 49, 50, 51, 52, 53, 54, 55, 56, 57, 58, 59, 7, 60, 80, 81, 82, 83, 89, 90, 91] (by decide +kernel) (by decide +kernel)
set_option maxRecDepth 20000 in
theorem gX4_weighRequest_X2_isPressed : GoodIn wsX4_weighRequest (wsV RX4 188 RX2 yX2_isPressed wsX2_isPressed) := goodIn_app (goodIn_of _ (by decide +kernel)) ggX4_weighRequest_X2_isPressed
set_option maxRecDepth 20000 in
theorem ggX4_weighRequest_X1_insert : GoodIn wsX4_weighRequest wsX1_insert := goodIn_r _ [64, 52, 53, 58, 59, 7, 60, 89, 90, 91] (by decide +kernel) (by decide +kernel)
set_option maxRecDepth 20000 in
theorem gX4_weighRequest_X1_insert : GoodIn wsX4_weighRequest (wsV RX4 192 RX1 yX1_insert wsX1_insert) := goodIn_app (goodIn_of _ (by decide +kernel)) ggX4_weighRequest_X1_insert
set_option maxRecDepth 20000 in
theorem ggX4_weighRequest_X1_nodeAt : GoodIn wsX4_weighRequest wsX1_nodeAt := goodIn_r _ [51, 52, 53, 89, 90, 91] (by decide +kernel) (by decide +kernel)
set_option maxRecDepth 20000 in
theorem gX4_weighRequest_X1_nodeAt : GoodIn wsX4_weighRequest (wsV RX4 139 RX1 yX1_nodeAt wsX1_nodeAt) := goodIn_app (goodIn_of _ (by decide +kernel)) ggX4_weighRequest_X1_nodeAt
set_option maxRecDepth 20000 in
theorem ggX4_weighRequest_X1_timeAt : GoodIn wsX4_weighRequest wsX1_timeAt := goodIn_r _ [57, 52, 58, 89, 90, 91] (by decide +kernel) (by decide +kernel)
set_option maxRecDepth 20000 in
theorem gX4_weighRequest_X1_timeAt : GoodIn wsX4_weighRequest (wsV RX4 195 RX1 yX1_timeAt wsX1_timeAt) := goodIn_app (goodIn_of _ (by decide +kernel)) ggX4_weighRequest_X1_timeAt
set_option maxRecDepth 20000 in
theorem ggX4_weighRequest_X4_send : GoodIn wsX4_weighRequest wsX4_send := goodIn_r _ [20, 21, 22, 23, 24, 25, 26, 27, 28, 29, 30, 31, 32, 33, 34, 35, 36, 37, 38, 39, 40, 73, 74, 75, 76, 77, 78, 79, 84, 85, 86, 87, 88] (by decide +kernel) (by decide +kernel)
set_option maxRecDepth 20000 in
theorem gX4_weighRequest_X4_send : GoodIn wsX4_weighRequest (wsV RX4 149 RX4 yX4_send wsX4_send) := goodIn_app (goodIn_of _ (by decide +kernel)) ggX4_weighRequest_X4_send
set_option maxRecDepth 20000 in
theorem ggX4_weighRequest_X4_inquireOnce : GoodIn wsX4_weighRequest wsX4_inquireOnce := goodIn_r _ [70, 1, 71, 2, 72, 17, 18, 19, 7, 20, 21, 22, 23, 24, 25, 26, 27, 28, 29, 30, 31, 32, 33, 34, 35, 36, 37, 38, 39, 40, 73, 74, 75, 76, 77, 78, 79, 80, 81, 82, 83, 84, 85, 86, 87, 88] (by decide +kernel) (by decide +kernel)
set_option maxRecDepth 20000 in
theorem gX4_weighRequest_X4_inquireOnce : GoodIn wsX4_weighRequest (wsV RX4 198 RX4 yX4_inquireOnce wsX4_inquireOnce) := goodIn_app (goodIn_of _ (by decide +kernel)) ggX4_weighRequest_X4_inquireOnce
theorem dX4_weighRequest_0 : decode cX4_weighRequest 0 = .ok (.aload_n 0, 1) := by decide +kernel
theorem dX4_weighRequest_1 : decode cX4_weighRequest 1 = .ok (.getfield 37, 3) := by decide +kernel
theorem dX4_weighRequest_4 : decode cX4_weighRequest 4 = .ok (.iload_n 1, 1) := by decide +kernel
theorem dX4_weighRequest_5 : decode cX4_weighRequest 5 = .ok (.aaload, 1) := by decide +kernel
theorem dX4_weighRequest_6 : decode cX4_weighRequest 6 = .ok (.astore 4, 2) := by decide +kernel
theorem dX4_weighRequest_8 : decode cX4_weighRequest 8 = .ok (.aload 4, 2) := by decide +kernel
theorem dX4_weighRequest_10 : decode cX4_weighRequest 10 = .ok (.getfield 103, 3) := by decide +kernel
theorem dX4_weighRequest_13 : decode cX4_weighRequest 13 = .ok (.iconst (-1), 1) := by decide +kernel
theorem dX4_weighRequest_14 : decode cX4_weighRequest 14 = .ok (.if_icmp .ne 11, 3) := by decide +kernel
theorem dX4_weighRequest_17 : decode cX4_weighRequest 17 = .ok (.aload_n 0, 1) := by decide +kernel
theorem dX4_weighRequest_18 : decode cX4_weighRequest 18 = .ok (.iload_n 1, 1) := by decide +kernel
theorem dX4_weighRequest_19 : decode cX4_weighRequest 19 = .ok (.iload_n 2, 1) := by decide +kernel
theorem dX4_weighRequest_20 : decode cX4_weighRequest 20 = .ok (.iload_n 3, 1) := by decide +kernel
theorem dX4_weighRequest_21 : decode cX4_weighRequest 21 = .ok (.invokevirtual 185, 3) := by decide +kernel
theorem dX4_weighRequest_24 : decode cX4_weighRequest 24 = .ok (.return_, 1) := by decide +kernel
theorem dX4_weighRequest_25 : decode cX4_weighRequest 25 = .ok (.aload 4, 2) := by decide +kernel
theorem dX4_weighRequest_27 : decode cX4_weighRequest 27 = .ok (.invokevirtual 188, 3) := by decide +kernel
theorem dX4_weighRequest_30 : decode cX4_weighRequest 30 = .ok (.istore 5, 2) := by decide +kernel
theorem dX4_weighRequest_32 : decode cX4_weighRequest 32 = .ok (.aload 4, 2) := by decide +kernel
theorem dX4_weighRequest_34 : decode cX4_weighRequest 34 = .ok (.getfield 130, 3) := by decide +kernel
theorem dX4_weighRequest_37 : decode cX4_weighRequest 37 = .ok (.iload_n 2, 1) := by decide +kernel
theorem dX4_weighRequest_38 : decode cX4_weighRequest 38 = .ok (.iload_n 3, 1) := by decide +kernel
theorem dX4_weighRequest_39 : decode cX4_weighRequest 39 = .ok (.invokevirtual 192, 3) := by decide +kernel
theorem dX4_weighRequest_42 : decode cX4_weighRequest 42 = .ok (.ifCond .ne 7, 3) := by decide +kernel
theorem dX4_weighRequest_45 : decode cX4_weighRequest 45 = .ok (.iconst 1, 1) := by decide +kernel
theorem dX4_weighRequest_46 : decode cX4_weighRequest 46 = .ok (.goto 4, 3) := by decide +kernel
theorem dX4_weighRequest_49 : decode cX4_weighRequest 49 = .ok (.iconst 0, 1) := by decide +kernel
theorem dX4_weighRequest_50 : decode cX4_weighRequest 50 = .ok (.istore 6, 2) := by decide +kernel
theorem dX4_weighRequest_52 : decode cX4_weighRequest 52 = .ok (.iload 6, 2) := by decide +kernel
theorem dX4_weighRequest_54 : decode cX4_weighRequest 54 = .ok (.ifCond .eq 49, 3) := by decide +kernel
theorem dX4_weighRequest_57 : decode cX4_weighRequest 57 = .ok (.aload 4, 2) := by decide +kernel
theorem dX4_weighRequest_59 : decode cX4_weighRequest 59 = .ok (.invokevirtual 188, 3) := by decide +kernel
theorem dX4_weighRequest_62 : decode cX4_weighRequest 62 = .ok (.ifCond .eq 41, 3) := by decide +kernel
theorem dX4_weighRequest_65 : decode cX4_weighRequest 65 = .ok (.iload 5, 2) := by decide +kernel
theorem dX4_weighRequest_67 : decode cX4_weighRequest 67 = .ok (.ifCond .eq 28, 3) := by decide +kernel
theorem dX4_weighRequest_70 : decode cX4_weighRequest 70 = .ok (.aload_n 0, 1) := by decide +kernel
theorem dX4_weighRequest_71 : decode cX4_weighRequest 71 = .ok (.iload_n 1, 1) := by decide +kernel
theorem dX4_weighRequest_72 : decode cX4_weighRequest 72 = .ok (.aload 4, 2) := by decide +kernel
theorem dX4_weighRequest_74 : decode cX4_weighRequest 74 = .ok (.getfield 130, 3) := by decide +kernel
theorem dX4_weighRequest_77 : decode cX4_weighRequest 77 = .ok (.iconst 1, 1) := by decide +kernel
theorem dX4_weighRequest_78 : decode cX4_weighRequest 78 = .ok (.invokevirtual 139, 3) := by decide +kernel
theorem dX4_weighRequest_81 : decode cX4_weighRequest 81 = .ok (.bipush 6, 2) := by decide +kernel
theorem dX4_weighRequest_83 : decode cX4_weighRequest 83 = .ok (.aload 4, 2) := by decide +kernel
theorem dX4_weighRequest_85 : decode cX4_weighRequest 85 = .ok (.getfield 130, 3) := by decide +kernel
theorem dX4_weighRequest_88 : decode cX4_weighRequest 88 = .ok (.iconst 1, 1) := by decide +kernel
theorem dX4_weighRequest_89 : decode cX4_weighRequest 89 = .ok (.invokevirtual 195, 3) := by decide +kernel
theorem dX4_weighRequest_92 : decode cX4_weighRequest 92 = .ok (.invokevirtual 149, 3) := by decide +kernel
theorem dX4_weighRequest_95 : decode cX4_weighRequest 95 = .ok (.aload_n 0, 1) := by decide +kernel
theorem dX4_weighRequest_96 : decode cX4_weighRequest 96 = .ok (.iload_n 1, 1) := by decide +kernel
theorem dX4_weighRequest_97 : decode cX4_weighRequest 97 = .ok (.invokevirtual 198, 3) := by decide +kernel
theorem dX4_weighRequest_100 : decode cX4_weighRequest 100 = .ok (.goto 12, 3) := by decide +kernel
theorem dX4_weighRequest_103 : decode cX4_weighRequest 103 = .ok (.aload_n 0, 1) := by decide +kernel
theorem dX4_weighRequest_104 : decode cX4_weighRequest 104 = .ok (.iload_n 1, 1) := by decide +kernel
theorem dX4_weighRequest_105 : decode cX4_weighRequest 105 = .ok (.iload_n 2, 1) := by decide +kernel
theorem dX4_weighRequest_106 : decode cX4_weighRequest 106 = .ok (.bipush 6, 2) := by decide +kernel
theorem dX4_weighRequest_108 : decode cX4_weighRequest 108 = .ok (.iload_n 3, 1) := by decide +kernel
theorem dX4_weighRequest_109 : decode cX4_weighRequest 109 = .ok (.invokevirtual 149, 3) := by decide +kernel
theorem dX4_weighRequest_112 : decode cX4_weighRequest 112 = .ok (.return_, 1) := by decide +kernel
set_option maxRecDepth 20000 in
theorem ggX4_inquireOnce_X4_send : GoodIn wsX4_inquireOnce wsX4_send := goodIn_r _ [9, 10, 11, 12, 13, 14, 15, 16, 17, 18, 19, 20, 21, 22, 23, 24, 25, 26, 27, 28, 29, 30, 31, 32, 33, 34, 35, 36, 41, 42, 43, 44, 45] (by decide +kernel) (by decide +kernel)
set_option maxRecDepth 20000 in
theorem gX4_inquireOnce_X4_send : GoodIn wsX4_inquireOnce (wsV RX4 149 RX4 yX4_send wsX4_send) := goodIn_app (goodIn_of _ (by decide +kernel)) ggX4_inquireOnce_X4_send
theorem dX4_inquireOnce_0 : decode cX4_inquireOnce 0 = .ok (.aload_n 0, 1) := by decide +kernel
theorem dX4_inquireOnce_1 : decode cX4_inquireOnce 1 = .ok (.getfield 37, 3) := by decide +kernel
theorem dX4_inquireOnce_4 : decode cX4_inquireOnce 4 = .ok (.iload_n 1, 1) := by decide +kernel
theorem dX4_inquireOnce_5 : decode cX4_inquireOnce 5 = .ok (.aaload, 1) := by decide +kernel
theorem dX4_inquireOnce_6 : decode cX4_inquireOnce 6 = .ok (.astore_n 2, 1) := by decide +kernel
theorem dX4_inquireOnce_7 : decode cX4_inquireOnce 7 = .ok (.aload_n 2, 1) := by decide +kernel
theorem dX4_inquireOnce_8 : decode cX4_inquireOnce 8 = .ok (.getfield 126, 3) := by decide +kernel
theorem dX4_inquireOnce_11 : decode cX4_inquireOnce 11 = .ok (.ifCond .ne 22, 3) := by decide +kernel
theorem dX4_inquireOnce_14 : decode cX4_inquireOnce 14 = .ok (.aload_n 0, 1) := by decide +kernel
theorem dX4_inquireOnce_15 : decode cX4_inquireOnce 15 = .ok (.iload_n 1, 1) := by decide +kernel
theorem dX4_inquireOnce_16 : decode cX4_inquireOnce 16 = .ok (.aload_n 2, 1) := by decide +kernel
theorem dX4_inquireOnce_17 : decode cX4_inquireOnce 17 = .ok (.getfield 103, 3) := by decide +kernel
theorem dX4_inquireOnce_20 : decode cX4_inquireOnce 20 = .ok (.iconst 4, 1) := by decide +kernel
theorem dX4_inquireOnce_21 : decode cX4_inquireOnce 21 = .ok (.aload_n 2, 1) := by decide +kernel
theorem dX4_inquireOnce_22 : decode cX4_inquireOnce 22 = .ok (.getfield 201, 3) := by decide +kernel
theorem dX4_inquireOnce_25 : decode cX4_inquireOnce 25 = .ok (.invokevirtual 149, 3) := by decide +kernel
theorem dX4_inquireOnce_28 : decode cX4_inquireOnce 28 = .ok (.aload_n 2, 1) := by decide +kernel
theorem dX4_inquireOnce_29 : decode cX4_inquireOnce 29 = .ok (.iconst 1, 1) := by decide +kernel
theorem dX4_inquireOnce_30 : decode cX4_inquireOnce 30 = .ok (.putfield 126, 3) := by decide +kernel
theorem dX4_inquireOnce_33 : decode cX4_inquireOnce 33 = .ok (.return_, 1) := by decide +kernel
set_option maxRecDepth 20000 in
theorem ggX4_takeVoteBack_X1_insert : GoodIn wsX4_takeVoteBack wsX1_insert := goodIn_r _ [10, 11, 12, 13, 14, 15, 16, 84, 85, 86] (by decide +kernel) (by decide +kernel)
set_option maxRecDepth 20000 in
theorem gX4_takeVoteBack_X1_insert : GoodIn wsX4_takeVoteBack (wsV RX4 192 RX1 yX1_insert wsX1_insert) := goodIn_app (goodIn_of _ (by decide +kernel)) ggX4_takeVoteBack_X1_insert
set_option maxRecDepth 20000 in
theorem ggX4_takeVoteBack_X2_takeHome : GoodIn wsX4_takeVoteBack wsX2_takeHome := goodIn_r _ [21, 22, 23, 24, 80, 81, 82, 83] (by decide +kernel) (by decide +kernel)
set_option maxRecDepth 20000 in
theorem gX4_takeVoteBack_X2_takeHome : GoodIn wsX4_takeVoteBack (wsV RX4 204 RX2 yX2_takeHome wsX2_takeHome) := goodIn_app (goodIn_of _ (by decide +kernel)) ggX4_takeVoteBack_X2_takeHome
set_option maxRecDepth 20000 in
theorem ggX4_takeVoteBack_X1_nodeAt : GoodIn wsX4_takeVoteBack wsX1_nodeAt := goodIn_r _ [28, 11, 12, 84, 85, 86] (by decide +kernel) (by decide +kernel)
set_option maxRecDepth 20000 in
theorem gX4_takeVoteBack_X1_nodeAt : GoodIn wsX4_takeVoteBack (wsV RX4 139 RX1 yX1_nodeAt wsX1_nodeAt) := goodIn_app (goodIn_of _ (by decide +kernel)) ggX4_takeVoteBack_X1_nodeAt
set_option maxRecDepth 20000 in
theorem ggX4_takeVoteBack_X1_timeAt : GoodIn wsX4_takeVoteBack wsX1_timeAt := goodIn_r _ [32, 11, 13, 84, 85, 86] (by decide +kernel) (by decide +kernel)
set_option maxRecDepth 20000 in
theorem gX4_takeVoteBack_X1_timeAt : GoodIn wsX4_takeVoteBack (wsV RX4 195 RX1 yX1_timeAt wsX1_timeAt) := goodIn_app (goodIn_of _ (by decide +kernel)) ggX4_takeVoteBack_X1_timeAt
set_option maxRecDepth 20000 in
theorem ggX4_takeVoteBack_X1_removeFirst : GoodIn wsX4_takeVoteBack wsX1_removeFirst := goodIn_r _ [36, 11, 12, 13, 37, 38, 39, 40, 84, 85, 86] (by decide +kernel) (by decide +kernel)
set_option maxRecDepth 20000 in
theorem gX4_takeVoteBack_X1_removeFirst : GoodIn wsX4_takeVoteBack (wsV RX4 207 RX1 yX1_removeFirst wsX1_removeFirst) := goodIn_app (goodIn_of _ (by decide +kernel)) ggX4_takeVoteBack_X1_removeFirst
set_option maxRecDepth 20000 in
theorem ggX4_takeVoteBack_X4_lend : GoodIn wsX4_takeVoteBack wsX4_lend := goodIn_r _ [44, 1, 45, 46, 47, 20, 48, 22, 23, 24, 49, 50, 51, 15, 52, 53, 54, 55, 56, 57, 58, 59, 60, 61, 62, 63, 64, 65, 66, 67, 68, 69, 70, 71, 72, 73, 74, 75, 76, 77, 78, 79, 80, 81, 82, 83, 87, 88, 89, 90, 91] (by decide +kernel) (by decide +kernel)
set_option maxRecDepth 20000 in
theorem gX4_takeVoteBack_X4_lend : GoodIn wsX4_takeVoteBack (wsV RX4 185 RX4 yX4_lend wsX4_lend) := goodIn_app (goodIn_of _ (by decide +kernel)) ggX4_takeVoteBack_X4_lend
theorem dX4_takeVoteBack_0 : decode cX4_takeVoteBack 0 = .ok (.aload_n 0, 1) := by decide +kernel
theorem dX4_takeVoteBack_1 : decode cX4_takeVoteBack 1 = .ok (.getfield 37, 3) := by decide +kernel
theorem dX4_takeVoteBack_4 : decode cX4_takeVoteBack 4 = .ok (.iload_n 1, 1) := by decide +kernel
theorem dX4_takeVoteBack_5 : decode cX4_takeVoteBack 5 = .ok (.aaload, 1) := by decide +kernel
theorem dX4_takeVoteBack_6 : decode cX4_takeVoteBack 6 = .ok (.astore 5, 2) := by decide +kernel
theorem dX4_takeVoteBack_8 : decode cX4_takeVoteBack 8 = .ok (.aload 5, 2) := by decide +kernel
theorem dX4_takeVoteBack_10 : decode cX4_takeVoteBack 10 = .ok (.getfield 103, 3) := by decide +kernel
theorem dX4_takeVoteBack_13 : decode cX4_takeVoteBack 13 = .ok (.iload_n 2, 1) := by decide +kernel
theorem dX4_takeVoteBack_14 : decode cX4_takeVoteBack 14 = .ok (.if_icmp .ne 12, 3) := by decide +kernel
theorem dX4_takeVoteBack_17 : decode cX4_takeVoteBack 17 = .ok (.aload 5, 2) := by decide +kernel
theorem dX4_takeVoteBack_19 : decode cX4_takeVoteBack 19 = .ok (.getfield 201, 3) := by decide +kernel
theorem dX4_takeVoteBack_22 : decode cX4_takeVoteBack 22 = .ok (.iload_n 3, 1) := by decide +kernel
theorem dX4_takeVoteBack_23 : decode cX4_takeVoteBack 23 = .ok (.if_icmp .eq 4, 3) := by decide +kernel
theorem dX4_takeVoteBack_26 : decode cX4_takeVoteBack 26 = .ok (.return_, 1) := by decide +kernel
theorem dX4_takeVoteBack_27 : decode cX4_takeVoteBack 27 = .ok (.iload 4, 2) := by decide +kernel
theorem dX4_takeVoteBack_29 : decode cX4_takeVoteBack 29 = .ok (.ifCond .eq 14, 3) := by decide +kernel
theorem dX4_takeVoteBack_32 : decode cX4_takeVoteBack 32 = .ok (.aload 5, 2) := by decide +kernel
theorem dX4_takeVoteBack_34 : decode cX4_takeVoteBack 34 = .ok (.getfield 130, 3) := by decide +kernel
theorem dX4_takeVoteBack_37 : decode cX4_takeVoteBack 37 = .ok (.iload_n 2, 1) := by decide +kernel
theorem dX4_takeVoteBack_38 : decode cX4_takeVoteBack 38 = .ok (.iload_n 3, 1) := by decide +kernel
theorem dX4_takeVoteBack_39 : decode cX4_takeVoteBack 39 = .ok (.invokevirtual 192, 3) := by decide +kernel
theorem dX4_takeVoteBack_42 : decode cX4_takeVoteBack 42 = .ok (.pop, 1) := by decide +kernel
theorem dX4_takeVoteBack_43 : decode cX4_takeVoteBack 43 = .ok (.aload 5, 2) := by decide +kernel
theorem dX4_takeVoteBack_45 : decode cX4_takeVoteBack 45 = .ok (.invokevirtual 204, 3) := by decide +kernel
theorem dX4_takeVoteBack_48 : decode cX4_takeVoteBack 48 = .ok (.aload 5, 2) := by decide +kernel
theorem dX4_takeVoteBack_50 : decode cX4_takeVoteBack 50 = .ok (.getfield 130, 3) := by decide +kernel
theorem dX4_takeVoteBack_53 : decode cX4_takeVoteBack 53 = .ok (.getfield 134, 3) := by decide +kernel
theorem dX4_takeVoteBack_56 : decode cX4_takeVoteBack 56 = .ok (.ifCond .le 42, 3) := by decide +kernel
theorem dX4_takeVoteBack_59 : decode cX4_takeVoteBack 59 = .ok (.aload 5, 2) := by decide +kernel
theorem dX4_takeVoteBack_61 : decode cX4_takeVoteBack 61 = .ok (.getfield 130, 3) := by decide +kernel
theorem dX4_takeVoteBack_64 : decode cX4_takeVoteBack 64 = .ok (.iconst 0, 1) := by decide +kernel
theorem dX4_takeVoteBack_65 : decode cX4_takeVoteBack 65 = .ok (.invokevirtual 139, 3) := by decide +kernel
theorem dX4_takeVoteBack_68 : decode cX4_takeVoteBack 68 = .ok (.istore 6, 2) := by decide +kernel
theorem dX4_takeVoteBack_70 : decode cX4_takeVoteBack 70 = .ok (.aload 5, 2) := by decide +kernel
theorem dX4_takeVoteBack_72 : decode cX4_takeVoteBack 72 = .ok (.getfield 130, 3) := by decide +kernel
theorem dX4_takeVoteBack_75 : decode cX4_takeVoteBack 75 = .ok (.iconst 0, 1) := by decide +kernel
theorem dX4_takeVoteBack_76 : decode cX4_takeVoteBack 76 = .ok (.invokevirtual 195, 3) := by decide +kernel
theorem dX4_takeVoteBack_79 : decode cX4_takeVoteBack 79 = .ok (.istore 7, 2) := by decide +kernel
theorem dX4_takeVoteBack_81 : decode cX4_takeVoteBack 81 = .ok (.aload 5, 2) := by decide +kernel
theorem dX4_takeVoteBack_83 : decode cX4_takeVoteBack 83 = .ok (.getfield 130, 3) := by decide +kernel
theorem dX4_takeVoteBack_86 : decode cX4_takeVoteBack 86 = .ok (.invokevirtual 207, 3) := by decide +kernel
theorem dX4_takeVoteBack_89 : decode cX4_takeVoteBack 89 = .ok (.aload_n 0, 1) := by decide +kernel
theorem dX4_takeVoteBack_90 : decode cX4_takeVoteBack 90 = .ok (.iload_n 1, 1) := by decide +kernel
theorem dX4_takeVoteBack_91 : decode cX4_takeVoteBack 91 = .ok (.iload 6, 2) := by decide +kernel
theorem dX4_takeVoteBack_93 : decode cX4_takeVoteBack 93 = .ok (.iload 7, 2) := by decide +kernel
theorem dX4_takeVoteBack_95 : decode cX4_takeVoteBack 95 = .ok (.invokevirtual 185, 3) := by decide +kernel
theorem dX4_takeVoteBack_98 : decode cX4_takeVoteBack 98 = .ok (.return_, 1) := by decide +kernel
set_option maxRecDepth 20000 in
theorem ggX4_lend_X2_lendTo : GoodIn wsX4_lend wsX2_lendTo := goodIn_r _ [6, 7, 8, 9, 42, 43, 44, 45] (by decide +kernel) (by decide +kernel)
set_option maxRecDepth 20000 in
theorem gX4_lend_X2_lendTo : GoodIn wsX4_lend (wsV RX4 210 RX2 yX2_lendTo wsX2_lendTo) := goodIn_app (goodIn_of _ (by decide +kernel)) ggX4_lend_X2_lendTo
set_option maxRecDepth 20000 in
theorem ggX4_lend_X4_send : GoodIn wsX4_lend wsX4_send := goodIn_r _ [14, 15, 16, 17, 18, 19, 20, 21, 22, 23, 24, 25, 26, 27, 28, 29, 30, 31, 32, 33, 34, 35, 36, 37, 38, 39, 40, 41, 46, 47, 48, 49, 50] (by decide +kernel) (by decide +kernel)
set_option maxRecDepth 20000 in
theorem gX4_lend_X4_send : GoodIn wsX4_lend (wsV RX4 149 RX4 yX4_send wsX4_send) := goodIn_app (goodIn_of _ (by decide +kernel)) ggX4_lend_X4_send
theorem dX4_lend_0 : decode cX4_lend 0 = .ok (.aload_n 0, 1) := by decide +kernel
theorem dX4_lend_1 : decode cX4_lend 1 = .ok (.getfield 37, 3) := by decide +kernel
theorem dX4_lend_4 : decode cX4_lend 4 = .ok (.iload_n 1, 1) := by decide +kernel
theorem dX4_lend_5 : decode cX4_lend 5 = .ok (.aaload, 1) := by decide +kernel
theorem dX4_lend_6 : decode cX4_lend 6 = .ok (.iload_n 2, 1) := by decide +kernel
theorem dX4_lend_7 : decode cX4_lend 7 = .ok (.iload_n 3, 1) := by decide +kernel
theorem dX4_lend_8 : decode cX4_lend 8 = .ok (.invokevirtual 210, 3) := by decide +kernel
theorem dX4_lend_11 : decode cX4_lend 11 = .ok (.aload_n 0, 1) := by decide +kernel
theorem dX4_lend_12 : decode cX4_lend 12 = .ok (.iload_n 1, 1) := by decide +kernel
theorem dX4_lend_13 : decode cX4_lend 13 = .ok (.iload_n 2, 1) := by decide +kernel
theorem dX4_lend_14 : decode cX4_lend 14 = .ok (.iconst 2, 1) := by decide +kernel
theorem dX4_lend_15 : decode cX4_lend 15 = .ok (.iload_n 3, 1) := by decide +kernel
theorem dX4_lend_16 : decode cX4_lend 16 = .ok (.invokevirtual 149, 3) := by decide +kernel
theorem dX4_lend_19 : decode cX4_lend 19 = .ok (.return_, 1) := by decide +kernel
end
section
set_option maxRecDepth 20000 in
theorem ggX5_init_X5_init_ : GoodIn wsX5_init wsX5_init_ := goodIn_r _ [28, 5, 6, 7, 8, 9, 10, 11, 12, 14, 15, 18, 29, 30, 31, 32, 33, 34, 35, 36, 37, 38, 39, 40, 41, 42, 43, 44, 45, 46, 47, 48] (by decide +kernel) (by decide +kernel)
set_option maxRecDepth 20000 in
theorem gX5_init_X5_init_ : GoodIn wsX5_init (wsV RX5 66 RX5 yX5_init_ wsX5_init_) := goodIn_app (goodIn_of _ (by decide +kernel)) ggX5_init_X5_init_
theorem dX5_init_0 : decode cX5_init 0 = .ok (.aload_n 0, 1) := by decide +kernel
theorem dX5_init_1 : decode cX5_init 1 = .ok (.invokespecial 1, 3) := by decide +kernel
theorem dX5_init_4 : decode cX5_init 4 = .ok (.aload_n 0, 1) := by decide +kernel
theorem dX5_init_5 : decode cX5_init 5 = .ok (.bipush 16, 2) := by decide +kernel
theorem dX5_init_7 : decode cX5_init 7 = .ok (.newarray .int, 2) := by decide +kernel
theorem dX5_init_9 : decode cX5_init 9 = .ok (.putfield 7, 3) := by decide +kernel
theorem dX5_init_12 : decode cX5_init 12 = .ok (.aload_n 0, 1) := by decide +kernel
theorem dX5_init_13 : decode cX5_init 13 = .ok (.bipush 16, 2) := by decide +kernel
theorem dX5_init_15 : decode cX5_init 15 = .ok (.newarray .int, 2) := by decide +kernel
theorem dX5_init_17 : decode cX5_init 17 = .ok (.putfield 13, 3) := by decide +kernel
theorem dX5_init_20 : decode cX5_init 20 = .ok (.aload_n 0, 1) := by decide +kernel
theorem dX5_init_21 : decode cX5_init 21 = .ok (.bipush 16, 2) := by decide +kernel
theorem dX5_init_23 : decode cX5_init 23 = .ok (.newarray .int, 2) := by decide +kernel
theorem dX5_init_25 : decode cX5_init 25 = .ok (.putfield 16, 3) := by decide +kernel
theorem dX5_init_28 : decode cX5_init 28 = .ok (.aload_n 0, 1) := by decide +kernel
theorem dX5_init_29 : decode cX5_init 29 = .ok (.bipush 16, 2) := by decide +kernel
theorem dX5_init_31 : decode cX5_init 31 = .ok (.newarray .int, 2) := by decide +kernel
theorem dX5_init_33 : decode cX5_init 33 = .ok (.putfield 19, 3) := by decide +kernel
theorem dX5_init_36 : decode cX5_init 36 = .ok (.aload_n 0, 1) := by decide +kernel
theorem dX5_init_37 : decode cX5_init 37 = .ok (.bipush 16, 2) := by decide +kernel
theorem dX5_init_39 : decode cX5_init 39 = .ok (.newarray .int, 2) := by decide +kernel
theorem dX5_init_41 : decode cX5_init 41 = .ok (.putfield 22, 3) := by decide +kernel
theorem dX5_init_44 : decode cX5_init 44 = .ok (.aload_n 0, 1) := by decide +kernel
theorem dX5_init_45 : decode cX5_init 45 = .ok (.bipush 16, 2) := by decide +kernel
theorem dX5_init_47 : decode cX5_init 47 = .ok (.newarray .int, 2) := by decide +kernel
theorem dX5_init_49 : decode cX5_init 49 = .ok (.putfield 25, 3) := by decide +kernel
theorem dX5_init_52 : decode cX5_init 52 = .ok (.aload_n 0, 1) := by decide +kernel
theorem dX5_init_53 : decode cX5_init 53 = .ok (.bipush 16, 2) := by decide +kernel
theorem dX5_init_55 : decode cX5_init 55 = .ok (.newarray .int, 2) := by decide +kernel
theorem dX5_init_57 : decode cX5_init 57 = .ok (.putfield 28, 3) := by decide +kernel
theorem dX5_init_60 : decode cX5_init 60 = .ok (.aload_n 0, 1) := by decide +kernel
theorem dX5_init_61 : decode cX5_init 61 = .ok (.bipush 16, 2) := by decide +kernel
theorem dX5_init_63 : decode cX5_init 63 = .ok (.newarray .int, 2) := by decide +kernel
theorem dX5_init_65 : decode cX5_init 65 = .ok (.putfield 31, 3) := by decide +kernel
theorem dX5_init_68 : decode cX5_init 68 = .ok (.aload_n 0, 1) := by decide +kernel
theorem dX5_init_69 : decode cX5_init 69 = .ok (.bipush 16, 2) := by decide +kernel
theorem dX5_init_71 : decode cX5_init 71 = .ok (.newarray .boolean, 2) := by decide +kernel
theorem dX5_init_73 : decode cX5_init 73 = .ok (.putfield 34, 3) := by decide +kernel
theorem dX5_init_76 : decode cX5_init 76 = .ok (.aload_n 0, 1) := by decide +kernel
theorem dX5_init_77 : decode cX5_init 77 = .ok (.bipush 16, 2) := by decide +kernel
theorem dX5_init_79 : decode cX5_init 79 = .ok (.newarray .int, 2) := by decide +kernel
theorem dX5_init_81 : decode cX5_init 81 = .ok (.putfield 38, 3) := by decide +kernel
theorem dX5_init_84 : decode cX5_init 84 = .ok (.aload_n 0, 1) := by decide +kernel
theorem dX5_init_85 : decode cX5_init 85 = .ok (.sipush 1024, 3) := by decide +kernel
theorem dX5_init_88 : decode cX5_init 88 = .ok (.newarray .int, 2) := by decide +kernel
theorem dX5_init_90 : decode cX5_init 90 = .ok (.putfield 41, 3) := by decide +kernel
theorem dX5_init_93 : decode cX5_init 93 = .ok (.aload_n 0, 1) := by decide +kernel
theorem dX5_init_94 : decode cX5_init 94 = .ok (.sipush 1024, 3) := by decide +kernel
theorem dX5_init_97 : decode cX5_init 97 = .ok (.newarray .int, 2) := by decide +kernel
theorem dX5_init_99 : decode cX5_init 99 = .ok (.putfield 44, 3) := by decide +kernel
theorem dX5_init_102 : decode cX5_init 102 = .ok (.aload_n 0, 1) := by decide +kernel
theorem dX5_init_103 : decode cX5_init 103 = .ok (.sipush 256, 3) := by decide +kernel
theorem dX5_init_106 : decode cX5_init 106 = .ok (.newarray .int, 2) := by decide +kernel
theorem dX5_init_108 : decode cX5_init 108 = .ok (.putfield 47, 3) := by decide +kernel
theorem dX5_init_111 : decode cX5_init 111 = .ok (.aload_n 0, 1) := by decide +kernel
theorem dX5_init_112 : decode cX5_init 112 = .ok (.sipush 16384, 3) := by decide +kernel
theorem dX5_init_115 : decode cX5_init 115 = .ok (.newarray .int, 2) := by decide +kernel
theorem dX5_init_117 : decode cX5_init 117 = .ok (.putfield 50, 3) := by decide +kernel
theorem dX5_init_120 : decode cX5_init 120 = .ok (.aload_n 0, 1) := by decide +kernel
theorem dX5_init_121 : decode cX5_init 121 = .ok (.sipush 16384, 3) := by decide +kernel
theorem dX5_init_124 : decode cX5_init 124 = .ok (.newarray .int, 2) := by decide +kernel
theorem dX5_init_126 : decode cX5_init 126 = .ok (.putfield 53, 3) := by decide +kernel
theorem dX5_init_129 : decode cX5_init 129 = .ok (.aload_n 0, 1) := by decide +kernel
theorem dX5_init_130 : decode cX5_init 130 = .ok (.sipush 16384, 3) := by decide +kernel
theorem dX5_init_133 : decode cX5_init 133 = .ok (.newarray .int, 2) := by decide +kernel
theorem dX5_init_135 : decode cX5_init 135 = .ok (.putfield 56, 3) := by decide +kernel
theorem dX5_init_138 : decode cX5_init 138 = .ok (.aload_n 0, 1) := by decide +kernel
theorem dX5_init_139 : decode cX5_init 139 = .ok (.iload_n 1, 1) := by decide +kernel
theorem dX5_init_140 : decode cX5_init 140 = .ok (.iconst 1, 1) := by decide +kernel
theorem dX5_init_141 : decode cX5_init 141 = .ok (.if_icmp .ge 7, 3) := by decide +kernel
theorem dX5_init_144 : decode cX5_init 144 = .ok (.iconst 1, 1) := by decide +kernel
theorem dX5_init_145 : decode cX5_init 145 = .ok (.goto 13, 3) := by decide +kernel
theorem dX5_init_148 : decode cX5_init 148 = .ok (.iload_n 1, 1) := by decide +kernel
theorem dX5_init_149 : decode cX5_init 149 = .ok (.iconst 4, 1) := by decide +kernel
theorem dX5_init_150 : decode cX5_init 150 = .ok (.if_icmp .le 7, 3) := by decide +kernel
theorem dX5_init_153 : decode cX5_init 153 = .ok (.iconst 4, 1) := by decide +kernel
theorem dX5_init_154 : decode cX5_init 154 = .ok (.goto 4, 3) := by decide +kernel
theorem dX5_init_157 : decode cX5_init 157 = .ok (.iload_n 1, 1) := by decide +kernel
theorem dX5_init_158 : decode cX5_init 158 = .ok (.putfield 59, 3) := by decide +kernel
theorem dX5_init_161 : decode cX5_init 161 = .ok (.aload_n 0, 1) := by decide +kernel
theorem dX5_init_162 : decode cX5_init 162 = .ok (.aload_n 0, 1) := by decide +kernel
theorem dX5_init_163 : decode cX5_init 163 = .ok (.getfield 59, 3) := by decide +kernel
theorem dX5_init_166 : decode cX5_init 166 = .ok (.aload_n 0, 1) := by decide +kernel
theorem dX5_init_167 : decode cX5_init 167 = .ok (.getfield 59, 3) := by decide +kernel
theorem dX5_init_170 : decode cX5_init 170 = .ok (.imul, 1) := by decide +kernel
theorem dX5_init_171 : decode cX5_init 171 = .ok (.putfield 63, 3) := by decide +kernel
theorem dX5_init_174 : decode cX5_init 174 = .ok (.aload_n 0, 1) := by decide +kernel
theorem dX5_init_175 : decode cX5_init 175 = .ok (.invokevirtual 66, 3) := by decide +kernel
theorem dX5_init_178 : decode cX5_init 178 = .ok (.return_, 1) := by decide +kernel
theorem dX5_init__0 : decode cX5_init_ 0 = .ok (.iconst 0, 1) := by decide +kernel
theorem dX5_init__1 : decode cX5_init_ 1 = .ok (.istore_n 1, 1) := by decide +kernel
theorem dX5_init__2 : decode cX5_init_ 2 = .ok (.iload_n 1, 1) := by decide +kernel
theorem dX5_init__3 : decode cX5_init_ 3 = .ok (.bipush 16, 2) := by decide +kernel
theorem dX5_init__5 : decode cX5_init_ 5 = .ok (.if_icmp .ge 79, 3) := by decide +kernel
theorem dX5_init__8 : decode cX5_init_ 8 = .ok (.aload_n 0, 1) := by decide +kernel
theorem dX5_init__9 : decode cX5_init_ 9 = .ok (.getfield 7, 3) := by decide +kernel
theorem dX5_init__12 : decode cX5_init_ 12 = .ok (.iload_n 1, 1) := by decide +kernel
theorem dX5_init__13 : decode cX5_init_ 13 = .ok (.iconst 0, 1) := by decide +kernel
theorem dX5_init__14 : decode cX5_init_ 14 = .ok (.iastore, 1) := by decide +kernel
theorem dX5_init__15 : decode cX5_init_ 15 = .ok (.aload_n 0, 1) := by decide +kernel
theorem dX5_init__16 : decode cX5_init_ 16 = .ok (.getfield 13, 3) := by decide +kernel
theorem dX5_init__19 : decode cX5_init_ 19 = .ok (.iload_n 1, 1) := by decide +kernel
theorem dX5_init__20 : decode cX5_init_ 20 = .ok (.iconst 0, 1) := by decide +kernel
theorem dX5_init__21 : decode cX5_init_ 21 = .ok (.iastore, 1) := by decide +kernel
theorem dX5_init__22 : decode cX5_init_ 22 = .ok (.aload_n 0, 1) := by decide +kernel
theorem dX5_init__23 : decode cX5_init_ 23 = .ok (.getfield 16, 3) := by decide +kernel
theorem dX5_init__26 : decode cX5_init_ 26 = .ok (.iload_n 1, 1) := by decide +kernel
theorem dX5_init__27 : decode cX5_init_ 27 = .ok (.iconst 0, 1) := by decide +kernel
theorem dX5_init__28 : decode cX5_init_ 28 = .ok (.iastore, 1) := by decide +kernel
theorem dX5_init__29 : decode cX5_init_ 29 = .ok (.aload_n 0, 1) := by decide +kernel
theorem dX5_init__30 : decode cX5_init_ 30 = .ok (.getfield 19, 3) := by decide +kernel
theorem dX5_init__33 : decode cX5_init_ 33 = .ok (.iload_n 1, 1) := by decide +kernel
theorem dX5_init__34 : decode cX5_init_ 34 = .ok (.iconst 0, 1) := by decide +kernel
theorem dX5_init__35 : decode cX5_init_ 35 = .ok (.iastore, 1) := by decide +kernel
theorem dX5_init__36 : decode cX5_init_ 36 = .ok (.aload_n 0, 1) := by decide +kernel
theorem dX5_init__37 : decode cX5_init_ 37 = .ok (.getfield 22, 3) := by decide +kernel
theorem dX5_init__40 : decode cX5_init_ 40 = .ok (.iload_n 1, 1) := by decide +kernel
theorem dX5_init__41 : decode cX5_init_ 41 = .ok (.iconst 0, 1) := by decide +kernel
theorem dX5_init__42 : decode cX5_init_ 42 = .ok (.iastore, 1) := by decide +kernel
theorem dX5_init__43 : decode cX5_init_ 43 = .ok (.aload_n 0, 1) := by decide +kernel
theorem dX5_init__44 : decode cX5_init_ 44 = .ok (.getfield 25, 3) := by decide +kernel
theorem dX5_init__47 : decode cX5_init_ 47 = .ok (.iload_n 1, 1) := by decide +kernel
theorem dX5_init__48 : decode cX5_init_ 48 = .ok (.iconst 0, 1) := by decide +kernel
theorem dX5_init__49 : decode cX5_init_ 49 = .ok (.iastore, 1) := by decide +kernel
theorem dX5_init__50 : decode cX5_init_ 50 = .ok (.aload_n 0, 1) := by decide +kernel
theorem dX5_init__51 : decode cX5_init_ 51 = .ok (.getfield 28, 3) := by decide +kernel
theorem dX5_init__54 : decode cX5_init_ 54 = .ok (.iload_n 1, 1) := by decide +kernel
theorem dX5_init__55 : decode cX5_init_ 55 = .ok (.iconst (-1), 1) := by decide +kernel
theorem dX5_init__56 : decode cX5_init_ 56 = .ok (.iastore, 1) := by decide +kernel
theorem dX5_init__57 : decode cX5_init_ 57 = .ok (.aload_n 0, 1) := by decide +kernel
theorem dX5_init__58 : decode cX5_init_ 58 = .ok (.getfield 31, 3) := by decide +kernel
theorem dX5_init__61 : decode cX5_init_ 61 = .ok (.iload_n 1, 1) := by decide +kernel
theorem dX5_init__62 : decode cX5_init_ 62 = .ok (.iconst 0, 1) := by decide +kernel
theorem dX5_init__63 : decode cX5_init_ 63 = .ok (.iastore, 1) := by decide +kernel
theorem dX5_init__64 : decode cX5_init_ 64 = .ok (.aload_n 0, 1) := by decide +kernel
theorem dX5_init__65 : decode cX5_init_ 65 = .ok (.getfield 34, 3) := by decide +kernel
theorem dX5_init__68 : decode cX5_init_ 68 = .ok (.iload_n 1, 1) := by decide +kernel
theorem dX5_init__69 : decode cX5_init_ 69 = .ok (.iconst 0, 1) := by decide +kernel
theorem dX5_init__70 : decode cX5_init_ 70 = .ok (.bastore, 1) := by decide +kernel
theorem dX5_init__71 : decode cX5_init_ 71 = .ok (.aload_n 0, 1) := by decide +kernel
theorem dX5_init__72 : decode cX5_init_ 72 = .ok (.getfield 38, 3) := by decide +kernel
theorem dX5_init__75 : decode cX5_init_ 75 = .ok (.iload_n 1, 1) := by decide +kernel
theorem dX5_init__76 : decode cX5_init_ 76 = .ok (.iconst 0, 1) := by decide +kernel
theorem dX5_init__77 : decode cX5_init_ 77 = .ok (.iastore, 1) := by decide +kernel
theorem dX5_init__78 : decode cX5_init_ 78 = .ok (.iinc 1 1, 3) := by decide +kernel
theorem dX5_init__81 : decode cX5_init_ 81 = .ok (.goto (-79), 3) := by decide +kernel
theorem dX5_init__84 : decode cX5_init_ 84 = .ok (.iconst 0, 1) := by decide +kernel
theorem dX5_init__85 : decode cX5_init_ 85 = .ok (.istore_n 1, 1) := by decide +kernel
theorem dX5_init__86 : decode cX5_init_ 86 = .ok (.iload_n 1, 1) := by decide +kernel
theorem dX5_init__87 : decode cX5_init_ 87 = .ok (.sipush 256, 3) := by decide +kernel
theorem dX5_init__90 : decode cX5_init_ 90 = .ok (.if_icmp .ge 16, 3) := by decide +kernel
theorem dX5_init__93 : decode cX5_init_ 93 = .ok (.aload_n 0, 1) := by decide +kernel
theorem dX5_init__94 : decode cX5_init_ 94 = .ok (.getfield 47, 3) := by decide +kernel
theorem dX5_init__97 : decode cX5_init_ 97 = .ok (.iload_n 1, 1) := by decide +kernel
theorem dX5_init__98 : decode cX5_init_ 98 = .ok (.iconst 0, 1) := by decide +kernel
theorem dX5_init__99 : decode cX5_init_ 99 = .ok (.iastore, 1) := by decide +kernel
theorem dX5_init__100 : decode cX5_init_ 100 = .ok (.iinc 1 1, 3) := by decide +kernel
theorem dX5_init__103 : decode cX5_init_ 103 = .ok (.goto (-17), 3) := by decide +kernel
theorem dX5_init__106 : decode cX5_init_ 106 = .ok (.aload_n 0, 1) := by decide +kernel
theorem dX5_init__107 : decode cX5_init_ 107 = .ok (.iconst 0, 1) := by decide +kernel
theorem dX5_init__108 : decode cX5_init_ 108 = .ok (.putfield 69, 3) := by decide +kernel
theorem dX5_init__111 : decode cX5_init_ 111 = .ok (.return_, 1) := by decide +kernel
theorem dX5_isNode_0 : decode cX5_isNode 0 = .ok (.iload_n 1, 1) := by decide +kernel
theorem dX5_isNode_1 : decode cX5_isNode 1 = .ok (.ifCond .lt 15, 3) := by decide +kernel
theorem dX5_isNode_4 : decode cX5_isNode 4 = .ok (.iload_n 1, 1) := by decide +kernel
theorem dX5_isNode_5 : decode cX5_isNode 5 = .ok (.aload_n 0, 1) := by decide +kernel
theorem dX5_isNode_6 : decode cX5_isNode 6 = .ok (.getfield 63, 3) := by decide +kernel
theorem dX5_isNode_9 : decode cX5_isNode 9 = .ok (.if_icmp .ge 7, 3) := by decide +kernel
theorem dX5_isNode_12 : decode cX5_isNode 12 = .ok (.iconst 1, 1) := by decide +kernel
theorem dX5_isNode_13 : decode cX5_isNode 13 = .ok (.goto 4, 3) := by decide +kernel
theorem dX5_isNode_16 : decode cX5_isNode 16 = .ok (.iconst 0, 1) := by decide +kernel
theorem dX5_isNode_17 : decode cX5_isNode 17 = .ok (.ireturn, 1) := by decide +kernel
theorem dX5_quorum_0 : decode cX5_quorum 0 = .ok (.iconst 0, 1) := by decide +kernel
theorem dX5_quorum_1 : decode cX5_quorum 1 = .ok (.istore_n 2, 1) := by decide +kernel
theorem dX5_quorum_2 : decode cX5_quorum 2 = .ok (.iconst 0, 1) := by decide +kernel
theorem dX5_quorum_3 : decode cX5_quorum 3 = .ok (.istore_n 3, 1) := by decide +kernel
theorem dX5_quorum_4 : decode cX5_quorum 4 = .ok (.iload_n 3, 1) := by decide +kernel
theorem dX5_quorum_5 : decode cX5_quorum 5 = .ok (.aload_n 0, 1) := by decide +kernel
theorem dX5_quorum_6 : decode cX5_quorum 6 = .ok (.getfield 63, 3) := by decide +kernel
theorem dX5_quorum_9 : decode cX5_quorum 9 = .ok (.if_icmp .ge 49, 3) := by decide +kernel
theorem dX5_quorum_12 : decode cX5_quorum 12 = .ok (.iload_n 2, 1) := by decide +kernel
theorem dX5_quorum_13 : decode cX5_quorum 13 = .ok (.iload_n 3, 1) := by decide +kernel
theorem dX5_quorum_14 : decode cX5_quorum 14 = .ok (.aload_n 0, 1) := by decide +kernel
theorem dX5_quorum_15 : decode cX5_quorum 15 = .ok (.getfield 59, 3) := by decide +kernel
theorem dX5_quorum_18 : decode cX5_quorum 18 = .ok (.idiv, 1) := by decide +kernel
theorem dX5_quorum_19 : decode cX5_quorum 19 = .ok (.iload_n 1, 1) := by decide +kernel
theorem dX5_quorum_20 : decode cX5_quorum 20 = .ok (.aload_n 0, 1) := by decide +kernel
theorem dX5_quorum_21 : decode cX5_quorum 21 = .ok (.getfield 59, 3) := by decide +kernel
theorem dX5_quorum_24 : decode cX5_quorum 24 = .ok (.idiv, 1) := by decide +kernel
theorem dX5_quorum_25 : decode cX5_quorum 25 = .ok (.if_icmp .eq 18, 3) := by decide +kernel
theorem dX5_quorum_28 : decode cX5_quorum 28 = .ok (.iload_n 3, 1) := by decide +kernel
theorem dX5_quorum_29 : decode cX5_quorum 29 = .ok (.aload_n 0, 1) := by decide +kernel
theorem dX5_quorum_30 : decode cX5_quorum 30 = .ok (.getfield 59, 3) := by decide +kernel
theorem dX5_quorum_33 : decode cX5_quorum 33 = .ok (.irem, 1) := by decide +kernel
theorem dX5_quorum_34 : decode cX5_quorum 34 = .ok (.iload_n 1, 1) := by decide +kernel
theorem dX5_quorum_35 : decode cX5_quorum 35 = .ok (.aload_n 0, 1) := by decide +kernel
theorem dX5_quorum_36 : decode cX5_quorum 36 = .ok (.getfield 59, 3) := by decide +kernel
theorem dX5_quorum_39 : decode cX5_quorum 39 = .ok (.irem, 1) := by decide +kernel
theorem dX5_quorum_40 : decode cX5_quorum 40 = .ok (.if_icmp .ne 9, 3) := by decide +kernel
theorem dX5_quorum_43 : decode cX5_quorum 43 = .ok (.iconst 1, 1) := by decide +kernel
theorem dX5_quorum_44 : decode cX5_quorum 44 = .ok (.iload_n 3, 1) := by decide +kernel
theorem dX5_quorum_45 : decode cX5_quorum 45 = .ok (.ishl, 1) := by decide +kernel
theorem dX5_quorum_46 : decode cX5_quorum 46 = .ok (.goto 4, 3) := by decide +kernel
theorem dX5_quorum_49 : decode cX5_quorum 49 = .ok (.iconst 0, 1) := by decide +kernel
theorem dX5_quorum_50 : decode cX5_quorum 50 = .ok (.ior, 1) := by decide +kernel
theorem dX5_quorum_51 : decode cX5_quorum 51 = .ok (.istore_n 2, 1) := by decide +kernel
theorem dX5_quorum_52 : decode cX5_quorum 52 = .ok (.iinc 3 1, 3) := by decide +kernel
theorem dX5_quorum_55 : decode cX5_quorum 55 = .ok (.goto (-51), 3) := by decide +kernel
theorem dX5_quorum_58 : decode cX5_quorum 58 = .ok (.iload_n 2, 1) := by decide +kernel
theorem dX5_quorum_59 : decode cX5_quorum 59 = .ok (.ireturn, 1) := by decide +kernel
theorem dX5_send_0 : decode cX5_send 0 = .ok (.bipush 16, 2) := by decide +kernel
theorem dX5_send_2 : decode cX5_send 2 = .ok (.iload_n 1, 1) := by decide +kernel
theorem dX5_send_3 : decode cX5_send 3 = .ok (.imul, 1) := by decide +kernel
theorem dX5_send_4 : decode cX5_send 4 = .ok (.iload_n 2, 1) := by decide +kernel
theorem dX5_send_5 : decode cX5_send 5 = .ok (.iadd, 1) := by decide +kernel
theorem dX5_send_6 : decode cX5_send 6 = .ok (.istore 5, 2) := by decide +kernel
theorem dX5_send_8 : decode cX5_send 8 = .ok (.bipush 64, 2) := by decide +kernel
theorem dX5_send_10 : decode cX5_send 10 = .ok (.iload 5, 2) := by decide +kernel
theorem dX5_send_12 : decode cX5_send 12 = .ok (.imul, 1) := by decide +kernel
theorem dX5_send_13 : decode cX5_send 13 = .ok (.aload_n 0, 1) := by decide +kernel
theorem dX5_send_14 : decode cX5_send 14 = .ok (.getfield 47, 3) := by decide +kernel
theorem dX5_send_17 : decode cX5_send 17 = .ok (.iload 5, 2) := by decide +kernel
theorem dX5_send_19 : decode cX5_send 19 = .ok (.iaload, 1) := by decide +kernel
theorem dX5_send_20 : decode cX5_send 20 = .ok (.iadd, 1) := by decide +kernel
theorem dX5_send_21 : decode cX5_send 21 = .ok (.istore 6, 2) := by decide +kernel
theorem dX5_send_23 : decode cX5_send 23 = .ok (.aload_n 0, 1) := by decide +kernel
theorem dX5_send_24 : decode cX5_send 24 = .ok (.getfield 50, 3) := by decide +kernel
theorem dX5_send_27 : decode cX5_send 27 = .ok (.iload 6, 2) := by decide +kernel
theorem dX5_send_29 : decode cX5_send 29 = .ok (.iload_n 3, 1) := by decide +kernel
theorem dX5_send_30 : decode cX5_send 30 = .ok (.iastore, 1) := by decide +kernel
theorem dX5_send_31 : decode cX5_send 31 = .ok (.aload_n 0, 1) := by decide +kernel
theorem dX5_send_32 : decode cX5_send 32 = .ok (.getfield 53, 3) := by decide +kernel
theorem dX5_send_35 : decode cX5_send 35 = .ok (.iload 6, 2) := by decide +kernel
theorem dX5_send_37 : decode cX5_send 37 = .ok (.iload 4, 2) := by decide +kernel
theorem dX5_send_39 : decode cX5_send 39 = .ok (.iastore, 1) := by decide +kernel
theorem dX5_send_40 : decode cX5_send 40 = .ok (.aload_n 0, 1) := by decide +kernel
theorem dX5_send_41 : decode cX5_send 41 = .ok (.getfield 56, 3) := by decide +kernel
theorem dX5_send_44 : decode cX5_send 44 = .ok (.iload 6, 2) := by decide +kernel
theorem dX5_send_46 : decode cX5_send 46 = .ok (.aload_n 0, 1) := by decide +kernel
theorem dX5_send_47 : decode cX5_send 47 = .ok (.getfield 7, 3) := by decide +kernel
theorem dX5_send_50 : decode cX5_send 50 = .ok (.iload_n 1, 1) := by decide +kernel
theorem dX5_send_51 : decode cX5_send 51 = .ok (.iaload, 1) := by decide +kernel
theorem dX5_send_52 : decode cX5_send 52 = .ok (.iastore, 1) := by decide +kernel
theorem dX5_send_53 : decode cX5_send 53 = .ok (.aload_n 0, 1) := by decide +kernel
theorem dX5_send_54 : decode cX5_send 54 = .ok (.getfield 47, 3) := by decide +kernel
theorem dX5_send_57 : decode cX5_send 57 = .ok (.iload 5, 2) := by decide +kernel
theorem dX5_send_59 : decode cX5_send 59 = .ok (.dup2, 1) := by decide +kernel
theorem dX5_send_60 : decode cX5_send 60 = .ok (.iaload, 1) := by decide +kernel
theorem dX5_send_61 : decode cX5_send 61 = .ok (.iconst 1, 1) := by decide +kernel
theorem dX5_send_62 : decode cX5_send 62 = .ok (.iadd, 1) := by decide +kernel
theorem dX5_send_63 : decode cX5_send 63 = .ok (.iastore, 1) := by decide +kernel
theorem dX5_send_64 : decode cX5_send 64 = .ok (.return_, 1) := by decide +kernel
set_option maxRecDepth 20000 in
theorem ggX5_sendAll_X5_quorum : GoodIn wsX5_sendAll wsX5_quorum := goodIn_r _ [6, 1, 7, 17, 18, 19, 20, 21, 22, 23, 24, 25, 26, 27, 28, 29, 30, 31, 32, 33, 34, 35] (by decide +kernel) (by decide +kernel)
set_option maxRecDepth 20000 in
theorem gX5_sendAll_X5_quorum : GoodIn wsX5_sendAll (wsV RX5 72 RX5 yX5_quorum wsX5_quorum) := goodIn_app (goodIn_of _ (by decide +kernel)) ggX5_sendAll_X5_quorum
set_option maxRecDepth 20000 in
theorem ggX5_sendAll_X5_send : GoodIn wsX5_sendAll wsX5_send := goodIn_r _ [11, 12, 13, 14, 15, 16, 17, 18, 19, 20, 21, 22, 23, 24, 25, 26, 27, 28, 29, 30, 31, 32, 33, 34, 35] (by decide +kernel) (by decide +kernel)
set_option maxRecDepth 20000 in
theorem gX5_sendAll_X5_send : GoodIn wsX5_sendAll (wsV RX5 76 RX5 yX5_send wsX5_send) := goodIn_app (goodIn_of _ (by decide +kernel)) ggX5_sendAll_X5_send
theorem dX5_sendAll_0 : decode cX5_sendAll 0 = .ok (.iconst 0, 1) := by decide +kernel
theorem dX5_sendAll_1 : decode cX5_sendAll 1 = .ok (.istore 4, 2) := by decide +kernel
theorem dX5_sendAll_3 : decode cX5_sendAll 3 = .ok (.iload 4, 2) := by decide +kernel
theorem dX5_sendAll_5 : decode cX5_sendAll 5 = .ok (.aload_n 0, 1) := by decide +kernel
theorem dX5_sendAll_6 : decode cX5_sendAll 6 = .ok (.getfield 63, 3) := by decide +kernel
theorem dX5_sendAll_9 : decode cX5_sendAll 9 = .ok (.if_icmp .ge 32, 3) := by decide +kernel
theorem dX5_sendAll_12 : decode cX5_sendAll 12 = .ok (.aload_n 0, 1) := by decide +kernel
theorem dX5_sendAll_13 : decode cX5_sendAll 13 = .ok (.iload_n 1, 1) := by decide +kernel
theorem dX5_sendAll_14 : decode cX5_sendAll 14 = .ok (.invokevirtual 72, 3) := by decide +kernel
theorem dX5_sendAll_17 : decode cX5_sendAll 17 = .ok (.iload 4, 2) := by decide +kernel
theorem dX5_sendAll_19 : decode cX5_sendAll 19 = .ok (.ishr, 1) := by decide +kernel
theorem dX5_sendAll_20 : decode cX5_sendAll 20 = .ok (.iconst 1, 1) := by decide +kernel
theorem dX5_sendAll_21 : decode cX5_sendAll 21 = .ok (.iand, 1) := by decide +kernel
theorem dX5_sendAll_22 : decode cX5_sendAll 22 = .ok (.iconst 1, 1) := by decide +kernel
theorem dX5_sendAll_23 : decode cX5_sendAll 23 = .ok (.if_icmp .ne 12, 3) := by decide +kernel
theorem dX5_sendAll_26 : decode cX5_sendAll 26 = .ok (.aload_n 0, 1) := by decide +kernel
theorem dX5_sendAll_27 : decode cX5_sendAll 27 = .ok (.iload_n 1, 1) := by decide +kernel
theorem dX5_sendAll_28 : decode cX5_sendAll 28 = .ok (.iload 4, 2) := by decide +kernel
theorem dX5_sendAll_30 : decode cX5_sendAll 30 = .ok (.iload_n 2, 1) := by decide +kernel
theorem dX5_sendAll_31 : decode cX5_sendAll 31 = .ok (.iload_n 3, 1) := by decide +kernel
theorem dX5_sendAll_32 : decode cX5_sendAll 32 = .ok (.invokevirtual 76, 3) := by decide +kernel
theorem dX5_sendAll_35 : decode cX5_sendAll 35 = .ok (.iinc 4 1, 3) := by decide +kernel
theorem dX5_sendAll_38 : decode cX5_sendAll 38 = .ok (.goto (-35), 3) := by decide +kernel
theorem dX5_sendAll_41 : decode cX5_sendAll 41 = .ok (.return_, 1) := by decide +kernel
theorem dX5_empty_0 : decode cX5_empty 0 = .ok (.aload_n 0, 1) := by decide +kernel
theorem dX5_empty_1 : decode cX5_empty 1 = .ok (.getfield 19, 3) := by decide +kernel
theorem dX5_empty_4 : decode cX5_empty 4 = .ok (.iload_n 1, 1) := by decide +kernel
theorem dX5_empty_5 : decode cX5_empty 5 = .ok (.iconst 0, 1) := by decide +kernel
theorem dX5_empty_6 : decode cX5_empty 6 = .ok (.iastore, 1) := by decide +kernel
theorem dX5_empty_7 : decode cX5_empty 7 = .ok (.aload_n 0, 1) := by decide +kernel
theorem dX5_empty_8 : decode cX5_empty 8 = .ok (.getfield 22, 3) := by decide +kernel
theorem dX5_empty_11 : decode cX5_empty 11 = .ok (.iload_n 1, 1) := by decide +kernel
theorem dX5_empty_12 : decode cX5_empty 12 = .ok (.iconst 0, 1) := by decide +kernel
theorem dX5_empty_13 : decode cX5_empty 13 = .ok (.iastore, 1) := by decide +kernel
theorem dX5_empty_14 : decode cX5_empty 14 = .ok (.aload_n 0, 1) := by decide +kernel
theorem dX5_empty_15 : decode cX5_empty 15 = .ok (.getfield 25, 3) := by decide +kernel
theorem dX5_empty_18 : decode cX5_empty 18 = .ok (.iload_n 1, 1) := by decide +kernel
theorem dX5_empty_19 : decode cX5_empty 19 = .ok (.iconst 0, 1) := by decide +kernel
theorem dX5_empty_20 : decode cX5_empty 20 = .ok (.iastore, 1) := by decide +kernel
theorem dX5_empty_21 : decode cX5_empty 21 = .ok (.return_, 1) := by decide +kernel
set_option maxRecDepth 20000 in
theorem ggX5_request_X5_isNode : GoodIn wsX5_request wsX5_isNode := goodIn_r _ [8, 9, 34, 35, 36, 37, 38, 39, 40, 41, 42, 43, 44, 45, 46, 47, 48, 49, 50, 51, 52] (by decide +kernel) (by decide +kernel)
set_option maxRecDepth 20000 in
theorem gX5_request_X5_isNode : GoodIn wsX5_request (wsV RX5 80 RX5 yX5_isNode wsX5_isNode) := goodIn_app (goodIn_of _ (by decide +kernel)) ggX5_request_X5_isNode
set_option maxRecDepth 20000 in
theorem ggX5_request_X5_empty : GoodIn wsX5_request wsX5_empty := goodIn_r _ [13, 14, 15, 16, 34, 35, 36, 37, 38, 39, 40, 41, 42, 43, 44, 45, 46, 47, 48, 49, 50, 51, 52] (by decide +kernel) (by decide +kernel)
set_option maxRecDepth 20000 in
theorem gX5_request_X5_empty : GoodIn wsX5_request (wsV RX5 84 RX5 yX5_empty wsX5_empty) := goodIn_app (goodIn_of _ (by decide +kernel)) ggX5_request_X5_empty
set_option maxRecDepth 20000 in
theorem ggX5_request_X5_sendAll : GoodIn wsX5_request wsX5_sendAll := goodIn_r _ [20, 9, 21, 22, 23, 7, 24, 25, 26, 27, 28, 29, 30, 31, 32, 33, 2, 34, 35, 36, 37, 38, 39, 40, 41, 42, 43, 44, 45, 46, 47, 48, 49, 50, 51, 52] (by decide +kernel) (by decide +kernel)
set_option maxRecDepth 20000 in
theorem gX5_request_X5_sendAll : GoodIn wsX5_request (wsV RX5 88 RX5 yX5_sendAll wsX5_sendAll) := goodIn_app (goodIn_of _ (by decide +kernel)) ggX5_request_X5_sendAll
theorem dX5_request_0 : decode cX5_request 0 = .ok (.aload_n 0, 1) := by decide +kernel
theorem dX5_request_1 : decode cX5_request 1 = .ok (.iload_n 1, 1) := by decide +kernel
theorem dX5_request_2 : decode cX5_request 2 = .ok (.invokevirtual 80, 3) := by decide +kernel
theorem dX5_request_5 : decode cX5_request 5 = .ok (.ifCond .ne 5, 3) := by decide +kernel
theorem dX5_request_8 : decode cX5_request 8 = .ok (.iconst (-1), 1) := by decide +kernel
theorem dX5_request_9 : decode cX5_request 9 = .ok (.ireturn, 1) := by decide +kernel
theorem dX5_request_10 : decode cX5_request 10 = .ok (.aload_n 0, 1) := by decide +kernel
theorem dX5_request_11 : decode cX5_request 11 = .ok (.getfield 13, 3) := by decide +kernel
theorem dX5_request_14 : decode cX5_request 14 = .ok (.iload_n 1, 1) := by decide +kernel
theorem dX5_request_15 : decode cX5_request 15 = .ok (.iaload, 1) := by decide +kernel
theorem dX5_request_16 : decode cX5_request 16 = .ok (.ifCond .eq 5, 3) := by decide +kernel
theorem dX5_request_19 : decode cX5_request 19 = .ok (.iconst 1, 1) := by decide +kernel
theorem dX5_request_20 : decode cX5_request 20 = .ok (.ireturn, 1) := by decide +kernel
theorem dX5_request_21 : decode cX5_request 21 = .ok (.aload_n 0, 1) := by decide +kernel
theorem dX5_request_22 : decode cX5_request 22 = .ok (.getfield 7, 3) := by decide +kernel
theorem dX5_request_25 : decode cX5_request 25 = .ok (.iload_n 1, 1) := by decide +kernel
theorem dX5_request_26 : decode cX5_request 26 = .ok (.dup2, 1) := by decide +kernel
theorem dX5_request_27 : decode cX5_request 27 = .ok (.iaload, 1) := by decide +kernel
theorem dX5_request_28 : decode cX5_request 28 = .ok (.iconst 1, 1) := by decide +kernel
theorem dX5_request_29 : decode cX5_request 29 = .ok (.iadd, 1) := by decide +kernel
theorem dX5_request_30 : decode cX5_request 30 = .ok (.iastore, 1) := by decide +kernel
theorem dX5_request_31 : decode cX5_request 31 = .ok (.aload_n 0, 1) := by decide +kernel
theorem dX5_request_32 : decode cX5_request 32 = .ok (.getfield 16, 3) := by decide +kernel
theorem dX5_request_35 : decode cX5_request 35 = .ok (.iload_n 1, 1) := by decide +kernel
theorem dX5_request_36 : decode cX5_request 36 = .ok (.aload_n 0, 1) := by decide +kernel
theorem dX5_request_37 : decode cX5_request 37 = .ok (.getfield 7, 3) := by decide +kernel
theorem dX5_request_40 : decode cX5_request 40 = .ok (.iload_n 1, 1) := by decide +kernel
theorem dX5_request_41 : decode cX5_request 41 = .ok (.iaload, 1) := by decide +kernel
theorem dX5_request_42 : decode cX5_request 42 = .ok (.iastore, 1) := by decide +kernel
theorem dX5_request_43 : decode cX5_request 43 = .ok (.aload_n 0, 1) := by decide +kernel
theorem dX5_request_44 : decode cX5_request 44 = .ok (.getfield 13, 3) := by decide +kernel
theorem dX5_request_47 : decode cX5_request 47 = .ok (.iload_n 1, 1) := by decide +kernel
theorem dX5_request_48 : decode cX5_request 48 = .ok (.iconst 1, 1) := by decide +kernel
theorem dX5_request_49 : decode cX5_request 49 = .ok (.iastore, 1) := by decide +kernel
theorem dX5_request_50 : decode cX5_request 50 = .ok (.aload_n 0, 1) := by decide +kernel
theorem dX5_request_51 : decode cX5_request 51 = .ok (.iload_n 1, 1) := by decide +kernel
theorem dX5_request_52 : decode cX5_request 52 = .ok (.invokevirtual 84, 3) := by decide +kernel
theorem dX5_request_55 : decode cX5_request 55 = .ok (.aload_n 0, 1) := by decide +kernel
theorem dX5_request_56 : decode cX5_request 56 = .ok (.iload_n 1, 1) := by decide +kernel
theorem dX5_request_57 : decode cX5_request 57 = .ok (.iconst 1, 1) := by decide +kernel
theorem dX5_request_58 : decode cX5_request 58 = .ok (.aload_n 0, 1) := by decide +kernel
theorem dX5_request_59 : decode cX5_request 59 = .ok (.getfield 16, 3) := by decide +kernel
theorem dX5_request_62 : decode cX5_request 62 = .ok (.iload_n 1, 1) := by decide +kernel
theorem dX5_request_63 : decode cX5_request 63 = .ok (.iaload, 1) := by decide +kernel
theorem dX5_request_64 : decode cX5_request 64 = .ok (.invokevirtual 88, 3) := by decide +kernel
theorem dX5_request_67 : decode cX5_request 67 = .ok (.iconst 0, 1) := by decide +kernel
theorem dX5_request_68 : decode cX5_request 68 = .ok (.ireturn, 1) := by decide +kernel
set_option maxRecDepth 20000 in
theorem ggX5_enter_X5_isNode : GoodIn wsX5_enter wsX5_isNode := goodIn_r _ [8, 9, 15, 16, 17, 18, 19, 20, 21, 22, 23, 24, 25, 26, 27, 28, 29, 30, 31, 32, 33] (by decide +kernel) (by decide +kernel)
set_option maxRecDepth 20000 in
theorem gX5_enter_X5_isNode : GoodIn wsX5_enter (wsV RX5 80 RX5 yX5_isNode wsX5_isNode) := goodIn_app (goodIn_of _ (by decide +kernel)) ggX5_enter_X5_isNode
set_option maxRecDepth 20000 in
theorem ggX5_enter_X5_quorum : GoodIn wsX5_enter wsX5_quorum := goodIn_r _ [13, 9, 14, 15, 16, 17, 18, 19, 20, 21, 22, 23, 24, 25, 26, 27, 28, 29, 30, 31, 32, 33] (by decide +kernel) (by decide +kernel)
set_option maxRecDepth 20000 in
theorem gX5_enter_X5_quorum : GoodIn wsX5_enter (wsV RX5 72 RX5 yX5_quorum wsX5_quorum) := goodIn_app (goodIn_of _ (by decide +kernel)) ggX5_enter_X5_quorum
theorem dX5_enter_0 : decode cX5_enter 0 = .ok (.aload_n 0, 1) := by decide +kernel
theorem dX5_enter_1 : decode cX5_enter 1 = .ok (.iload_n 1, 1) := by decide +kernel
theorem dX5_enter_2 : decode cX5_enter 2 = .ok (.invokevirtual 80, 3) := by decide +kernel
theorem dX5_enter_5 : decode cX5_enter 5 = .ok (.ifCond .eq 27, 3) := by decide +kernel
theorem dX5_enter_8 : decode cX5_enter 8 = .ok (.aload_n 0, 1) := by decide +kernel
theorem dX5_enter_9 : decode cX5_enter 9 = .ok (.getfield 13, 3) := by decide +kernel
theorem dX5_enter_12 : decode cX5_enter 12 = .ok (.iload_n 1, 1) := by decide +kernel
theorem dX5_enter_13 : decode cX5_enter 13 = .ok (.iaload, 1) := by decide +kernel
theorem dX5_enter_14 : decode cX5_enter 14 = .ok (.iconst 1, 1) := by decide +kernel
theorem dX5_enter_15 : decode cX5_enter 15 = .ok (.if_icmp .ne 17, 3) := by decide +kernel
theorem dX5_enter_18 : decode cX5_enter 18 = .ok (.aload_n 0, 1) := by decide +kernel
theorem dX5_enter_19 : decode cX5_enter 19 = .ok (.getfield 19, 3) := by decide +kernel
theorem dX5_enter_22 : decode cX5_enter 22 = .ok (.iload_n 1, 1) := by decide +kernel
theorem dX5_enter_23 : decode cX5_enter 23 = .ok (.iaload, 1) := by decide +kernel
theorem dX5_enter_24 : decode cX5_enter 24 = .ok (.aload_n 0, 1) := by decide +kernel
theorem dX5_enter_25 : decode cX5_enter 25 = .ok (.iload_n 1, 1) := by decide +kernel
theorem dX5_enter_26 : decode cX5_enter 26 = .ok (.invokevirtual 72, 3) := by decide +kernel
theorem dX5_enter_29 : decode cX5_enter 29 = .ok (.if_icmp .eq 5, 3) := by decide +kernel
theorem dX5_enter_32 : decode cX5_enter 32 = .ok (.iconst 0, 1) := by decide +kernel
theorem dX5_enter_33 : decode cX5_enter 33 = .ok (.ireturn, 1) := by decide +kernel
theorem dX5_enter_34 : decode cX5_enter 34 = .ok (.aload_n 0, 1) := by decide +kernel
theorem dX5_enter_35 : decode cX5_enter 35 = .ok (.getfield 13, 3) := by decide +kernel
theorem dX5_enter_38 : decode cX5_enter 38 = .ok (.iload_n 1, 1) := by decide +kernel
theorem dX5_enter_39 : decode cX5_enter 39 = .ok (.iconst 2, 1) := by decide +kernel
theorem dX5_enter_40 : decode cX5_enter 40 = .ok (.iastore, 1) := by decide +kernel
theorem dX5_enter_41 : decode cX5_enter 41 = .ok (.aload_n 0, 1) := by decide +kernel
theorem dX5_enter_42 : decode cX5_enter 42 = .ok (.dup, 1) := by decide +kernel
theorem dX5_enter_43 : decode cX5_enter 43 = .ok (.getfield 69, 3) := by decide +kernel
theorem dX5_enter_46 : decode cX5_enter 46 = .ok (.iconst 1, 1) := by decide +kernel
theorem dX5_enter_47 : decode cX5_enter 47 = .ok (.iadd, 1) := by decide +kernel
theorem dX5_enter_48 : decode cX5_enter 48 = .ok (.putfield 69, 3) := by decide +kernel
theorem dX5_enter_51 : decode cX5_enter 51 = .ok (.iconst 1, 1) := by decide +kernel
theorem dX5_enter_52 : decode cX5_enter 52 = .ok (.ireturn, 1) := by decide +kernel
set_option maxRecDepth 20000 in
theorem ggX5_release_X5_isNode : GoodIn wsX5_release wsX5_isNode := goodIn_r _ [7, 8, 34, 35, 36, 37, 38, 39, 40, 41, 42, 43, 44, 45, 46, 47, 48, 49, 50, 51, 52] (by decide +kernel) (by decide +kernel)
set_option maxRecDepth 20000 in
theorem gX5_release_X5_isNode : GoodIn wsX5_release (wsV RX5 80 RX5 yX5_isNode wsX5_isNode) := goodIn_app (goodIn_of _ (by decide +kernel)) ggX5_release_X5_isNode
set_option maxRecDepth 20000 in
theorem ggX5_release_X5_empty : GoodIn wsX5_release wsX5_empty := goodIn_r _ [12, 13, 14, 15, 34, 35, 36, 37, 38, 39, 40, 41, 42, 43, 44, 45, 46, 47, 48, 49, 50, 51, 52] (by decide +kernel) (by decide +kernel)
set_option maxRecDepth 20000 in
theorem gX5_release_X5_empty : GoodIn wsX5_release (wsV RX5 84 RX5 yX5_empty wsX5_empty) := goodIn_app (goodIn_of _ (by decide +kernel)) ggX5_release_X5_empty
set_option maxRecDepth 20000 in
theorem ggX5_release_X5_sendAll : GoodIn wsX5_release wsX5_sendAll := goodIn_r _ [19, 8, 20, 21, 22, 6, 23, 24, 25, 26, 27, 28, 29, 30, 31, 32, 33, 34, 35, 36, 37, 38, 39, 40, 41, 42, 43, 44, 45, 46, 47, 48, 49, 50, 51, 52] (by decide +kernel) (by decide +kernel)
set_option maxRecDepth 20000 in
theorem gX5_release_X5_sendAll : GoodIn wsX5_release (wsV RX5 88 RX5 yX5_sendAll wsX5_sendAll) := goodIn_app (goodIn_of _ (by decide +kernel)) ggX5_release_X5_sendAll
theorem dX5_release_0 : decode cX5_release 0 = .ok (.aload_n 0, 1) := by decide +kernel
theorem dX5_release_1 : decode cX5_release 1 = .ok (.iload_n 1, 1) := by decide +kernel
theorem dX5_release_2 : decode cX5_release 2 = .ok (.invokevirtual 80, 3) := by decide +kernel
theorem dX5_release_5 : decode cX5_release 5 = .ok (.ifCond .ne 5, 3) := by decide +kernel
theorem dX5_release_8 : decode cX5_release 8 = .ok (.iconst (-1), 1) := by decide +kernel
theorem dX5_release_9 : decode cX5_release 9 = .ok (.ireturn, 1) := by decide +kernel
theorem dX5_release_10 : decode cX5_release 10 = .ok (.aload_n 0, 1) := by decide +kernel
theorem dX5_release_11 : decode cX5_release 11 = .ok (.getfield 13, 3) := by decide +kernel
theorem dX5_release_14 : decode cX5_release 14 = .ok (.iload_n 1, 1) := by decide +kernel
theorem dX5_release_15 : decode cX5_release 15 = .ok (.iaload, 1) := by decide +kernel
theorem dX5_release_16 : decode cX5_release 16 = .ok (.iconst 2, 1) := by decide +kernel
theorem dX5_release_17 : decode cX5_release 17 = .ok (.if_icmp .eq 5, 3) := by decide +kernel
theorem dX5_release_20 : decode cX5_release 20 = .ok (.iconst 1, 1) := by decide +kernel
theorem dX5_release_21 : decode cX5_release 21 = .ok (.ireturn, 1) := by decide +kernel
theorem dX5_release_22 : decode cX5_release 22 = .ok (.aload_n 0, 1) := by decide +kernel
theorem dX5_release_23 : decode cX5_release 23 = .ok (.getfield 16, 3) := by decide +kernel
theorem dX5_release_26 : decode cX5_release 26 = .ok (.iload_n 1, 1) := by decide +kernel
theorem dX5_release_27 : decode cX5_release 27 = .ok (.iaload, 1) := by decide +kernel
theorem dX5_release_28 : decode cX5_release 28 = .ok (.istore_n 2, 1) := by decide +kernel
theorem dX5_release_29 : decode cX5_release 29 = .ok (.aload_n 0, 1) := by decide +kernel
theorem dX5_release_30 : decode cX5_release 30 = .ok (.getfield 13, 3) := by decide +kernel
theorem dX5_release_33 : decode cX5_release 33 = .ok (.iload_n 1, 1) := by decide +kernel
theorem dX5_release_34 : decode cX5_release 34 = .ok (.iconst 0, 1) := by decide +kernel
theorem dX5_release_35 : decode cX5_release 35 = .ok (.iastore, 1) := by decide +kernel
theorem dX5_release_36 : decode cX5_release 36 = .ok (.aload_n 0, 1) := by decide +kernel
theorem dX5_release_37 : decode cX5_release 37 = .ok (.getfield 16, 3) := by decide +kernel
theorem dX5_release_40 : decode cX5_release 40 = .ok (.iload_n 1, 1) := by decide +kernel
theorem dX5_release_41 : decode cX5_release 41 = .ok (.iconst 0, 1) := by decide +kernel
theorem dX5_release_42 : decode cX5_release 42 = .ok (.iastore, 1) := by decide +kernel
theorem dX5_release_43 : decode cX5_release 43 = .ok (.aload_n 0, 1) := by decide +kernel
theorem dX5_release_44 : decode cX5_release 44 = .ok (.iload_n 1, 1) := by decide +kernel
theorem dX5_release_45 : decode cX5_release 45 = .ok (.invokevirtual 84, 3) := by decide +kernel
theorem dX5_release_48 : decode cX5_release 48 = .ok (.aload_n 0, 1) := by decide +kernel
theorem dX5_release_49 : decode cX5_release 49 = .ok (.iload_n 1, 1) := by decide +kernel
theorem dX5_release_50 : decode cX5_release 50 = .ok (.iconst 3, 1) := by decide +kernel
theorem dX5_release_51 : decode cX5_release 51 = .ok (.iload_n 2, 1) := by decide +kernel
theorem dX5_release_52 : decode cX5_release 52 = .ok (.invokevirtual 88, 3) := by decide +kernel
theorem dX5_release_55 : decode cX5_release 55 = .ok (.iconst 0, 1) := by decide +kernel
theorem dX5_release_56 : decode cX5_release 56 = .ok (.ireturn, 1) := by decide +kernel
set_option maxRecDepth 20000 in
theorem ggX5_giveUp_X5_send : GoodIn wsX5_giveUp wsX5_send := goodIn_r _ [9, 10, 11, 12, 13, 14, 15, 16, 17, 18, 19, 20, 21, 22, 23, 24, 25, 26, 27, 28, 29, 30, 31, 32, 33] (by decide +kernel) (by decide +kernel)
set_option maxRecDepth 20000 in
theorem gX5_giveUp_X5_send : GoodIn wsX5_giveUp (wsV RX5 76 RX5 yX5_send wsX5_send) := goodIn_app (goodIn_of _ (by decide +kernel)) ggX5_giveUp_X5_send
theorem dX5_giveUp_0 : decode cX5_giveUp 0 = .ok (.aload_n 0, 1) := by decide +kernel
theorem dX5_giveUp_1 : decode cX5_giveUp 1 = .ok (.iload_n 1, 1) := by decide +kernel
theorem dX5_giveUp_2 : decode cX5_giveUp 2 = .ok (.iload_n 2, 1) := by decide +kernel
theorem dX5_giveUp_3 : decode cX5_giveUp 3 = .ok (.iconst 5, 1) := by decide +kernel
theorem dX5_giveUp_4 : decode cX5_giveUp 4 = .ok (.aload_n 0, 1) := by decide +kernel
theorem dX5_giveUp_5 : decode cX5_giveUp 5 = .ok (.getfield 16, 3) := by decide +kernel
theorem dX5_giveUp_8 : decode cX5_giveUp 8 = .ok (.iload_n 1, 1) := by decide +kernel
theorem dX5_giveUp_9 : decode cX5_giveUp 9 = .ok (.iaload, 1) := by decide +kernel
theorem dX5_giveUp_10 : decode cX5_giveUp 10 = .ok (.invokevirtual 76, 3) := by decide +kernel
theorem dX5_giveUp_13 : decode cX5_giveUp 13 = .ok (.aload_n 0, 1) := by decide +kernel
theorem dX5_giveUp_14 : decode cX5_giveUp 14 = .ok (.getfield 19, 3) := by decide +kernel
theorem dX5_giveUp_17 : decode cX5_giveUp 17 = .ok (.iload_n 1, 1) := by decide +kernel
theorem dX5_giveUp_18 : decode cX5_giveUp 18 = .ok (.dup2, 1) := by decide +kernel
theorem dX5_giveUp_19 : decode cX5_giveUp 19 = .ok (.iaload, 1) := by decide +kernel
theorem dX5_giveUp_20 : decode cX5_giveUp 20 = .ok (.iconst 1, 1) := by decide +kernel
theorem dX5_giveUp_21 : decode cX5_giveUp 21 = .ok (.iload_n 2, 1) := by decide +kernel
theorem dX5_giveUp_22 : decode cX5_giveUp 22 = .ok (.ishl, 1) := by decide +kernel
theorem dX5_giveUp_23 : decode cX5_giveUp 23 = .ok (.iconst (-1), 1) := by decide +kernel
theorem dX5_giveUp_24 : decode cX5_giveUp 24 = .ok (.ixor, 1) := by decide +kernel
theorem dX5_giveUp_25 : decode cX5_giveUp 25 = .ok (.iand, 1) := by decide +kernel
theorem dX5_giveUp_26 : decode cX5_giveUp 26 = .ok (.iastore, 1) := by decide +kernel
theorem dX5_giveUp_27 : decode cX5_giveUp 27 = .ok (.aload_n 0, 1) := by decide +kernel
theorem dX5_giveUp_28 : decode cX5_giveUp 28 = .ok (.getfield 25, 3) := by decide +kernel
theorem dX5_giveUp_31 : decode cX5_giveUp 31 = .ok (.iload_n 1, 1) := by decide +kernel
theorem dX5_giveUp_32 : decode cX5_giveUp 32 = .ok (.dup2, 1) := by decide +kernel
theorem dX5_giveUp_33 : decode cX5_giveUp 33 = .ok (.iaload, 1) := by decide +kernel
theorem dX5_giveUp_34 : decode cX5_giveUp 34 = .ok (.iconst 1, 1) := by decide +kernel
theorem dX5_giveUp_35 : decode cX5_giveUp 35 = .ok (.iload_n 2, 1) := by decide +kernel
theorem dX5_giveUp_36 : decode cX5_giveUp 36 = .ok (.ishl, 1) := by decide +kernel
theorem dX5_giveUp_37 : decode cX5_giveUp 37 = .ok (.iconst (-1), 1) := by decide +kernel
theorem dX5_giveUp_38 : decode cX5_giveUp 38 = .ok (.ixor, 1) := by decide +kernel
theorem dX5_giveUp_39 : decode cX5_giveUp 39 = .ok (.iand, 1) := by decide +kernel
theorem dX5_giveUp_40 : decode cX5_giveUp 40 = .ok (.iastore, 1) := by decide +kernel
theorem dX5_giveUp_41 : decode cX5_giveUp 41 = .ok (.aload_n 0, 1) := by decide +kernel
theorem dX5_giveUp_42 : decode cX5_giveUp 42 = .ok (.getfield 22, 3) := by decide +kernel
theorem dX5_giveUp_45 : decode cX5_giveUp 45 = .ok (.iload_n 1, 1) := by decide +kernel
theorem dX5_giveUp_46 : decode cX5_giveUp 46 = .ok (.dup2, 1) := by decide +kernel
theorem dX5_giveUp_47 : decode cX5_giveUp 47 = .ok (.iaload, 1) := by decide +kernel
theorem dX5_giveUp_48 : decode cX5_giveUp 48 = .ok (.iconst 1, 1) := by decide +kernel
theorem dX5_giveUp_49 : decode cX5_giveUp 49 = .ok (.iload_n 2, 1) := by decide +kernel
theorem dX5_giveUp_50 : decode cX5_giveUp 50 = .ok (.ishl, 1) := by decide +kernel
theorem dX5_giveUp_51 : decode cX5_giveUp 51 = .ok (.ior, 1) := by decide +kernel
theorem dX5_giveUp_52 : decode cX5_giveUp 52 = .ok (.iastore, 1) := by decide +kernel
theorem dX5_giveUp_53 : decode cX5_giveUp 53 = .ok (.return_, 1) := by decide +kernel
set_option maxRecDepth 20000 in
theorem ggX5_answer_X5_giveUp : GoodIn wsX5_answer wsX5_giveUp := goodIn_r _ [11, 2, 3, 6, 4, 12, 13, 14, 10, 15, 16, 17, 18, 19, 20, 21, 22, 23, 24, 25, 26, 27, 28, 29, 30, 31, 32, 33, 34, 35, 36, 37, 38, 39] (by decide +kernel) (by decide +kernel)
set_option maxRecDepth 20000 in
theorem gX5_answer_X5_giveUp : GoodIn wsX5_answer (wsV RX5 92 RX5 yX5_giveUp wsX5_giveUp) := goodIn_app (goodIn_of _ (by decide +kernel)) ggX5_answer_X5_giveUp
theorem dX5_answer_0 : decode cX5_answer 0 = .ok (.aload_n 0, 1) := by decide +kernel
theorem dX5_answer_1 : decode cX5_answer 1 = .ok (.getfield 13, 3) := by decide +kernel
theorem dX5_answer_4 : decode cX5_answer 4 = .ok (.iload_n 1, 1) := by decide +kernel
theorem dX5_answer_5 : decode cX5_answer 5 = .ok (.iaload, 1) := by decide +kernel
theorem dX5_answer_6 : decode cX5_answer 6 = .ok (.ifCond .eq 14, 3) := by decide +kernel
theorem dX5_answer_9 : decode cX5_answer 9 = .ok (.aload_n 0, 1) := by decide +kernel
theorem dX5_answer_10 : decode cX5_answer 10 = .ok (.getfield 16, 3) := by decide +kernel
theorem dX5_answer_13 : decode cX5_answer 13 = .ok (.iload_n 1, 1) := by decide +kernel
theorem dX5_answer_14 : decode cX5_answer 14 = .ok (.iaload, 1) := by decide +kernel
theorem dX5_answer_15 : decode cX5_answer 15 = .ok (.iload 4, 2) := by decide +kernel
theorem dX5_answer_17 : decode cX5_answer 17 = .ok (.if_icmp .eq 4, 3) := by decide +kernel
theorem dX5_answer_20 : decode cX5_answer 20 = .ok (.return_, 1) := by decide +kernel
theorem dX5_answer_21 : decode cX5_answer 21 = .ok (.iload_n 3, 1) := by decide +kernel
theorem dX5_answer_22 : decode cX5_answer 22 = .ok (.iconst 2, 1) := by decide +kernel
theorem dX5_answer_23 : decode cX5_answer 23 = .ok (.if_icmp .ne 32, 3) := by decide +kernel
theorem dX5_answer_26 : decode cX5_answer 26 = .ok (.aload_n 0, 1) := by decide +kernel
theorem dX5_answer_27 : decode cX5_answer 27 = .ok (.getfield 19, 3) := by decide +kernel
theorem dX5_answer_30 : decode cX5_answer 30 = .ok (.iload_n 1, 1) := by decide +kernel
theorem dX5_answer_31 : decode cX5_answer 31 = .ok (.dup2, 1) := by decide +kernel
theorem dX5_answer_32 : decode cX5_answer 32 = .ok (.iaload, 1) := by decide +kernel
theorem dX5_answer_33 : decode cX5_answer 33 = .ok (.iconst 1, 1) := by decide +kernel
theorem dX5_answer_34 : decode cX5_answer 34 = .ok (.iload_n 2, 1) := by decide +kernel
theorem dX5_answer_35 : decode cX5_answer 35 = .ok (.ishl, 1) := by decide +kernel
theorem dX5_answer_36 : decode cX5_answer 36 = .ok (.ior, 1) := by decide +kernel
theorem dX5_answer_37 : decode cX5_answer 37 = .ok (.iastore, 1) := by decide +kernel
theorem dX5_answer_38 : decode cX5_answer 38 = .ok (.aload_n 0, 1) := by decide +kernel
theorem dX5_answer_39 : decode cX5_answer 39 = .ok (.getfield 22, 3) := by decide +kernel
theorem dX5_answer_42 : decode cX5_answer 42 = .ok (.iload_n 1, 1) := by decide +kernel
theorem dX5_answer_43 : decode cX5_answer 43 = .ok (.dup2, 1) := by decide +kernel
theorem dX5_answer_44 : decode cX5_answer 44 = .ok (.iaload, 1) := by decide +kernel
theorem dX5_answer_45 : decode cX5_answer 45 = .ok (.iconst 1, 1) := by decide +kernel
theorem dX5_answer_46 : decode cX5_answer 46 = .ok (.iload_n 2, 1) := by decide +kernel
theorem dX5_answer_47 : decode cX5_answer 47 = .ok (.ishl, 1) := by decide +kernel
theorem dX5_answer_48 : decode cX5_answer 48 = .ok (.iconst (-1), 1) := by decide +kernel
theorem dX5_answer_49 : decode cX5_answer 49 = .ok (.ixor, 1) := by decide +kernel
theorem dX5_answer_50 : decode cX5_answer 50 = .ok (.iand, 1) := by decide +kernel
theorem dX5_answer_51 : decode cX5_answer 51 = .ok (.iastore, 1) := by decide +kernel
theorem dX5_answer_52 : decode cX5_answer 52 = .ok (.goto 140, 3) := by decide +kernel
theorem dX5_answer_55 : decode cX5_answer 55 = .ok (.iload_n 3, 1) := by decide +kernel
theorem dX5_answer_56 : decode cX5_answer 56 = .ok (.bipush 6, 2) := by decide +kernel
theorem dX5_answer_58 : decode cX5_answer 58 = .ok (.if_icmp .ne 75, 3) := by decide +kernel
theorem dX5_answer_61 : decode cX5_answer 61 = .ok (.aload_n 0, 1) := by decide +kernel
theorem dX5_answer_62 : decode cX5_answer 62 = .ok (.getfield 13, 3) := by decide +kernel
theorem dX5_answer_65 : decode cX5_answer 65 = .ok (.iload_n 1, 1) := by decide +kernel
theorem dX5_answer_66 : decode cX5_answer 66 = .ok (.iaload, 1) := by decide +kernel
theorem dX5_answer_67 : decode cX5_answer 67 = .ok (.iconst 1, 1) := by decide +kernel
theorem dX5_answer_68 : decode cX5_answer 68 = .ok (.if_icmp .ne 65, 3) := by decide +kernel
theorem dX5_answer_71 : decode cX5_answer 71 = .ok (.aload_n 0, 1) := by decide +kernel
theorem dX5_answer_72 : decode cX5_answer 72 = .ok (.getfield 22, 3) := by decide +kernel
theorem dX5_answer_75 : decode cX5_answer 75 = .ok (.iload_n 1, 1) := by decide +kernel
theorem dX5_answer_76 : decode cX5_answer 76 = .ok (.dup2, 1) := by decide +kernel
theorem dX5_answer_77 : decode cX5_answer 77 = .ok (.iaload, 1) := by decide +kernel
theorem dX5_answer_78 : decode cX5_answer 78 = .ok (.iconst 1, 1) := by decide +kernel
theorem dX5_answer_79 : decode cX5_answer 79 = .ok (.iload_n 2, 1) := by decide +kernel
theorem dX5_answer_80 : decode cX5_answer 80 = .ok (.ishl, 1) := by decide +kernel
theorem dX5_answer_81 : decode cX5_answer 81 = .ok (.ior, 1) := by decide +kernel
theorem dX5_answer_82 : decode cX5_answer 82 = .ok (.iastore, 1) := by decide +kernel
theorem dX5_answer_83 : decode cX5_answer 83 = .ok (.iconst 0, 1) := by decide +kernel
theorem dX5_answer_84 : decode cX5_answer 84 = .ok (.istore 5, 2) := by decide +kernel
theorem dX5_answer_86 : decode cX5_answer 86 = .ok (.iload 5, 2) := by decide +kernel
theorem dX5_answer_88 : decode cX5_answer 88 = .ok (.aload_n 0, 1) := by decide +kernel
theorem dX5_answer_89 : decode cX5_answer 89 = .ok (.getfield 63, 3) := by decide +kernel
theorem dX5_answer_92 : decode cX5_answer 92 = .ok (.if_icmp .ge 38, 3) := by decide +kernel
theorem dX5_answer_95 : decode cX5_answer 95 = .ok (.aload_n 0, 1) := by decide +kernel
theorem dX5_answer_96 : decode cX5_answer 96 = .ok (.getfield 19, 3) := by decide +kernel
theorem dX5_answer_99 : decode cX5_answer 99 = .ok (.iload_n 1, 1) := by decide +kernel
theorem dX5_answer_100 : decode cX5_answer 100 = .ok (.iaload, 1) := by decide +kernel
theorem dX5_answer_101 : decode cX5_answer 101 = .ok (.aload_n 0, 1) := by decide +kernel
theorem dX5_answer_102 : decode cX5_answer 102 = .ok (.getfield 25, 3) := by decide +kernel
theorem dX5_answer_105 : decode cX5_answer 105 = .ok (.iload_n 1, 1) := by decide +kernel
theorem dX5_answer_106 : decode cX5_answer 106 = .ok (.iaload, 1) := by decide +kernel
theorem dX5_answer_107 : decode cX5_answer 107 = .ok (.iand, 1) := by decide +kernel
theorem dX5_answer_108 : decode cX5_answer 108 = .ok (.iload 5, 2) := by decide +kernel
theorem dX5_answer_110 : decode cX5_answer 110 = .ok (.ishr, 1) := by decide +kernel
theorem dX5_answer_111 : decode cX5_answer 111 = .ok (.iconst 1, 1) := by decide +kernel
theorem dX5_answer_112 : decode cX5_answer 112 = .ok (.iand, 1) := by decide +kernel
theorem dX5_answer_113 : decode cX5_answer 113 = .ok (.iconst 1, 1) := by decide +kernel
theorem dX5_answer_114 : decode cX5_answer 114 = .ok (.if_icmp .ne 10, 3) := by decide +kernel
theorem dX5_answer_117 : decode cX5_answer 117 = .ok (.aload_n 0, 1) := by decide +kernel
theorem dX5_answer_118 : decode cX5_answer 118 = .ok (.iload_n 1, 1) := by decide +kernel
theorem dX5_answer_119 : decode cX5_answer 119 = .ok (.iload 5, 2) := by decide +kernel
theorem dX5_answer_121 : decode cX5_answer 121 = .ok (.invokevirtual 92, 3) := by decide +kernel
theorem dX5_answer_124 : decode cX5_answer 124 = .ok (.iinc 5 1, 3) := by decide +kernel
theorem dX5_answer_127 : decode cX5_answer 127 = .ok (.goto (-41), 3) := by decide +kernel
theorem dX5_answer_130 : decode cX5_answer 130 = .ok (.goto 62, 3) := by decide +kernel
theorem dX5_answer_133 : decode cX5_answer 133 = .ok (.iload_n 3, 1) := by decide +kernel
theorem dX5_answer_134 : decode cX5_answer 134 = .ok (.iconst 4, 1) := by decide +kernel
theorem dX5_answer_135 : decode cX5_answer 135 = .ok (.if_icmp .ne 57, 3) := by decide +kernel
theorem dX5_answer_138 : decode cX5_answer 138 = .ok (.aload_n 0, 1) := by decide +kernel
theorem dX5_answer_139 : decode cX5_answer 139 = .ok (.getfield 13, 3) := by decide +kernel
theorem dX5_answer_142 : decode cX5_answer 142 = .ok (.iload_n 1, 1) := by decide +kernel
theorem dX5_answer_143 : decode cX5_answer 143 = .ok (.iaload, 1) := by decide +kernel
theorem dX5_answer_144 : decode cX5_answer 144 = .ok (.iconst 1, 1) := by decide +kernel
theorem dX5_answer_145 : decode cX5_answer 145 = .ok (.if_icmp .ne 47, 3) := by decide +kernel
theorem dX5_answer_148 : decode cX5_answer 148 = .ok (.aload_n 0, 1) := by decide +kernel
theorem dX5_answer_149 : decode cX5_answer 149 = .ok (.getfield 19, 3) := by decide +kernel
theorem dX5_answer_152 : decode cX5_answer 152 = .ok (.iload_n 1, 1) := by decide +kernel
theorem dX5_answer_153 : decode cX5_answer 153 = .ok (.iaload, 1) := by decide +kernel
theorem dX5_answer_154 : decode cX5_answer 154 = .ok (.iload_n 2, 1) := by decide +kernel
theorem dX5_answer_155 : decode cX5_answer 155 = .ok (.ishr, 1) := by decide +kernel
theorem dX5_answer_156 : decode cX5_answer 156 = .ok (.iconst 1, 1) := by decide +kernel
theorem dX5_answer_157 : decode cX5_answer 157 = .ok (.iand, 1) := by decide +kernel
theorem dX5_answer_158 : decode cX5_answer 158 = .ok (.iconst 1, 1) := by decide +kernel
theorem dX5_answer_159 : decode cX5_answer 159 = .ok (.if_icmp .ne 33, 3) := by decide +kernel
theorem dX5_answer_162 : decode cX5_answer 162 = .ok (.aload_n 0, 1) := by decide +kernel
theorem dX5_answer_163 : decode cX5_answer 163 = .ok (.getfield 22, 3) := by decide +kernel
theorem dX5_answer_166 : decode cX5_answer 166 = .ok (.iload_n 1, 1) := by decide +kernel
theorem dX5_answer_167 : decode cX5_answer 167 = .ok (.iaload, 1) := by decide +kernel
theorem dX5_answer_168 : decode cX5_answer 168 = .ok (.ifCond .eq 12, 3) := by decide +kernel
theorem dX5_answer_171 : decode cX5_answer 171 = .ok (.aload_n 0, 1) := by decide +kernel
theorem dX5_answer_172 : decode cX5_answer 172 = .ok (.iload_n 1, 1) := by decide +kernel
theorem dX5_answer_173 : decode cX5_answer 173 = .ok (.iload_n 2, 1) := by decide +kernel
theorem dX5_answer_174 : decode cX5_answer 174 = .ok (.invokevirtual 92, 3) := by decide +kernel
theorem dX5_answer_177 : decode cX5_answer 177 = .ok (.goto 15, 3) := by decide +kernel
theorem dX5_answer_180 : decode cX5_answer 180 = .ok (.aload_n 0, 1) := by decide +kernel
theorem dX5_answer_181 : decode cX5_answer 181 = .ok (.getfield 25, 3) := by decide +kernel
theorem dX5_answer_184 : decode cX5_answer 184 = .ok (.iload_n 1, 1) := by decide +kernel
theorem dX5_answer_185 : decode cX5_answer 185 = .ok (.dup2, 1) := by decide +kernel
theorem dX5_answer_186 : decode cX5_answer 186 = .ok (.iaload, 1) := by decide +kernel
theorem dX5_answer_187 : decode cX5_answer 187 = .ok (.iconst 1, 1) := by decide +kernel
theorem dX5_answer_188 : decode cX5_answer 188 = .ok (.iload_n 2, 1) := by decide +kernel
theorem dX5_answer_189 : decode cX5_answer 189 = .ok (.ishl, 1) := by decide +kernel
theorem dX5_answer_190 : decode cX5_answer 190 = .ok (.ior, 1) := by decide +kernel
theorem dX5_answer_191 : decode cX5_answer 191 = .ok (.iastore, 1) := by decide +kernel
theorem dX5_answer_192 : decode cX5_answer 192 = .ok (.return_, 1) := by decide +kernel
theorem dX5_isBefore_0 : decode cX5_isBefore 0 = .ok (.iload_n 0, 1) := by decide +kernel
theorem dX5_isBefore_1 : decode cX5_isBefore 1 = .ok (.iload_n 2, 1) := by decide +kernel
theorem dX5_isBefore_2 : decode cX5_isBefore 2 = .ok (.if_icmp .lt 13, 3) := by decide +kernel
theorem dX5_isBefore_5 : decode cX5_isBefore 5 = .ok (.iload_n 0, 1) := by decide +kernel
theorem dX5_isBefore_6 : decode cX5_isBefore 6 = .ok (.iload_n 2, 1) := by decide +kernel
theorem dX5_isBefore_7 : decode cX5_isBefore 7 = .ok (.if_icmp .ne 12, 3) := by decide +kernel
theorem dX5_isBefore_10 : decode cX5_isBefore 10 = .ok (.iload_n 1, 1) := by decide +kernel
theorem dX5_isBefore_11 : decode cX5_isBefore 11 = .ok (.iload_n 3, 1) := by decide +kernel
theorem dX5_isBefore_12 : decode cX5_isBefore 12 = .ok (.if_icmp .ge 7, 3) := by decide +kernel
theorem dX5_isBefore_15 : decode cX5_isBefore 15 = .ok (.iconst 1, 1) := by decide +kernel
theorem dX5_isBefore_16 : decode cX5_isBefore 16 = .ok (.goto 4, 3) := by decide +kernel
theorem dX5_isBefore_19 : decode cX5_isBefore 19 = .ok (.iconst 0, 1) := by decide +kernel
theorem dX5_isBefore_20 : decode cX5_isBefore 20 = .ok (.ireturn, 1) := by decide +kernel
set_option maxRecDepth 20000 in
theorem ggX5_line_X5_isBefore : GoodIn wsX5_line wsX5_isBefore := goodIn_r _ [7] (by decide +kernel) (by decide +kernel)
set_option maxRecDepth 20000 in
theorem gX5_line_X5_isBefore : GoodIn wsX5_line (va_wsS RX5 96 yX5_isBefore wsX5_isBefore) := goodIn_app (goodIn_of _ (by decide +kernel)) ggX5_line_X5_isBefore
theorem dX5_line_0 : decode cX5_line 0 = .ok (.aload_n 0, 1) := by decide +kernel
theorem dX5_line_1 : decode cX5_line 1 = .ok (.getfield 38, 3) := by decide +kernel
theorem dX5_line_4 : decode cX5_line 4 = .ok (.iload_n 1, 1) := by decide +kernel
theorem dX5_line_5 : decode cX5_line 5 = .ok (.iaload, 1) := by decide +kernel
theorem dX5_line_6 : decode cX5_line 6 = .ok (.istore 4, 2) := by decide +kernel
theorem dX5_line_8 : decode cX5_line 8 = .ok (.iload 4, 2) := by decide +kernel
theorem dX5_line_10 : decode cX5_line 10 = .ok (.ifCond .le 97, 3) := by decide +kernel
theorem dX5_line_13 : decode cX5_line 13 = .ok (.iload_n 3, 1) := by decide +kernel
theorem dX5_line_14 : decode cX5_line 14 = .ok (.iload_n 2, 1) := by decide +kernel
theorem dX5_line_15 : decode cX5_line 15 = .ok (.aload_n 0, 1) := by decide +kernel
theorem dX5_line_16 : decode cX5_line 16 = .ok (.getfield 44, 3) := by decide +kernel
theorem dX5_line_19 : decode cX5_line 19 = .ok (.bipush 64, 2) := by decide +kernel
theorem dX5_line_21 : decode cX5_line 21 = .ok (.iload_n 1, 1) := by decide +kernel
theorem dX5_line_22 : decode cX5_line 22 = .ok (.imul, 1) := by decide +kernel
theorem dX5_line_23 : decode cX5_line 23 = .ok (.iload 4, 2) := by decide +kernel
theorem dX5_line_25 : decode cX5_line 25 = .ok (.iadd, 1) := by decide +kernel
theorem dX5_line_26 : decode cX5_line 26 = .ok (.iconst 1, 1) := by decide +kernel
theorem dX5_line_27 : decode cX5_line 27 = .ok (.isub, 1) := by decide +kernel
theorem dX5_line_28 : decode cX5_line 28 = .ok (.iaload, 1) := by decide +kernel
theorem dX5_line_29 : decode cX5_line 29 = .ok (.aload_n 0, 1) := by decide +kernel
theorem dX5_line_30 : decode cX5_line 30 = .ok (.getfield 41, 3) := by decide +kernel
theorem dX5_line_33 : decode cX5_line 33 = .ok (.bipush 64, 2) := by decide +kernel
theorem dX5_line_35 : decode cX5_line 35 = .ok (.iload_n 1, 1) := by decide +kernel
theorem dX5_line_36 : decode cX5_line 36 = .ok (.imul, 1) := by decide +kernel
theorem dX5_line_37 : decode cX5_line 37 = .ok (.iload 4, 2) := by decide +kernel
theorem dX5_line_39 : decode cX5_line 39 = .ok (.iadd, 1) := by decide +kernel
theorem dX5_line_40 : decode cX5_line 40 = .ok (.iconst 1, 1) := by decide +kernel
theorem dX5_line_41 : decode cX5_line 41 = .ok (.isub, 1) := by decide +kernel
theorem dX5_line_42 : decode cX5_line 42 = .ok (.iaload, 1) := by decide +kernel
theorem dX5_line_43 : decode cX5_line 43 = .ok (.invokestatic 96, 3) := by decide +kernel
theorem dX5_line_46 : decode cX5_line 46 = .ok (.ifCond .eq 61, 3) := by decide +kernel
theorem dX5_line_49 : decode cX5_line 49 = .ok (.aload_n 0, 1) := by decide +kernel
theorem dX5_line_50 : decode cX5_line 50 = .ok (.getfield 44, 3) := by decide +kernel
theorem dX5_line_53 : decode cX5_line 53 = .ok (.bipush 64, 2) := by decide +kernel
theorem dX5_line_55 : decode cX5_line 55 = .ok (.iload_n 1, 1) := by decide +kernel
theorem dX5_line_56 : decode cX5_line 56 = .ok (.imul, 1) := by decide +kernel
theorem dX5_line_57 : decode cX5_line 57 = .ok (.iload 4, 2) := by decide +kernel
theorem dX5_line_59 : decode cX5_line 59 = .ok (.iadd, 1) := by decide +kernel
theorem dX5_line_60 : decode cX5_line 60 = .ok (.aload_n 0, 1) := by decide +kernel
theorem dX5_line_61 : decode cX5_line 61 = .ok (.getfield 44, 3) := by decide +kernel
theorem dX5_line_64 : decode cX5_line 64 = .ok (.bipush 64, 2) := by decide +kernel
theorem dX5_line_66 : decode cX5_line 66 = .ok (.iload_n 1, 1) := by decide +kernel
theorem dX5_line_67 : decode cX5_line 67 = .ok (.imul, 1) := by decide +kernel
theorem dX5_line_68 : decode cX5_line 68 = .ok (.iload 4, 2) := by decide +kernel
theorem dX5_line_70 : decode cX5_line 70 = .ok (.iadd, 1) := by decide +kernel
theorem dX5_line_71 : decode cX5_line 71 = .ok (.iconst 1, 1) := by decide +kernel
theorem dX5_line_72 : decode cX5_line 72 = .ok (.isub, 1) := by decide +kernel
theorem dX5_line_73 : decode cX5_line 73 = .ok (.iaload, 1) := by decide +kernel
theorem dX5_line_74 : decode cX5_line 74 = .ok (.iastore, 1) := by decide +kernel
theorem dX5_line_75 : decode cX5_line 75 = .ok (.aload_n 0, 1) := by decide +kernel
theorem dX5_line_76 : decode cX5_line 76 = .ok (.getfield 41, 3) := by decide +kernel
theorem dX5_line_79 : decode cX5_line 79 = .ok (.bipush 64, 2) := by decide +kernel
theorem dX5_line_81 : decode cX5_line 81 = .ok (.iload_n 1, 1) := by decide +kernel
theorem dX5_line_82 : decode cX5_line 82 = .ok (.imul, 1) := by decide +kernel
theorem dX5_line_83 : decode cX5_line 83 = .ok (.iload 4, 2) := by decide +kernel
theorem dX5_line_85 : decode cX5_line 85 = .ok (.iadd, 1) := by decide +kernel
theorem dX5_line_86 : decode cX5_line 86 = .ok (.aload_n 0, 1) := by decide +kernel
theorem dX5_line_87 : decode cX5_line 87 = .ok (.getfield 41, 3) := by decide +kernel
theorem dX5_line_90 : decode cX5_line 90 = .ok (.bipush 64, 2) := by decide +kernel
theorem dX5_line_92 : decode cX5_line 92 = .ok (.iload_n 1, 1) := by decide +kernel
theorem dX5_line_93 : decode cX5_line 93 = .ok (.imul, 1) := by decide +kernel
theorem dX5_line_94 : decode cX5_line 94 = .ok (.iload 4, 2) := by decide +kernel
theorem dX5_line_96 : decode cX5_line 96 = .ok (.iadd, 1) := by decide +kernel
theorem dX5_line_97 : decode cX5_line 97 = .ok (.iconst 1, 1) := by decide +kernel
theorem dX5_line_98 : decode cX5_line 98 = .ok (.isub, 1) := by decide +kernel
theorem dX5_line_99 : decode cX5_line 99 = .ok (.iaload, 1) := by decide +kernel
theorem dX5_line_100 : decode cX5_line 100 = .ok (.iastore, 1) := by decide +kernel
theorem dX5_line_101 : decode cX5_line 101 = .ok (.iinc 4 (-1), 3) := by decide +kernel
theorem dX5_line_104 : decode cX5_line 104 = .ok (.goto (-96), 3) := by decide +kernel
theorem dX5_line_107 : decode cX5_line 107 = .ok (.aload_n 0, 1) := by decide +kernel
theorem dX5_line_108 : decode cX5_line 108 = .ok (.getfield 44, 3) := by decide +kernel
theorem dX5_line_111 : decode cX5_line 111 = .ok (.bipush 64, 2) := by decide +kernel
theorem dX5_line_113 : decode cX5_line 113 = .ok (.iload_n 1, 1) := by decide +kernel
theorem dX5_line_114 : decode cX5_line 114 = .ok (.imul, 1) := by decide +kernel
theorem dX5_line_115 : decode cX5_line 115 = .ok (.iload 4, 2) := by decide +kernel
theorem dX5_line_117 : decode cX5_line 117 = .ok (.iadd, 1) := by decide +kernel
theorem dX5_line_118 : decode cX5_line 118 = .ok (.iload_n 3, 1) := by decide +kernel
theorem dX5_line_119 : decode cX5_line 119 = .ok (.iastore, 1) := by decide +kernel
theorem dX5_line_120 : decode cX5_line 120 = .ok (.aload_n 0, 1) := by decide +kernel
theorem dX5_line_121 : decode cX5_line 121 = .ok (.getfield 41, 3) := by decide +kernel
theorem dX5_line_124 : decode cX5_line 124 = .ok (.bipush 64, 2) := by decide +kernel
theorem dX5_line_126 : decode cX5_line 126 = .ok (.iload_n 1, 1) := by decide +kernel
theorem dX5_line_127 : decode cX5_line 127 = .ok (.imul, 1) := by decide +kernel
theorem dX5_line_128 : decode cX5_line 128 = .ok (.iload 4, 2) := by decide +kernel
theorem dX5_line_130 : decode cX5_line 130 = .ok (.iadd, 1) := by decide +kernel
theorem dX5_line_131 : decode cX5_line 131 = .ok (.iload_n 2, 1) := by decide +kernel
theorem dX5_line_132 : decode cX5_line 132 = .ok (.iastore, 1) := by decide +kernel
theorem dX5_line_133 : decode cX5_line 133 = .ok (.aload_n 0, 1) := by decide +kernel
theorem dX5_line_134 : decode cX5_line 134 = .ok (.getfield 38, 3) := by decide +kernel
theorem dX5_line_137 : decode cX5_line 137 = .ok (.iload_n 1, 1) := by decide +kernel
theorem dX5_line_138 : decode cX5_line 138 = .ok (.dup2, 1) := by decide +kernel
theorem dX5_line_139 : decode cX5_line 139 = .ok (.iaload, 1) := by decide +kernel
theorem dX5_line_140 : decode cX5_line 140 = .ok (.iconst 1, 1) := by decide +kernel
theorem dX5_line_141 : decode cX5_line 141 = .ok (.iadd, 1) := by decide +kernel
theorem dX5_line_142 : decode cX5_line 142 = .ok (.iastore, 1) := by decide +kernel
theorem dX5_line_143 : decode cX5_line 143 = .ok (.iload 4, 2) := by decide +kernel
theorem dX5_line_145 : decode cX5_line 145 = .ok (.ireturn, 1) := by decide +kernel
set_option maxRecDepth 20000 in
theorem ggX5_lend_X5_send : GoodIn wsX5_lend wsX5_send := goodIn_r _ [8, 9, 10, 11, 12, 13, 14, 15, 16, 17, 18, 19, 20, 21, 22, 23, 24, 25, 26, 27, 28, 29, 30, 31, 32] (by decide +kernel) (by decide +kernel)
set_option maxRecDepth 20000 in
theorem gX5_lend_X5_send : GoodIn wsX5_lend (wsV RX5 76 RX5 yX5_send wsX5_send) := goodIn_app (goodIn_of _ (by decide +kernel)) ggX5_lend_X5_send
theorem dX5_lend_0 : decode cX5_lend 0 = .ok (.aload_n 0, 1) := by decide +kernel
theorem dX5_lend_1 : decode cX5_lend 1 = .ok (.getfield 28, 3) := by decide +kernel
theorem dX5_lend_4 : decode cX5_lend 4 = .ok (.iload_n 1, 1) := by decide +kernel
theorem dX5_lend_5 : decode cX5_lend 5 = .ok (.iload_n 2, 1) := by decide +kernel
theorem dX5_lend_6 : decode cX5_lend 6 = .ok (.iastore, 1) := by decide +kernel
theorem dX5_lend_7 : decode cX5_lend 7 = .ok (.aload_n 0, 1) := by decide +kernel
theorem dX5_lend_8 : decode cX5_lend 8 = .ok (.getfield 31, 3) := by decide +kernel
theorem dX5_lend_11 : decode cX5_lend 11 = .ok (.iload_n 1, 1) := by decide +kernel
theorem dX5_lend_12 : decode cX5_lend 12 = .ok (.iload_n 3, 1) := by decide +kernel
theorem dX5_lend_13 : decode cX5_lend 13 = .ok (.iastore, 1) := by decide +kernel
theorem dX5_lend_14 : decode cX5_lend 14 = .ok (.aload_n 0, 1) := by decide +kernel
theorem dX5_lend_15 : decode cX5_lend 15 = .ok (.getfield 34, 3) := by decide +kernel
theorem dX5_lend_18 : decode cX5_lend 18 = .ok (.iload_n 1, 1) := by decide +kernel
theorem dX5_lend_19 : decode cX5_lend 19 = .ok (.iconst 0, 1) := by decide +kernel
theorem dX5_lend_20 : decode cX5_lend 20 = .ok (.bastore, 1) := by decide +kernel
theorem dX5_lend_21 : decode cX5_lend 21 = .ok (.aload_n 0, 1) := by decide +kernel
theorem dX5_lend_22 : decode cX5_lend 22 = .ok (.iload_n 1, 1) := by decide +kernel
theorem dX5_lend_23 : decode cX5_lend 23 = .ok (.iload_n 2, 1) := by decide +kernel
theorem dX5_lend_24 : decode cX5_lend 24 = .ok (.iconst 2, 1) := by decide +kernel
theorem dX5_lend_25 : decode cX5_lend 25 = .ok (.iload_n 3, 1) := by decide +kernel
theorem dX5_lend_26 : decode cX5_lend 26 = .ok (.invokevirtual 76, 3) := by decide +kernel
theorem dX5_lend_29 : decode cX5_lend 29 = .ok (.return_, 1) := by decide +kernel
set_option maxRecDepth 20000 in
theorem ggX5_asked_X5_lend : GoodIn wsX5_asked wsX5_lend := goodIn_r _ [11, 1, 5, 6, 12, 13, 14, 10, 15, 16, 17, 18, 19, 20, 28, 29, 30, 31, 32, 33, 34, 35, 36, 37, 38, 39, 40, 41, 42, 43, 44, 45, 46] (by decide +kernel) (by decide +kernel)
set_option maxRecDepth 20000 in
theorem gX5_asked_X5_lend : GoodIn wsX5_asked (wsV RX5 100 RX5 yX5_lend wsX5_lend) := goodIn_app (goodIn_of _ (by decide +kernel)) ggX5_asked_X5_lend
set_option maxRecDepth 20000 in
theorem ggX5_asked_X5_line : GoodIn wsX5_asked wsX5_line := goodIn_r _ [24, 2, 4, 3, 25, 26, 10, 27, 28, 29, 30, 31, 32, 33, 34, 35, 36, 37, 38, 39, 40, 41, 42, 43, 44, 45, 46] (by decide +kernel) (by decide +kernel)
set_option maxRecDepth 20000 in
theorem gX5_asked_X5_line : GoodIn wsX5_asked (wsV RX5 103 RX5 yX5_line wsX5_line) := goodIn_app (goodIn_of _ (by decide +kernel)) ggX5_asked_X5_line
set_option maxRecDepth 20000 in
theorem ggX5_asked_X5_isBefore : GoodIn wsX5_asked wsX5_isBefore := goodIn_r _ [27] (by decide +kernel) (by decide +kernel)
set_option maxRecDepth 20000 in
theorem gX5_asked_X5_isBefore : GoodIn wsX5_asked (va_wsS RX5 96 yX5_isBefore wsX5_isBefore) := goodIn_app (goodIn_of _ (by decide +kernel)) ggX5_asked_X5_isBefore
set_option maxRecDepth 20000 in
theorem ggX5_asked_X5_send : GoodIn wsX5_asked wsX5_send := goodIn_r _ [15, 16, 17, 18, 19, 20, 28, 29, 30, 31, 32, 33, 34, 35, 36, 37, 38, 39, 40, 41, 42, 43, 44, 45, 46] (by decide +kernel) (by decide +kernel)
set_option maxRecDepth 20000 in
theorem gX5_asked_X5_send : GoodIn wsX5_asked (wsV RX5 76 RX5 yX5_send wsX5_send) := goodIn_app (goodIn_of _ (by decide +kernel)) ggX5_asked_X5_send
theorem dX5_asked_0 : decode cX5_asked 0 = .ok (.aload_n 0, 1) := by decide +kernel
theorem dX5_asked_1 : decode cX5_asked 1 = .ok (.getfield 28, 3) := by decide +kernel
theorem dX5_asked_4 : decode cX5_asked 4 = .ok (.iload_n 1, 1) := by decide +kernel
theorem dX5_asked_5 : decode cX5_asked 5 = .ok (.iaload, 1) := by decide +kernel
theorem dX5_asked_6 : decode cX5_asked 6 = .ok (.iconst (-1), 1) := by decide +kernel
theorem dX5_asked_7 : decode cX5_asked 7 = .ok (.if_icmp .ne 11, 3) := by decide +kernel
theorem dX5_asked_10 : decode cX5_asked 10 = .ok (.aload_n 0, 1) := by decide +kernel
theorem dX5_asked_11 : decode cX5_asked 11 = .ok (.iload_n 1, 1) := by decide +kernel
theorem dX5_asked_12 : decode cX5_asked 12 = .ok (.iload_n 2, 1) := by decide +kernel
theorem dX5_asked_13 : decode cX5_asked 13 = .ok (.iload_n 3, 1) := by decide +kernel
theorem dX5_asked_14 : decode cX5_asked 14 = .ok (.invokevirtual 100, 3) := by decide +kernel
theorem dX5_asked_17 : decode cX5_asked 17 = .ok (.return_, 1) := by decide +kernel
theorem dX5_asked_18 : decode cX5_asked 18 = .ok (.aload_n 0, 1) := by decide +kernel
theorem dX5_asked_19 : decode cX5_asked 19 = .ok (.getfield 38, 3) := by decide +kernel
theorem dX5_asked_22 : decode cX5_asked 22 = .ok (.iload_n 1, 1) := by decide +kernel
theorem dX5_asked_23 : decode cX5_asked 23 = .ok (.iaload, 1) := by decide +kernel
theorem dX5_asked_24 : decode cX5_asked 24 = .ok (.ifCond .le 7, 3) := by decide +kernel
theorem dX5_asked_27 : decode cX5_asked 27 = .ok (.iconst 1, 1) := by decide +kernel
theorem dX5_asked_28 : decode cX5_asked 28 = .ok (.goto 4, 3) := by decide +kernel
theorem dX5_asked_31 : decode cX5_asked 31 = .ok (.iconst 0, 1) := by decide +kernel
theorem dX5_asked_32 : decode cX5_asked 32 = .ok (.istore 4, 2) := by decide +kernel
theorem dX5_asked_34 : decode cX5_asked 34 = .ok (.aload_n 0, 1) := by decide +kernel
theorem dX5_asked_35 : decode cX5_asked 35 = .ok (.getfield 41, 3) := by decide +kernel
theorem dX5_asked_38 : decode cX5_asked 38 = .ok (.bipush 64, 2) := by decide +kernel
theorem dX5_asked_40 : decode cX5_asked 40 = .ok (.iload_n 1, 1) := by decide +kernel
theorem dX5_asked_41 : decode cX5_asked 41 = .ok (.imul, 1) := by decide +kernel
theorem dX5_asked_42 : decode cX5_asked 42 = .ok (.iaload, 1) := by decide +kernel
theorem dX5_asked_43 : decode cX5_asked 43 = .ok (.istore 5, 2) := by decide +kernel
theorem dX5_asked_45 : decode cX5_asked 45 = .ok (.aload_n 0, 1) := by decide +kernel
theorem dX5_asked_46 : decode cX5_asked 46 = .ok (.getfield 44, 3) := by decide +kernel
theorem dX5_asked_49 : decode cX5_asked 49 = .ok (.bipush 64, 2) := by decide +kernel
theorem dX5_asked_51 : decode cX5_asked 51 = .ok (.iload_n 1, 1) := by decide +kernel
theorem dX5_asked_52 : decode cX5_asked 52 = .ok (.imul, 1) := by decide +kernel
theorem dX5_asked_53 : decode cX5_asked 53 = .ok (.iaload, 1) := by decide +kernel
theorem dX5_asked_54 : decode cX5_asked 54 = .ok (.istore 6, 2) := by decide +kernel
theorem dX5_asked_56 : decode cX5_asked 56 = .ok (.aload_n 0, 1) := by decide +kernel
theorem dX5_asked_57 : decode cX5_asked 57 = .ok (.iload_n 1, 1) := by decide +kernel
theorem dX5_asked_58 : decode cX5_asked 58 = .ok (.iload_n 2, 1) := by decide +kernel
theorem dX5_asked_59 : decode cX5_asked 59 = .ok (.iload_n 3, 1) := by decide +kernel
theorem dX5_asked_60 : decode cX5_asked 60 = .ok (.invokevirtual 103, 3) := by decide +kernel
theorem dX5_asked_63 : decode cX5_asked 63 = .ok (.ifCond .ne 98, 3) := by decide +kernel
theorem dX5_asked_66 : decode cX5_asked 66 = .ok (.iload_n 3, 1) := by decide +kernel
theorem dX5_asked_67 : decode cX5_asked 67 = .ok (.iload_n 2, 1) := by decide +kernel
theorem dX5_asked_68 : decode cX5_asked 68 = .ok (.aload_n 0, 1) := by decide +kernel
theorem dX5_asked_69 : decode cX5_asked 69 = .ok (.getfield 31, 3) := by decide +kernel
theorem dX5_asked_72 : decode cX5_asked 72 = .ok (.iload_n 1, 1) := by decide +kernel
theorem dX5_asked_73 : decode cX5_asked 73 = .ok (.iaload, 1) := by decide +kernel
theorem dX5_asked_74 : decode cX5_asked 74 = .ok (.aload_n 0, 1) := by decide +kernel
theorem dX5_asked_75 : decode cX5_asked 75 = .ok (.getfield 28, 3) := by decide +kernel
theorem dX5_asked_78 : decode cX5_asked 78 = .ok (.iload_n 1, 1) := by decide +kernel
theorem dX5_asked_79 : decode cX5_asked 79 = .ok (.iaload, 1) := by decide +kernel
theorem dX5_asked_80 : decode cX5_asked 80 = .ok (.invokestatic 96, 3) := by decide +kernel
theorem dX5_asked_83 : decode cX5_asked 83 = .ok (.ifCond .eq 78, 3) := by decide +kernel
theorem dX5_asked_86 : decode cX5_asked 86 = .ok (.iload 4, 2) := by decide +kernel
theorem dX5_asked_88 : decode cX5_asked 88 = .ok (.ifCond .eq 36, 3) := by decide +kernel
theorem dX5_asked_91 : decode cX5_asked 91 = .ok (.iload 6, 2) := by decide +kernel
theorem dX5_asked_93 : decode cX5_asked 93 = .ok (.iload 5, 2) := by decide +kernel
theorem dX5_asked_95 : decode cX5_asked 95 = .ok (.aload_n 0, 1) := by decide +kernel
theorem dX5_asked_96 : decode cX5_asked 96 = .ok (.getfield 31, 3) := by decide +kernel
theorem dX5_asked_99 : decode cX5_asked 99 = .ok (.iload_n 1, 1) := by decide +kernel
theorem dX5_asked_100 : decode cX5_asked 100 = .ok (.iaload, 1) := by decide +kernel
theorem dX5_asked_101 : decode cX5_asked 101 = .ok (.aload_n 0, 1) := by decide +kernel
theorem dX5_asked_102 : decode cX5_asked 102 = .ok (.getfield 28, 3) := by decide +kernel
theorem dX5_asked_105 : decode cX5_asked 105 = .ok (.iload_n 1, 1) := by decide +kernel
theorem dX5_asked_106 : decode cX5_asked 106 = .ok (.iaload, 1) := by decide +kernel
theorem dX5_asked_107 : decode cX5_asked 107 = .ok (.invokestatic 96, 3) := by decide +kernel
theorem dX5_asked_110 : decode cX5_asked 110 = .ok (.ifCond .eq 14, 3) := by decide +kernel
theorem dX5_asked_113 : decode cX5_asked 113 = .ok (.aload_n 0, 1) := by decide +kernel
theorem dX5_asked_114 : decode cX5_asked 114 = .ok (.iload_n 1, 1) := by decide +kernel
theorem dX5_asked_115 : decode cX5_asked 115 = .ok (.iload 5, 2) := by decide +kernel
theorem dX5_asked_117 : decode cX5_asked 117 = .ok (.bipush 6, 2) := by decide +kernel
theorem dX5_asked_119 : decode cX5_asked 119 = .ok (.iload 6, 2) := by decide +kernel
theorem dX5_asked_121 : decode cX5_asked 121 = .ok (.invokevirtual 76, 3) := by decide +kernel
theorem dX5_asked_124 : decode cX5_asked 124 = .ok (.aload_n 0, 1) := by decide +kernel
theorem dX5_asked_125 : decode cX5_asked 125 = .ok (.getfield 34, 3) := by decide +kernel
theorem dX5_asked_128 : decode cX5_asked 128 = .ok (.iload_n 1, 1) := by decide +kernel
theorem dX5_asked_129 : decode cX5_asked 129 = .ok (.baload, 1) := by decide +kernel
theorem dX5_asked_130 : decode cX5_asked 130 = .ok (.ifCond .ne 40, 3) := by decide +kernel
theorem dX5_asked_133 : decode cX5_asked 133 = .ok (.aload_n 0, 1) := by decide +kernel
theorem dX5_asked_134 : decode cX5_asked 134 = .ok (.getfield 34, 3) := by decide +kernel
theorem dX5_asked_137 : decode cX5_asked 137 = .ok (.iload_n 1, 1) := by decide +kernel
theorem dX5_asked_138 : decode cX5_asked 138 = .ok (.iconst 1, 1) := by decide +kernel
theorem dX5_asked_139 : decode cX5_asked 139 = .ok (.bastore, 1) := by decide +kernel
theorem dX5_asked_140 : decode cX5_asked 140 = .ok (.aload_n 0, 1) := by decide +kernel
theorem dX5_asked_141 : decode cX5_asked 141 = .ok (.iload_n 1, 1) := by decide +kernel
theorem dX5_asked_142 : decode cX5_asked 142 = .ok (.aload_n 0, 1) := by decide +kernel
theorem dX5_asked_143 : decode cX5_asked 143 = .ok (.getfield 28, 3) := by decide +kernel
theorem dX5_asked_146 : decode cX5_asked 146 = .ok (.iload_n 1, 1) := by decide +kernel
theorem dX5_asked_147 : decode cX5_asked 147 = .ok (.iaload, 1) := by decide +kernel
theorem dX5_asked_148 : decode cX5_asked 148 = .ok (.iconst 4, 1) := by decide +kernel
theorem dX5_asked_149 : decode cX5_asked 149 = .ok (.aload_n 0, 1) := by decide +kernel
theorem dX5_asked_150 : decode cX5_asked 150 = .ok (.getfield 31, 3) := by decide +kernel
theorem dX5_asked_153 : decode cX5_asked 153 = .ok (.iload_n 1, 1) := by decide +kernel
theorem dX5_asked_154 : decode cX5_asked 154 = .ok (.iaload, 1) := by decide +kernel
theorem dX5_asked_155 : decode cX5_asked 155 = .ok (.invokevirtual 76, 3) := by decide +kernel
theorem dX5_asked_158 : decode cX5_asked 158 = .ok (.goto 12, 3) := by decide +kernel
theorem dX5_asked_161 : decode cX5_asked 161 = .ok (.aload_n 0, 1) := by decide +kernel
theorem dX5_asked_162 : decode cX5_asked 162 = .ok (.iload_n 1, 1) := by decide +kernel
theorem dX5_asked_163 : decode cX5_asked 163 = .ok (.iload_n 2, 1) := by decide +kernel
theorem dX5_asked_164 : decode cX5_asked 164 = .ok (.bipush 6, 2) := by decide +kernel
theorem dX5_asked_166 : decode cX5_asked 166 = .ok (.iload_n 3, 1) := by decide +kernel
theorem dX5_asked_167 : decode cX5_asked 167 = .ok (.invokevirtual 76, 3) := by decide +kernel
theorem dX5_asked_170 : decode cX5_asked 170 = .ok (.return_, 1) := by decide +kernel
set_option maxRecDepth 20000 in
theorem ggX5_home_X5_line : GoodIn wsX5_home wsX5_line := goodIn_r _ [11, 4, 6, 5, 12, 13, 10, 14, 28, 29, 30, 31, 32, 33, 34, 35, 36, 37, 38, 39, 40, 41, 42, 43, 44, 45, 46] (by decide +kernel) (by decide +kernel)
set_option maxRecDepth 20000 in
theorem gX5_home_X5_line : GoodIn wsX5_home (wsV RX5 103 RX5 yX5_line wsX5_line) := goodIn_app (goodIn_of _ (by decide +kernel)) ggX5_home_X5_line
set_option maxRecDepth 20000 in
theorem ggX5_home_X5_lend : GoodIn wsX5_home wsX5_lend := goodIn_r _ [18, 1, 2, 3, 19, 20, 21, 10, 22, 23, 24, 25, 26, 27, 28, 29, 30, 31, 32, 33, 34, 35, 36, 37, 38, 39, 40, 41, 42, 43, 44, 45, 46] (by decide +kernel) (by decide +kernel)
set_option maxRecDepth 20000 in
theorem gX5_home_X5_lend : GoodIn wsX5_home (wsV RX5 100 RX5 yX5_lend wsX5_lend) := goodIn_app (goodIn_of _ (by decide +kernel)) ggX5_home_X5_lend
theorem dX5_home_0 : decode cX5_home 0 = .ok (.aload_n 0, 1) := by decide +kernel
theorem dX5_home_1 : decode cX5_home 1 = .ok (.getfield 28, 3) := by decide +kernel
theorem dX5_home_4 : decode cX5_home 4 = .ok (.iload_n 1, 1) := by decide +kernel
theorem dX5_home_5 : decode cX5_home 5 = .ok (.iaload, 1) := by decide +kernel
theorem dX5_home_6 : decode cX5_home 6 = .ok (.iload_n 2, 1) := by decide +kernel
theorem dX5_home_7 : decode cX5_home 7 = .ok (.if_icmp .ne 13, 3) := by decide +kernel
theorem dX5_home_10 : decode cX5_home 10 = .ok (.aload_n 0, 1) := by decide +kernel
theorem dX5_home_11 : decode cX5_home 11 = .ok (.getfield 31, 3) := by decide +kernel
theorem dX5_home_14 : decode cX5_home 14 = .ok (.iload_n 1, 1) := by decide +kernel
theorem dX5_home_15 : decode cX5_home 15 = .ok (.iaload, 1) := by decide +kernel
theorem dX5_home_16 : decode cX5_home 16 = .ok (.iload_n 3, 1) := by decide +kernel
theorem dX5_home_17 : decode cX5_home 17 = .ok (.if_icmp .eq 4, 3) := by decide +kernel
theorem dX5_home_20 : decode cX5_home 20 = .ok (.return_, 1) := by decide +kernel
theorem dX5_home_21 : decode cX5_home 21 = .ok (.iload 4, 2) := by decide +kernel
theorem dX5_home_23 : decode cX5_home 23 = .ok (.ifCond .eq 12, 3) := by decide +kernel
theorem dX5_home_26 : decode cX5_home 26 = .ok (.aload_n 0, 1) := by decide +kernel
theorem dX5_home_27 : decode cX5_home 27 = .ok (.iload_n 1, 1) := by decide +kernel
theorem dX5_home_28 : decode cX5_home 28 = .ok (.iload_n 2, 1) := by decide +kernel
theorem dX5_home_29 : decode cX5_home 29 = .ok (.iload_n 3, 1) := by decide +kernel
theorem dX5_home_30 : decode cX5_home 30 = .ok (.invokevirtual 103, 3) := by decide +kernel
theorem dX5_home_33 : decode cX5_home 33 = .ok (.istore 5, 2) := by decide +kernel
theorem dX5_home_35 : decode cX5_home 35 = .ok (.aload_n 0, 1) := by decide +kernel
theorem dX5_home_36 : decode cX5_home 36 = .ok (.getfield 28, 3) := by decide +kernel
theorem dX5_home_39 : decode cX5_home 39 = .ok (.iload_n 1, 1) := by decide +kernel
theorem dX5_home_40 : decode cX5_home 40 = .ok (.iconst (-1), 1) := by decide +kernel
theorem dX5_home_41 : decode cX5_home 41 = .ok (.iastore, 1) := by decide +kernel
theorem dX5_home_42 : decode cX5_home 42 = .ok (.aload_n 0, 1) := by decide +kernel
theorem dX5_home_43 : decode cX5_home 43 = .ok (.getfield 34, 3) := by decide +kernel
theorem dX5_home_46 : decode cX5_home 46 = .ok (.iload_n 1, 1) := by decide +kernel
theorem dX5_home_47 : decode cX5_home 47 = .ok (.iconst 0, 1) := by decide +kernel
theorem dX5_home_48 : decode cX5_home 48 = .ok (.bastore, 1) := by decide +kernel
theorem dX5_home_49 : decode cX5_home 49 = .ok (.aload_n 0, 1) := by decide +kernel
theorem dX5_home_50 : decode cX5_home 50 = .ok (.getfield 38, 3) := by decide +kernel
theorem dX5_home_53 : decode cX5_home 53 = .ok (.iload_n 1, 1) := by decide +kernel
theorem dX5_home_54 : decode cX5_home 54 = .ok (.iaload, 1) := by decide +kernel
theorem dX5_home_55 : decode cX5_home 55 = .ok (.ifCond .le 116, 3) := by decide +kernel
theorem dX5_home_58 : decode cX5_home 58 = .ok (.aload_n 0, 1) := by decide +kernel
theorem dX5_home_59 : decode cX5_home 59 = .ok (.getfield 41, 3) := by decide +kernel
theorem dX5_home_62 : decode cX5_home 62 = .ok (.bipush 64, 2) := by decide +kernel
theorem dX5_home_64 : decode cX5_home 64 = .ok (.iload_n 1, 1) := by decide +kernel
theorem dX5_home_65 : decode cX5_home 65 = .ok (.imul, 1) := by decide +kernel
theorem dX5_home_66 : decode cX5_home 66 = .ok (.iaload, 1) := by decide +kernel
theorem dX5_home_67 : decode cX5_home 67 = .ok (.istore 5, 2) := by decide +kernel
theorem dX5_home_69 : decode cX5_home 69 = .ok (.aload_n 0, 1) := by decide +kernel
theorem dX5_home_70 : decode cX5_home 70 = .ok (.getfield 44, 3) := by decide +kernel
theorem dX5_home_73 : decode cX5_home 73 = .ok (.bipush 64, 2) := by decide +kernel
theorem dX5_home_75 : decode cX5_home 75 = .ok (.iload_n 1, 1) := by decide +kernel
theorem dX5_home_76 : decode cX5_home 76 = .ok (.imul, 1) := by decide +kernel
theorem dX5_home_77 : decode cX5_home 77 = .ok (.iaload, 1) := by decide +kernel
theorem dX5_home_78 : decode cX5_home 78 = .ok (.istore 6, 2) := by decide +kernel
theorem dX5_home_80 : decode cX5_home 80 = .ok (.aload_n 0, 1) := by decide +kernel
theorem dX5_home_81 : decode cX5_home 81 = .ok (.getfield 38, 3) := by decide +kernel
theorem dX5_home_84 : decode cX5_home 84 = .ok (.iload_n 1, 1) := by decide +kernel
theorem dX5_home_85 : decode cX5_home 85 = .ok (.dup2, 1) := by decide +kernel
theorem dX5_home_86 : decode cX5_home 86 = .ok (.iaload, 1) := by decide +kernel
theorem dX5_home_87 : decode cX5_home 87 = .ok (.iconst 1, 1) := by decide +kernel
theorem dX5_home_88 : decode cX5_home 88 = .ok (.isub, 1) := by decide +kernel
theorem dX5_home_89 : decode cX5_home 89 = .ok (.iastore, 1) := by decide +kernel
theorem dX5_home_90 : decode cX5_home 90 = .ok (.iconst 0, 1) := by decide +kernel
theorem dX5_home_91 : decode cX5_home 91 = .ok (.istore 7, 2) := by decide +kernel
theorem dX5_home_93 : decode cX5_home 93 = .ok (.iload 7, 2) := by decide +kernel
theorem dX5_home_95 : decode cX5_home 95 = .ok (.aload_n 0, 1) := by decide +kernel
theorem dX5_home_96 : decode cX5_home 96 = .ok (.getfield 38, 3) := by decide +kernel
theorem dX5_home_99 : decode cX5_home 99 = .ok (.iload_n 1, 1) := by decide +kernel
theorem dX5_home_100 : decode cX5_home 100 = .ok (.iaload, 1) := by decide +kernel
theorem dX5_home_101 : decode cX5_home 101 = .ok (.if_icmp .ge 61, 3) := by decide +kernel
theorem dX5_home_104 : decode cX5_home 104 = .ok (.aload_n 0, 1) := by decide +kernel
theorem dX5_home_105 : decode cX5_home 105 = .ok (.getfield 41, 3) := by decide +kernel
theorem dX5_home_108 : decode cX5_home 108 = .ok (.bipush 64, 2) := by decide +kernel
theorem dX5_home_110 : decode cX5_home 110 = .ok (.iload_n 1, 1) := by decide +kernel
theorem dX5_home_111 : decode cX5_home 111 = .ok (.imul, 1) := by decide +kernel
theorem dX5_home_112 : decode cX5_home 112 = .ok (.iload 7, 2) := by decide +kernel
theorem dX5_home_114 : decode cX5_home 114 = .ok (.iadd, 1) := by decide +kernel
theorem dX5_home_115 : decode cX5_home 115 = .ok (.aload_n 0, 1) := by decide +kernel
theorem dX5_home_116 : decode cX5_home 116 = .ok (.getfield 41, 3) := by decide +kernel
theorem dX5_home_119 : decode cX5_home 119 = .ok (.bipush 64, 2) := by decide +kernel
theorem dX5_home_121 : decode cX5_home 121 = .ok (.iload_n 1, 1) := by decide +kernel
theorem dX5_home_122 : decode cX5_home 122 = .ok (.imul, 1) := by decide +kernel
theorem dX5_home_123 : decode cX5_home 123 = .ok (.iload 7, 2) := by decide +kernel
theorem dX5_home_125 : decode cX5_home 125 = .ok (.iadd, 1) := by decide +kernel
theorem dX5_home_126 : decode cX5_home 126 = .ok (.iconst 1, 1) := by decide +kernel
theorem dX5_home_127 : decode cX5_home 127 = .ok (.iadd, 1) := by decide +kernel
theorem dX5_home_128 : decode cX5_home 128 = .ok (.iaload, 1) := by decide +kernel
theorem dX5_home_129 : decode cX5_home 129 = .ok (.iastore, 1) := by decide +kernel
theorem dX5_home_130 : decode cX5_home 130 = .ok (.aload_n 0, 1) := by decide +kernel
theorem dX5_home_131 : decode cX5_home 131 = .ok (.getfield 44, 3) := by decide +kernel
theorem dX5_home_134 : decode cX5_home 134 = .ok (.bipush 64, 2) := by decide +kernel
theorem dX5_home_136 : decode cX5_home 136 = .ok (.iload_n 1, 1) := by decide +kernel
theorem dX5_home_137 : decode cX5_home 137 = .ok (.imul, 1) := by decide +kernel
theorem dX5_home_138 : decode cX5_home 138 = .ok (.iload 7, 2) := by decide +kernel
theorem dX5_home_140 : decode cX5_home 140 = .ok (.iadd, 1) := by decide +kernel
theorem dX5_home_141 : decode cX5_home 141 = .ok (.aload_n 0, 1) := by decide +kernel
theorem dX5_home_142 : decode cX5_home 142 = .ok (.getfield 44, 3) := by decide +kernel
theorem dX5_home_145 : decode cX5_home 145 = .ok (.bipush 64, 2) := by decide +kernel
theorem dX5_home_147 : decode cX5_home 147 = .ok (.iload_n 1, 1) := by decide +kernel
theorem dX5_home_148 : decode cX5_home 148 = .ok (.imul, 1) := by decide +kernel
theorem dX5_home_149 : decode cX5_home 149 = .ok (.iload 7, 2) := by decide +kernel
theorem dX5_home_151 : decode cX5_home 151 = .ok (.iadd, 1) := by decide +kernel
theorem dX5_home_152 : decode cX5_home 152 = .ok (.iconst 1, 1) := by decide +kernel
theorem dX5_home_153 : decode cX5_home 153 = .ok (.iadd, 1) := by decide +kernel
theorem dX5_home_154 : decode cX5_home 154 = .ok (.iaload, 1) := by decide +kernel
theorem dX5_home_155 : decode cX5_home 155 = .ok (.iastore, 1) := by decide +kernel
theorem dX5_home_156 : decode cX5_home 156 = .ok (.iinc 7 1, 3) := by decide +kernel
theorem dX5_home_159 : decode cX5_home 159 = .ok (.goto (-66), 3) := by decide +kernel
theorem dX5_home_162 : decode cX5_home 162 = .ok (.aload_n 0, 1) := by decide +kernel
theorem dX5_home_163 : decode cX5_home 163 = .ok (.iload_n 1, 1) := by decide +kernel
theorem dX5_home_164 : decode cX5_home 164 = .ok (.iload 5, 2) := by decide +kernel
theorem dX5_home_166 : decode cX5_home 166 = .ok (.iload 6, 2) := by decide +kernel
theorem dX5_home_168 : decode cX5_home 168 = .ok (.invokevirtual 100, 3) := by decide +kernel
theorem dX5_home_171 : decode cX5_home 171 = .ok (.return_, 1) := by decide +kernel
set_option maxRecDepth 20000 in
theorem ggX5_deliver_X5_isNode : GoodIn wsX5_deliver wsX5_isNode := goodIn_r _ [10, 11, 54, 55, 56, 57, 58, 59, 60, 61, 62, 63, 64, 65, 66, 67, 68, 69, 70, 71, 72] (by decide +kernel) (by decide +kernel)
set_option maxRecDepth 20000 in
theorem gX5_deliver_X5_isNode : GoodIn wsX5_deliver (wsV RX5 80 RX5 yX5_isNode wsX5_isNode) := goodIn_app (goodIn_of _ (by decide +kernel)) ggX5_deliver_X5_isNode
set_option maxRecDepth 20000 in
theorem ggX5_deliver_X5_asked : GoodIn wsX5_deliver wsX5_asked := goodIn_r _ [15, 16, 17, 18, 19, 20, 21, 22, 23, 24, 9, 25, 26, 27, 28, 29, 1, 2, 3, 4, 5, 30, 31, 32, 33, 34, 35, 36, 54, 55, 56, 57, 58, 59, 60, 61, 62, 63, 64, 65, 66, 67, 68, 69, 70, 71, 72] (by decide +kernel) (by decide +kernel)
set_option maxRecDepth 20000 in
theorem gX5_deliver_X5_asked : GoodIn wsX5_deliver (wsV RX5 107 RX5 yX5_asked wsX5_asked) := goodIn_app (goodIn_of _ (by decide +kernel)) ggX5_deliver_X5_asked
set_option maxRecDepth 20000 in
theorem ggX5_deliver_X5_home : GoodIn wsX5_deliver wsX5_home := goodIn_r _ [40, 16, 20, 21, 17, 18, 19, 30, 31, 32, 9, 33, 34, 35, 36, 22, 23, 24, 25, 26, 27, 28, 29, 1, 2, 3, 4, 5, 54, 55, 56, 57, 58, 59, 60, 61, 62, 63, 64, 65, 66, 67, 68, 69, 70, 71, 72] (by decide +kernel) (by decide +kernel)
set_option maxRecDepth 20000 in
theorem gX5_deliver_X5_home : GoodIn wsX5_deliver (wsV RX5 110 RX5 yX5_home wsX5_home) := goodIn_app (goodIn_of _ (by decide +kernel)) ggX5_deliver_X5_home
set_option maxRecDepth 20000 in
theorem ggX5_deliver_X5_answer : GoodIn wsX5_deliver wsX5_answer := goodIn_r _ [44, 45, 46, 47, 48, 11, 49, 50, 51, 52, 9, 53, 26, 27, 28, 29, 1, 2, 3, 4, 5, 54, 55, 56, 57, 58, 59, 60, 61, 62, 63, 64, 65, 66, 67, 68, 69, 70, 71, 72] (by decide +kernel) (by decide +kernel)
set_option maxRecDepth 20000 in
theorem gX5_deliver_X5_answer : GoodIn wsX5_deliver (wsV RX5 114 RX5 yX5_answer wsX5_answer) := goodIn_app (goodIn_of _ (by decide +kernel)) ggX5_deliver_X5_answer
theorem dX5_deliver_0 : decode cX5_deliver 0 = .ok (.aload_n 0, 1) := by decide +kernel
theorem dX5_deliver_1 : decode cX5_deliver 1 = .ok (.iload_n 1, 1) := by decide +kernel
theorem dX5_deliver_2 : decode cX5_deliver 2 = .ok (.invokevirtual 80, 3) := by decide +kernel
theorem dX5_deliver_5 : decode cX5_deliver 5 = .ok (.ifCond .eq 11, 3) := by decide +kernel
theorem dX5_deliver_8 : decode cX5_deliver 8 = .ok (.aload_n 0, 1) := by decide +kernel
theorem dX5_deliver_9 : decode cX5_deliver 9 = .ok (.iload_n 2, 1) := by decide +kernel
theorem dX5_deliver_10 : decode cX5_deliver 10 = .ok (.invokevirtual 80, 3) := by decide +kernel
theorem dX5_deliver_13 : decode cX5_deliver 13 = .ok (.ifCond .ne 5, 3) := by decide +kernel
theorem dX5_deliver_16 : decode cX5_deliver 16 = .ok (.iconst (-1), 1) := by decide +kernel
theorem dX5_deliver_17 : decode cX5_deliver 17 = .ok (.ireturn, 1) := by decide +kernel
theorem dX5_deliver_18 : decode cX5_deliver 18 = .ok (.bipush 16, 2) := by decide +kernel
theorem dX5_deliver_20 : decode cX5_deliver 20 = .ok (.iload_n 1, 1) := by decide +kernel
theorem dX5_deliver_21 : decode cX5_deliver 21 = .ok (.imul, 1) := by decide +kernel
theorem dX5_deliver_22 : decode cX5_deliver 22 = .ok (.iload_n 2, 1) := by decide +kernel
theorem dX5_deliver_23 : decode cX5_deliver 23 = .ok (.iadd, 1) := by decide +kernel
theorem dX5_deliver_24 : decode cX5_deliver 24 = .ok (.istore_n 3, 1) := by decide +kernel
theorem dX5_deliver_25 : decode cX5_deliver 25 = .ok (.aload_n 0, 1) := by decide +kernel
theorem dX5_deliver_26 : decode cX5_deliver 26 = .ok (.getfield 47, 3) := by decide +kernel
theorem dX5_deliver_29 : decode cX5_deliver 29 = .ok (.iload_n 3, 1) := by decide +kernel
theorem dX5_deliver_30 : decode cX5_deliver 30 = .ok (.iaload, 1) := by decide +kernel
theorem dX5_deliver_31 : decode cX5_deliver 31 = .ok (.ifCond .ne 5, 3) := by decide +kernel
theorem dX5_deliver_34 : decode cX5_deliver 34 = .ok (.iconst 0, 1) := by decide +kernel
theorem dX5_deliver_35 : decode cX5_deliver 35 = .ok (.ireturn, 1) := by decide +kernel
theorem dX5_deliver_36 : decode cX5_deliver 36 = .ok (.bipush 64, 2) := by decide +kernel
theorem dX5_deliver_38 : decode cX5_deliver 38 = .ok (.iload_n 3, 1) := by decide +kernel
theorem dX5_deliver_39 : decode cX5_deliver 39 = .ok (.imul, 1) := by decide +kernel
theorem dX5_deliver_40 : decode cX5_deliver 40 = .ok (.istore 4, 2) := by decide +kernel
theorem dX5_deliver_42 : decode cX5_deliver 42 = .ok (.aload_n 0, 1) := by decide +kernel
theorem dX5_deliver_43 : decode cX5_deliver 43 = .ok (.getfield 50, 3) := by decide +kernel
theorem dX5_deliver_46 : decode cX5_deliver 46 = .ok (.iload 4, 2) := by decide +kernel
theorem dX5_deliver_48 : decode cX5_deliver 48 = .ok (.iaload, 1) := by decide +kernel
theorem dX5_deliver_49 : decode cX5_deliver 49 = .ok (.istore 5, 2) := by decide +kernel
theorem dX5_deliver_51 : decode cX5_deliver 51 = .ok (.aload_n 0, 1) := by decide +kernel
theorem dX5_deliver_52 : decode cX5_deliver 52 = .ok (.getfield 53, 3) := by decide +kernel
theorem dX5_deliver_55 : decode cX5_deliver 55 = .ok (.iload 4, 2) := by decide +kernel
theorem dX5_deliver_57 : decode cX5_deliver 57 = .ok (.iaload, 1) := by decide +kernel
theorem dX5_deliver_58 : decode cX5_deliver 58 = .ok (.istore 6, 2) := by decide +kernel
theorem dX5_deliver_60 : decode cX5_deliver 60 = .ok (.aload_n 0, 1) := by decide +kernel
theorem dX5_deliver_61 : decode cX5_deliver 61 = .ok (.getfield 56, 3) := by decide +kernel
theorem dX5_deliver_64 : decode cX5_deliver 64 = .ok (.iload 4, 2) := by decide +kernel
theorem dX5_deliver_66 : decode cX5_deliver 66 = .ok (.iaload, 1) := by decide +kernel
theorem dX5_deliver_67 : decode cX5_deliver 67 = .ok (.istore 7, 2) := by decide +kernel
theorem dX5_deliver_69 : decode cX5_deliver 69 = .ok (.aload_n 0, 1) := by decide +kernel
theorem dX5_deliver_70 : decode cX5_deliver 70 = .ok (.getfield 47, 3) := by decide +kernel
theorem dX5_deliver_73 : decode cX5_deliver 73 = .ok (.iload_n 3, 1) := by decide +kernel
theorem dX5_deliver_74 : decode cX5_deliver 74 = .ok (.dup2, 1) := by decide +kernel
theorem dX5_deliver_75 : decode cX5_deliver 75 = .ok (.iaload, 1) := by decide +kernel
theorem dX5_deliver_76 : decode cX5_deliver 76 = .ok (.iconst 1, 1) := by decide +kernel
theorem dX5_deliver_77 : decode cX5_deliver 77 = .ok (.isub, 1) := by decide +kernel
theorem dX5_deliver_78 : decode cX5_deliver 78 = .ok (.iastore, 1) := by decide +kernel
theorem dX5_deliver_79 : decode cX5_deliver 79 = .ok (.iconst 0, 1) := by decide +kernel
theorem dX5_deliver_80 : decode cX5_deliver 80 = .ok (.istore 8, 2) := by decide +kernel
theorem dX5_deliver_82 : decode cX5_deliver 82 = .ok (.iload 8, 2) := by decide +kernel
theorem dX5_deliver_84 : decode cX5_deliver 84 = .ok (.aload_n 0, 1) := by decide +kernel
theorem dX5_deliver_85 : decode cX5_deliver 85 = .ok (.getfield 47, 3) := by decide +kernel
theorem dX5_deliver_88 : decode cX5_deliver 88 = .ok (.iload_n 3, 1) := by decide +kernel
theorem dX5_deliver_89 : decode cX5_deliver 89 = .ok (.iaload, 1) := by decide +kernel
theorem dX5_deliver_90 : decode cX5_deliver 90 = .ok (.if_icmp .ge 75, 3) := by decide +kernel
theorem dX5_deliver_93 : decode cX5_deliver 93 = .ok (.aload_n 0, 1) := by decide +kernel
theorem dX5_deliver_94 : decode cX5_deliver 94 = .ok (.getfield 50, 3) := by decide +kernel
theorem dX5_deliver_97 : decode cX5_deliver 97 = .ok (.iload 4, 2) := by decide +kernel
theorem dX5_deliver_99 : decode cX5_deliver 99 = .ok (.iload 8, 2) := by decide +kernel
theorem dX5_deliver_101 : decode cX5_deliver 101 = .ok (.iadd, 1) := by decide +kernel
theorem dX5_deliver_102 : decode cX5_deliver 102 = .ok (.aload_n 0, 1) := by decide +kernel
theorem dX5_deliver_103 : decode cX5_deliver 103 = .ok (.getfield 50, 3) := by decide +kernel
theorem dX5_deliver_106 : decode cX5_deliver 106 = .ok (.iload 4, 2) := by decide +kernel
theorem dX5_deliver_108 : decode cX5_deliver 108 = .ok (.iload 8, 2) := by decide +kernel
theorem dX5_deliver_110 : decode cX5_deliver 110 = .ok (.iadd, 1) := by decide +kernel
theorem dX5_deliver_111 : decode cX5_deliver 111 = .ok (.iconst 1, 1) := by decide +kernel
theorem dX5_deliver_112 : decode cX5_deliver 112 = .ok (.iadd, 1) := by decide +kernel
theorem dX5_deliver_113 : decode cX5_deliver 113 = .ok (.iaload, 1) := by decide +kernel
theorem dX5_deliver_114 : decode cX5_deliver 114 = .ok (.iastore, 1) := by decide +kernel
theorem dX5_deliver_115 : decode cX5_deliver 115 = .ok (.aload_n 0, 1) := by decide +kernel
theorem dX5_deliver_116 : decode cX5_deliver 116 = .ok (.getfield 53, 3) := by decide +kernel
theorem dX5_deliver_119 : decode cX5_deliver 119 = .ok (.iload 4, 2) := by decide +kernel
theorem dX5_deliver_121 : decode cX5_deliver 121 = .ok (.iload 8, 2) := by decide +kernel
theorem dX5_deliver_123 : decode cX5_deliver 123 = .ok (.iadd, 1) := by decide +kernel
theorem dX5_deliver_124 : decode cX5_deliver 124 = .ok (.aload_n 0, 1) := by decide +kernel
theorem dX5_deliver_125 : decode cX5_deliver 125 = .ok (.getfield 53, 3) := by decide +kernel
theorem dX5_deliver_128 : decode cX5_deliver 128 = .ok (.iload 4, 2) := by decide +kernel
theorem dX5_deliver_130 : decode cX5_deliver 130 = .ok (.iload 8, 2) := by decide +kernel
theorem dX5_deliver_132 : decode cX5_deliver 132 = .ok (.iadd, 1) := by decide +kernel
theorem dX5_deliver_133 : decode cX5_deliver 133 = .ok (.iconst 1, 1) := by decide +kernel
theorem dX5_deliver_134 : decode cX5_deliver 134 = .ok (.iadd, 1) := by decide +kernel
theorem dX5_deliver_135 : decode cX5_deliver 135 = .ok (.iaload, 1) := by decide +kernel
theorem dX5_deliver_136 : decode cX5_deliver 136 = .ok (.iastore, 1) := by decide +kernel
theorem dX5_deliver_137 : decode cX5_deliver 137 = .ok (.aload_n 0, 1) := by decide +kernel
theorem dX5_deliver_138 : decode cX5_deliver 138 = .ok (.getfield 56, 3) := by decide +kernel
theorem dX5_deliver_141 : decode cX5_deliver 141 = .ok (.iload 4, 2) := by decide +kernel
theorem dX5_deliver_143 : decode cX5_deliver 143 = .ok (.iload 8, 2) := by decide +kernel
theorem dX5_deliver_145 : decode cX5_deliver 145 = .ok (.iadd, 1) := by decide +kernel
theorem dX5_deliver_146 : decode cX5_deliver 146 = .ok (.aload_n 0, 1) := by decide +kernel
theorem dX5_deliver_147 : decode cX5_deliver 147 = .ok (.getfield 56, 3) := by decide +kernel
theorem dX5_deliver_150 : decode cX5_deliver 150 = .ok (.iload 4, 2) := by decide +kernel
theorem dX5_deliver_152 : decode cX5_deliver 152 = .ok (.iload 8, 2) := by decide +kernel
theorem dX5_deliver_154 : decode cX5_deliver 154 = .ok (.iadd, 1) := by decide +kernel
theorem dX5_deliver_155 : decode cX5_deliver 155 = .ok (.iconst 1, 1) := by decide +kernel
theorem dX5_deliver_156 : decode cX5_deliver 156 = .ok (.iadd, 1) := by decide +kernel
theorem dX5_deliver_157 : decode cX5_deliver 157 = .ok (.iaload, 1) := by decide +kernel
theorem dX5_deliver_158 : decode cX5_deliver 158 = .ok (.iastore, 1) := by decide +kernel
theorem dX5_deliver_159 : decode cX5_deliver 159 = .ok (.iinc 8 1, 3) := by decide +kernel
theorem dX5_deliver_162 : decode cX5_deliver 162 = .ok (.goto (-80), 3) := by decide +kernel
theorem dX5_deliver_165 : decode cX5_deliver 165 = .ok (.aload_n 0, 1) := by decide +kernel
theorem dX5_deliver_166 : decode cX5_deliver 166 = .ok (.getfield 7, 3) := by decide +kernel
theorem dX5_deliver_169 : decode cX5_deliver 169 = .ok (.iload_n 2, 1) := by decide +kernel
theorem dX5_deliver_170 : decode cX5_deliver 170 = .ok (.iload 7, 2) := by decide +kernel
theorem dX5_deliver_172 : decode cX5_deliver 172 = .ok (.aload_n 0, 1) := by decide +kernel
theorem dX5_deliver_173 : decode cX5_deliver 173 = .ok (.getfield 7, 3) := by decide +kernel
theorem dX5_deliver_176 : decode cX5_deliver 176 = .ok (.iload_n 2, 1) := by decide +kernel
theorem dX5_deliver_177 : decode cX5_deliver 177 = .ok (.iaload, 1) := by decide +kernel
theorem dX5_deliver_178 : decode cX5_deliver 178 = .ok (.if_icmp .le 8, 3) := by decide +kernel
theorem dX5_deliver_181 : decode cX5_deliver 181 = .ok (.iload 7, 2) := by decide +kernel
theorem dX5_deliver_183 : decode cX5_deliver 183 = .ok (.goto 9, 3) := by decide +kernel
theorem dX5_deliver_186 : decode cX5_deliver 186 = .ok (.aload_n 0, 1) := by decide +kernel
theorem dX5_deliver_187 : decode cX5_deliver 187 = .ok (.getfield 7, 3) := by decide +kernel
theorem dX5_deliver_190 : decode cX5_deliver 190 = .ok (.iload_n 2, 1) := by decide +kernel
theorem dX5_deliver_191 : decode cX5_deliver 191 = .ok (.iaload, 1) := by decide +kernel
theorem dX5_deliver_192 : decode cX5_deliver 192 = .ok (.iconst 1, 1) := by decide +kernel
theorem dX5_deliver_193 : decode cX5_deliver 193 = .ok (.iadd, 1) := by decide +kernel
theorem dX5_deliver_194 : decode cX5_deliver 194 = .ok (.iastore, 1) := by decide +kernel
theorem dX5_deliver_195 : decode cX5_deliver 195 = .ok (.iload 5, 2) := by decide +kernel
theorem dX5_deliver_197 : decode cX5_deliver 197 = .ok (.iconst 1, 1) := by decide +kernel
theorem dX5_deliver_198 : decode cX5_deliver 198 = .ok (.if_icmp .ne 14, 3) := by decide +kernel
theorem dX5_deliver_201 : decode cX5_deliver 201 = .ok (.aload_n 0, 1) := by decide +kernel
theorem dX5_deliver_202 : decode cX5_deliver 202 = .ok (.iload_n 2, 1) := by decide +kernel
theorem dX5_deliver_203 : decode cX5_deliver 203 = .ok (.iload_n 1, 1) := by decide +kernel
theorem dX5_deliver_204 : decode cX5_deliver 204 = .ok (.iload 6, 2) := by decide +kernel
theorem dX5_deliver_206 : decode cX5_deliver 206 = .ok (.invokevirtual 107, 3) := by decide +kernel
theorem dX5_deliver_209 : decode cX5_deliver 209 = .ok (.goto 47, 3) := by decide +kernel
theorem dX5_deliver_212 : decode cX5_deliver 212 = .ok (.iload 5, 2) := by decide +kernel
theorem dX5_deliver_214 : decode cX5_deliver 214 = .ok (.iconst 3, 1) := by decide +kernel
theorem dX5_deliver_215 : decode cX5_deliver 215 = .ok (.if_icmp .eq 9, 3) := by decide +kernel
theorem dX5_deliver_218 : decode cX5_deliver 218 = .ok (.iload 5, 2) := by decide +kernel
theorem dX5_deliver_220 : decode cX5_deliver 220 = .ok (.iconst 5, 1) := by decide +kernel
theorem dX5_deliver_221 : decode cX5_deliver 221 = .ok (.if_icmp .ne 25, 3) := by decide +kernel
theorem dX5_deliver_224 : decode cX5_deliver 224 = .ok (.aload_n 0, 1) := by decide +kernel
theorem dX5_deliver_225 : decode cX5_deliver 225 = .ok (.iload_n 2, 1) := by decide +kernel
theorem dX5_deliver_226 : decode cX5_deliver 226 = .ok (.iload_n 1, 1) := by decide +kernel
theorem dX5_deliver_227 : decode cX5_deliver 227 = .ok (.iload 6, 2) := by decide +kernel
theorem dX5_deliver_229 : decode cX5_deliver 229 = .ok (.iload 5, 2) := by decide +kernel
theorem dX5_deliver_231 : decode cX5_deliver 231 = .ok (.iconst 5, 1) := by decide +kernel
theorem dX5_deliver_232 : decode cX5_deliver 232 = .ok (.if_icmp .ne 7, 3) := by decide +kernel
theorem dX5_deliver_235 : decode cX5_deliver 235 = .ok (.iconst 1, 1) := by decide +kernel
theorem dX5_deliver_236 : decode cX5_deliver 236 = .ok (.goto 4, 3) := by decide +kernel
theorem dX5_deliver_239 : decode cX5_deliver 239 = .ok (.iconst 0, 1) := by decide +kernel
theorem dX5_deliver_240 : decode cX5_deliver 240 = .ok (.invokevirtual 110, 3) := by decide +kernel
theorem dX5_deliver_243 : decode cX5_deliver 243 = .ok (.goto 13, 3) := by decide +kernel
theorem dX5_deliver_246 : decode cX5_deliver 246 = .ok (.aload_n 0, 1) := by decide +kernel
theorem dX5_deliver_247 : decode cX5_deliver 247 = .ok (.iload_n 2, 1) := by decide +kernel
theorem dX5_deliver_248 : decode cX5_deliver 248 = .ok (.iload_n 1, 1) := by decide +kernel
theorem dX5_deliver_249 : decode cX5_deliver 249 = .ok (.iload 5, 2) := by decide +kernel
theorem dX5_deliver_251 : decode cX5_deliver 251 = .ok (.iload 6, 2) := by decide +kernel
theorem dX5_deliver_253 : decode cX5_deliver 253 = .ok (.invokevirtual 114, 3) := by decide +kernel
theorem dX5_deliver_256 : decode cX5_deliver 256 = .ok (.iload 5, 2) := by decide +kernel
theorem dX5_deliver_258 : decode cX5_deliver 258 = .ok (.ireturn, 1) := by decide +kernel
set_option maxRecDepth 20000 in
theorem ggX5_settle_X5_deliver : GoodIn wsX5_settle wsX5_deliver := goodIn_r _ [6, 1, 7, 8, 9, 10, 11, 12, 13, 5, 14, 15, 16, 17, 18, 19, 20, 21, 22, 23, 24, 25, 26, 27, 28, 29, 30, 31, 32, 33, 34, 35, 36, 37, 38, 39, 40, 41, 42, 43, 44, 45, 46, 47, 48, 49, 50, 51, 52, 53, 54, 55, 56, 57, 58, 59, 60, 61, 62, 63, 64, 65, 66, 67, 68, 69, 70, 71, 72, 73, 74, 75, 76] (by decide +kernel) (by decide +kernel)
set_option maxRecDepth 20000 in
theorem gX5_settle_X5_deliver : GoodIn wsX5_settle (wsV RX5 117 RX5 yX5_deliver wsX5_deliver) := goodIn_app (goodIn_of _ (by decide +kernel)) ggX5_settle_X5_deliver
theorem dX5_settle_0 : decode cX5_settle 0 = .ok (.iload_n 1, 1) := by decide +kernel
theorem dX5_settle_1 : decode cX5_settle 1 = .ok (.iconst 1, 1) := by decide +kernel
theorem dX5_settle_2 : decode cX5_settle 2 = .ok (.if_icmp .lt 10, 3) := by decide +kernel
theorem dX5_settle_5 : decode cX5_settle 5 = .ok (.iload_n 1, 1) := by decide +kernel
theorem dX5_settle_6 : decode cX5_settle 6 = .ok (.sipush 500, 3) := by decide +kernel
theorem dX5_settle_9 : decode cX5_settle 9 = .ok (.if_icmp .le 5, 3) := by decide +kernel
theorem dX5_settle_12 : decode cX5_settle 12 = .ok (.iconst (-1), 1) := by decide +kernel
theorem dX5_settle_13 : decode cX5_settle 13 = .ok (.ireturn, 1) := by decide +kernel
theorem dX5_settle_14 : decode cX5_settle 14 = .ok (.iconst 0, 1) := by decide +kernel
theorem dX5_settle_15 : decode cX5_settle 15 = .ok (.istore_n 2, 1) := by decide +kernel
theorem dX5_settle_16 : decode cX5_settle 16 = .ok (.iload_n 2, 1) := by decide +kernel
theorem dX5_settle_17 : decode cX5_settle 17 = .ok (.iload_n 1, 1) := by decide +kernel
theorem dX5_settle_18 : decode cX5_settle 18 = .ok (.if_icmp .ge 56, 3) := by decide +kernel
theorem dX5_settle_21 : decode cX5_settle 21 = .ok (.iconst 0, 1) := by decide +kernel
theorem dX5_settle_22 : decode cX5_settle 22 = .ok (.istore_n 3, 1) := by decide +kernel
theorem dX5_settle_23 : decode cX5_settle 23 = .ok (.iload_n 3, 1) := by decide +kernel
theorem dX5_settle_24 : decode cX5_settle 24 = .ok (.sipush 256, 3) := by decide +kernel
theorem dX5_settle_27 : decode cX5_settle 27 = .ok (.if_icmp .ge 18, 3) := by decide +kernel
theorem dX5_settle_30 : decode cX5_settle 30 = .ok (.aload_n 0, 1) := by decide +kernel
theorem dX5_settle_31 : decode cX5_settle 31 = .ok (.getfield 47, 3) := by decide +kernel
theorem dX5_settle_34 : decode cX5_settle 34 = .ok (.iload_n 3, 1) := by decide +kernel
theorem dX5_settle_35 : decode cX5_settle 35 = .ok (.iaload, 1) := by decide +kernel
theorem dX5_settle_36 : decode cX5_settle 36 = .ok (.ifCond .ne 9, 3) := by decide +kernel
theorem dX5_settle_39 : decode cX5_settle 39 = .ok (.iinc 3 1, 3) := by decide +kernel
theorem dX5_settle_42 : decode cX5_settle 42 = .ok (.goto (-19), 3) := by decide +kernel
theorem dX5_settle_45 : decode cX5_settle 45 = .ok (.iload_n 3, 1) := by decide +kernel
theorem dX5_settle_46 : decode cX5_settle 46 = .ok (.sipush 256, 3) := by decide +kernel
theorem dX5_settle_49 : decode cX5_settle 49 = .ok (.if_icmp .ne 5, 3) := by decide +kernel
theorem dX5_settle_52 : decode cX5_settle 52 = .ok (.iload_n 2, 1) := by decide +kernel
theorem dX5_settle_53 : decode cX5_settle 53 = .ok (.ireturn, 1) := by decide +kernel
theorem dX5_settle_54 : decode cX5_settle 54 = .ok (.aload_n 0, 1) := by decide +kernel
theorem dX5_settle_55 : decode cX5_settle 55 = .ok (.iload_n 3, 1) := by decide +kernel
theorem dX5_settle_56 : decode cX5_settle 56 = .ok (.bipush 16, 2) := by decide +kernel
theorem dX5_settle_58 : decode cX5_settle 58 = .ok (.idiv, 1) := by decide +kernel
theorem dX5_settle_59 : decode cX5_settle 59 = .ok (.iload_n 3, 1) := by decide +kernel
theorem dX5_settle_60 : decode cX5_settle 60 = .ok (.bipush 16, 2) := by decide +kernel
theorem dX5_settle_62 : decode cX5_settle 62 = .ok (.irem, 1) := by decide +kernel
theorem dX5_settle_63 : decode cX5_settle 63 = .ok (.invokevirtual 117, 3) := by decide +kernel
theorem dX5_settle_66 : decode cX5_settle 66 = .ok (.istore 4, 2) := by decide +kernel
theorem dX5_settle_68 : decode cX5_settle 68 = .ok (.iinc 2 1, 3) := by decide +kernel
theorem dX5_settle_71 : decode cX5_settle 71 = .ok (.goto (-55), 3) := by decide +kernel
theorem dX5_settle_74 : decode cX5_settle 74 = .ok (.iload_n 2, 1) := by decide +kernel
theorem dX5_settle_75 : decode cX5_settle 75 = .ok (.ireturn, 1) := by decide +kernel
theorem dX5_holder_0 : decode cX5_holder 0 = .ok (.iconst 0, 1) := by decide +kernel
theorem dX5_holder_1 : decode cX5_holder 1 = .ok (.istore_n 1, 1) := by decide +kernel
theorem dX5_holder_2 : decode cX5_holder 2 = .ok (.iload_n 1, 1) := by decide +kernel
theorem dX5_holder_3 : decode cX5_holder 3 = .ok (.aload_n 0, 1) := by decide +kernel
theorem dX5_holder_4 : decode cX5_holder 4 = .ok (.getfield 63, 3) := by decide +kernel
theorem dX5_holder_7 : decode cX5_holder 7 = .ok (.if_icmp .ge 21, 3) := by decide +kernel
theorem dX5_holder_10 : decode cX5_holder 10 = .ok (.aload_n 0, 1) := by decide +kernel
theorem dX5_holder_11 : decode cX5_holder 11 = .ok (.getfield 13, 3) := by decide +kernel
theorem dX5_holder_14 : decode cX5_holder 14 = .ok (.iload_n 1, 1) := by decide +kernel
theorem dX5_holder_15 : decode cX5_holder 15 = .ok (.iaload, 1) := by decide +kernel
theorem dX5_holder_16 : decode cX5_holder 16 = .ok (.iconst 2, 1) := by decide +kernel
theorem dX5_holder_17 : decode cX5_holder 17 = .ok (.if_icmp .ne 5, 3) := by decide +kernel
theorem dX5_holder_20 : decode cX5_holder 20 = .ok (.iload_n 1, 1) := by decide +kernel
theorem dX5_holder_21 : decode cX5_holder 21 = .ok (.ireturn, 1) := by decide +kernel
theorem dX5_holder_22 : decode cX5_holder 22 = .ok (.iinc 1 1, 3) := by decide +kernel
theorem dX5_holder_25 : decode cX5_holder 25 = .ok (.goto (-23), 3) := by decide +kernel
theorem dX5_holder_28 : decode cX5_holder 28 = .ok (.iconst (-1), 1) := by decide +kernel
theorem dX5_holder_29 : decode cX5_holder 29 = .ok (.ireturn, 1) := by decide +kernel
theorem dX5_count_0 : decode cX5_count 0 = .ok (.iconst 0, 1) := by decide +kernel
theorem dX5_count_1 : decode cX5_count 1 = .ok (.istore_n 2, 1) := by decide +kernel
theorem dX5_count_2 : decode cX5_count 2 = .ok (.iconst 0, 1) := by decide +kernel
theorem dX5_count_3 : decode cX5_count 3 = .ok (.istore_n 3, 1) := by decide +kernel
theorem dX5_count_4 : decode cX5_count 4 = .ok (.iload_n 3, 1) := by decide +kernel
theorem dX5_count_5 : decode cX5_count 5 = .ok (.aload_n 0, 1) := by decide +kernel
theorem dX5_count_6 : decode cX5_count 6 = .ok (.getfield 63, 3) := by decide +kernel
theorem dX5_count_9 : decode cX5_count 9 = .ok (.if_icmp .ge 17, 3) := by decide +kernel
theorem dX5_count_12 : decode cX5_count 12 = .ok (.iload_n 2, 1) := by decide +kernel
theorem dX5_count_13 : decode cX5_count 13 = .ok (.iload_n 1, 1) := by decide +kernel
theorem dX5_count_14 : decode cX5_count 14 = .ok (.iload_n 3, 1) := by decide +kernel
theorem dX5_count_15 : decode cX5_count 15 = .ok (.ishr, 1) := by decide +kernel
theorem dX5_count_16 : decode cX5_count 16 = .ok (.iconst 1, 1) := by decide +kernel
theorem dX5_count_17 : decode cX5_count 17 = .ok (.iand, 1) := by decide +kernel
theorem dX5_count_18 : decode cX5_count 18 = .ok (.iadd, 1) := by decide +kernel
theorem dX5_count_19 : decode cX5_count 19 = .ok (.istore_n 2, 1) := by decide +kernel
theorem dX5_count_20 : decode cX5_count 20 = .ok (.iinc 3 1, 3) := by decide +kernel
theorem dX5_count_23 : decode cX5_count 23 = .ok (.goto (-19), 3) := by decide +kernel
theorem dX5_count_26 : decode cX5_count 26 = .ok (.iload_n 2, 1) := by decide +kernel
theorem dX5_count_27 : decode cX5_count 27 = .ok (.ireturn, 1) := by decide +kernel
set_option maxRecDepth 20000 in
theorem ggX5_votesOf_X5_isNode : GoodIn wsX5_votesOf wsX5_isNode := goodIn_r _ [6, 7, 12, 13, 14, 15, 16, 17, 18, 19, 20, 21, 22, 23, 24, 25, 26, 27, 28, 29, 30] (by decide +kernel) (by decide +kernel)
set_option maxRecDepth 20000 in
theorem gX5_votesOf_X5_isNode : GoodIn wsX5_votesOf (wsV RX5 80 RX5 yX5_isNode wsX5_isNode) := goodIn_app (goodIn_of _ (by decide +kernel)) ggX5_votesOf_X5_isNode
set_option maxRecDepth 20000 in
theorem ggX5_votesOf_X5_count : GoodIn wsX5_votesOf wsX5_count := goodIn_r _ [11, 7, 12, 13, 14, 15, 16, 17, 18, 19, 20, 21, 22, 23, 24, 25, 26, 27, 28, 29, 30] (by decide +kernel) (by decide +kernel)
set_option maxRecDepth 20000 in
theorem gX5_votesOf_X5_count : GoodIn wsX5_votesOf (wsV RX5 121 RX5 yX5_count wsX5_count) := goodIn_app (goodIn_of _ (by decide +kernel)) ggX5_votesOf_X5_count
theorem dX5_votesOf_0 : decode cX5_votesOf 0 = .ok (.aload_n 0, 1) := by decide +kernel
theorem dX5_votesOf_1 : decode cX5_votesOf 1 = .ok (.iload_n 1, 1) := by decide +kernel
theorem dX5_votesOf_2 : decode cX5_votesOf 2 = .ok (.invokevirtual 80, 3) := by decide +kernel
theorem dX5_votesOf_5 : decode cX5_votesOf 5 = .ok (.ifCond .eq 16, 3) := by decide +kernel
theorem dX5_votesOf_8 : decode cX5_votesOf 8 = .ok (.aload_n 0, 1) := by decide +kernel
theorem dX5_votesOf_9 : decode cX5_votesOf 9 = .ok (.aload_n 0, 1) := by decide +kernel
theorem dX5_votesOf_10 : decode cX5_votesOf 10 = .ok (.getfield 19, 3) := by decide +kernel
theorem dX5_votesOf_13 : decode cX5_votesOf 13 = .ok (.iload_n 1, 1) := by decide +kernel
theorem dX5_votesOf_14 : decode cX5_votesOf 14 = .ok (.iaload, 1) := by decide +kernel
theorem dX5_votesOf_15 : decode cX5_votesOf 15 = .ok (.invokevirtual 121, 3) := by decide +kernel
theorem dX5_votesOf_18 : decode cX5_votesOf 18 = .ok (.goto 4, 3) := by decide +kernel
theorem dX5_votesOf_21 : decode cX5_votesOf 21 = .ok (.iconst (-1), 1) := by decide +kernel
theorem dX5_votesOf_22 : decode cX5_votesOf 22 = .ok (.ireturn, 1) := by decide +kernel
set_option maxRecDepth 20000 in
theorem ggX5_lockedFor_X5_isNode : GoodIn wsX5_lockedFor wsX5_isNode := goodIn_r _ [6, 7, 8, 9, 10, 11, 12, 13, 14, 15, 16, 17, 18, 19, 20, 21, 22, 23, 24, 25, 26] (by decide +kernel) (by decide +kernel)
set_option maxRecDepth 20000 in
theorem gX5_lockedFor_X5_isNode : GoodIn wsX5_lockedFor (wsV RX5 80 RX5 yX5_isNode wsX5_isNode) := goodIn_app (goodIn_of _ (by decide +kernel)) ggX5_lockedFor_X5_isNode
theorem dX5_lockedFor_0 : decode cX5_lockedFor 0 = .ok (.aload_n 0, 1) := by decide +kernel
theorem dX5_lockedFor_1 : decode cX5_lockedFor 1 = .ok (.iload_n 1, 1) := by decide +kernel
theorem dX5_lockedFor_2 : decode cX5_lockedFor 2 = .ok (.invokevirtual 80, 3) := by decide +kernel
theorem dX5_lockedFor_5 : decode cX5_lockedFor 5 = .ok (.ifCond .eq 12, 3) := by decide +kernel
theorem dX5_lockedFor_8 : decode cX5_lockedFor 8 = .ok (.aload_n 0, 1) := by decide +kernel
theorem dX5_lockedFor_9 : decode cX5_lockedFor 9 = .ok (.getfield 28, 3) := by decide +kernel
theorem dX5_lockedFor_12 : decode cX5_lockedFor 12 = .ok (.iload_n 1, 1) := by decide +kernel
theorem dX5_lockedFor_13 : decode cX5_lockedFor 13 = .ok (.iaload, 1) := by decide +kernel
theorem dX5_lockedFor_14 : decode cX5_lockedFor 14 = .ok (.goto 4, 3) := by decide +kernel
theorem dX5_lockedFor_17 : decode cX5_lockedFor 17 = .ok (.iconst (-1), 1) := by decide +kernel
theorem dX5_lockedFor_18 : decode cX5_lockedFor 18 = .ok (.ireturn, 1) := by decide +kernel
set_option maxRecDepth 20000 in
theorem ggX5_waiting_X5_isNode : GoodIn wsX5_waiting wsX5_isNode := goodIn_r _ [6, 7, 8, 9, 10, 11, 12, 13, 14, 15, 16, 17, 18, 19, 20, 21, 22, 23, 24, 25, 26] (by decide +kernel) (by decide +kernel)
set_option maxRecDepth 20000 in
theorem gX5_waiting_X5_isNode : GoodIn wsX5_waiting (wsV RX5 80 RX5 yX5_isNode wsX5_isNode) := goodIn_app (goodIn_of _ (by decide +kernel)) ggX5_waiting_X5_isNode
theorem dX5_waiting_0 : decode cX5_waiting 0 = .ok (.aload_n 0, 1) := by decide +kernel
theorem dX5_waiting_1 : decode cX5_waiting 1 = .ok (.iload_n 1, 1) := by decide +kernel
theorem dX5_waiting_2 : decode cX5_waiting 2 = .ok (.invokevirtual 80, 3) := by decide +kernel
theorem dX5_waiting_5 : decode cX5_waiting 5 = .ok (.ifCond .eq 25, 3) := by decide +kernel
theorem dX5_waiting_8 : decode cX5_waiting 8 = .ok (.aload_n 0, 1) := by decide +kernel
theorem dX5_waiting_9 : decode cX5_waiting 9 = .ok (.iload_n 2, 1) := by decide +kernel
theorem dX5_waiting_10 : decode cX5_waiting 10 = .ok (.invokevirtual 80, 3) := by decide +kernel
theorem dX5_waiting_13 : decode cX5_waiting 13 = .ok (.ifCond .eq 17, 3) := by decide +kernel
theorem dX5_waiting_16 : decode cX5_waiting 16 = .ok (.aload_n 0, 1) := by decide +kernel
theorem dX5_waiting_17 : decode cX5_waiting 17 = .ok (.getfield 47, 3) := by decide +kernel
theorem dX5_waiting_20 : decode cX5_waiting 20 = .ok (.bipush 16, 2) := by decide +kernel
theorem dX5_waiting_22 : decode cX5_waiting 22 = .ok (.iload_n 1, 1) := by decide +kernel
theorem dX5_waiting_23 : decode cX5_waiting 23 = .ok (.imul, 1) := by decide +kernel
theorem dX5_waiting_24 : decode cX5_waiting 24 = .ok (.iload_n 2, 1) := by decide +kernel
theorem dX5_waiting_25 : decode cX5_waiting 25 = .ok (.iadd, 1) := by decide +kernel
theorem dX5_waiting_26 : decode cX5_waiting 26 = .ok (.iaload, 1) := by decide +kernel
theorem dX5_waiting_27 : decode cX5_waiting 27 = .ok (.goto 4, 3) := by decide +kernel
theorem dX5_waiting_30 : decode cX5_waiting 30 = .ok (.iconst (-1), 1) := by decide +kernel
theorem dX5_waiting_31 : decode cX5_waiting 31 = .ok (.ireturn, 1) := by decide +kernel
set_option maxRecDepth 20000 in
theorem ggX5_look_X5_isNode : GoodIn wsX5_look wsX5_isNode := goodIn_r _ [9, 10, 11, 12, 13, 14, 15, 16, 17, 18, 19, 20, 21, 22, 23, 24, 25, 26, 27, 28, 29] (by decide +kernel) (by decide +kernel)
set_option maxRecDepth 20000 in
theorem gX5_look_X5_isNode : GoodIn wsX5_look (wsV RX5 80 RX5 yX5_isNode wsX5_isNode) := goodIn_app (goodIn_of _ (by decide +kernel)) ggX5_look_X5_isNode
theorem dX5_look_0 : decode cX5_look 0 = .ok (.aload_n 0, 1) := by decide +kernel
theorem dX5_look_1 : decode cX5_look 1 = .ok (.iload_n 1, 1) := by decide +kernel
theorem dX5_look_2 : decode cX5_look 2 = .ok (.invokevirtual 80, 3) := by decide +kernel
theorem dX5_look_5 : decode cX5_look 5 = .ok (.ifCond .eq 30, 3) := by decide +kernel
theorem dX5_look_8 : decode cX5_look 8 = .ok (.aload_n 0, 1) := by decide +kernel
theorem dX5_look_9 : decode cX5_look 9 = .ok (.iload_n 2, 1) := by decide +kernel
theorem dX5_look_10 : decode cX5_look 10 = .ok (.invokevirtual 80, 3) := by decide +kernel
theorem dX5_look_13 : decode cX5_look 13 = .ok (.ifCond .eq 22, 3) := by decide +kernel
theorem dX5_look_16 : decode cX5_look 16 = .ok (.iload_n 3, 1) := by decide +kernel
theorem dX5_look_17 : decode cX5_look 17 = .ok (.ifCond .lt 18, 3) := by decide +kernel
theorem dX5_look_20 : decode cX5_look 20 = .ok (.iload_n 3, 1) := by decide +kernel
theorem dX5_look_21 : decode cX5_look 21 = .ok (.aload_n 0, 1) := by decide +kernel
theorem dX5_look_22 : decode cX5_look 22 = .ok (.getfield 47, 3) := by decide +kernel
theorem dX5_look_25 : decode cX5_look 25 = .ok (.bipush 16, 2) := by decide +kernel
theorem dX5_look_27 : decode cX5_look 27 = .ok (.iload_n 1, 1) := by decide +kernel
theorem dX5_look_28 : decode cX5_look 28 = .ok (.imul, 1) := by decide +kernel
theorem dX5_look_29 : decode cX5_look 29 = .ok (.iload_n 2, 1) := by decide +kernel
theorem dX5_look_30 : decode cX5_look 30 = .ok (.iadd, 1) := by decide +kernel
theorem dX5_look_31 : decode cX5_look 31 = .ok (.iaload, 1) := by decide +kernel
theorem dX5_look_32 : decode cX5_look 32 = .ok (.if_icmp .lt 5, 3) := by decide +kernel
theorem dX5_look_35 : decode cX5_look 35 = .ok (.iconst (-1), 1) := by decide +kernel
theorem dX5_look_36 : decode cX5_look 36 = .ok (.ireturn, 1) := by decide +kernel
theorem dX5_look_37 : decode cX5_look 37 = .ok (.bipush 64, 2) := by decide +kernel
theorem dX5_look_39 : decode cX5_look 39 = .ok (.bipush 16, 2) := by decide +kernel
theorem dX5_look_41 : decode cX5_look 41 = .ok (.iload_n 1, 1) := by decide +kernel
theorem dX5_look_42 : decode cX5_look 42 = .ok (.imul, 1) := by decide +kernel
theorem dX5_look_43 : decode cX5_look 43 = .ok (.iload_n 2, 1) := by decide +kernel
theorem dX5_look_44 : decode cX5_look 44 = .ok (.iadd, 1) := by decide +kernel
theorem dX5_look_45 : decode cX5_look 45 = .ok (.imul, 1) := by decide +kernel
theorem dX5_look_46 : decode cX5_look 46 = .ok (.iload_n 3, 1) := by decide +kernel
theorem dX5_look_47 : decode cX5_look 47 = .ok (.iadd, 1) := by decide +kernel
theorem dX5_look_48 : decode cX5_look 48 = .ok (.istore 5, 2) := by decide +kernel
theorem dX5_look_50 : decode cX5_look 50 = .ok (.iload 4, 2) := by decide +kernel
theorem dX5_look_52 : decode cX5_look 52 = .ok (.ifCond .ne 13, 3) := by decide +kernel
theorem dX5_look_55 : decode cX5_look 55 = .ok (.aload_n 0, 1) := by decide +kernel
theorem dX5_look_56 : decode cX5_look 56 = .ok (.getfield 50, 3) := by decide +kernel
theorem dX5_look_59 : decode cX5_look 59 = .ok (.iload 5, 2) := by decide +kernel
theorem dX5_look_61 : decode cX5_look 61 = .ok (.iaload, 1) := by decide +kernel
theorem dX5_look_62 : decode cX5_look 62 = .ok (.goto 36, 3) := by decide +kernel
theorem dX5_look_65 : decode cX5_look 65 = .ok (.iload 4, 2) := by decide +kernel
theorem dX5_look_67 : decode cX5_look 67 = .ok (.iconst 1, 1) := by decide +kernel
theorem dX5_look_68 : decode cX5_look 68 = .ok (.if_icmp .ne 13, 3) := by decide +kernel
theorem dX5_look_71 : decode cX5_look 71 = .ok (.aload_n 0, 1) := by decide +kernel
theorem dX5_look_72 : decode cX5_look 72 = .ok (.getfield 53, 3) := by decide +kernel
theorem dX5_look_75 : decode cX5_look 75 = .ok (.iload 5, 2) := by decide +kernel
theorem dX5_look_77 : decode cX5_look 77 = .ok (.iaload, 1) := by decide +kernel
theorem dX5_look_78 : decode cX5_look 78 = .ok (.goto 20, 3) := by decide +kernel
theorem dX5_look_81 : decode cX5_look 81 = .ok (.iload 4, 2) := by decide +kernel
theorem dX5_look_83 : decode cX5_look 83 = .ok (.iconst 2, 1) := by decide +kernel
theorem dX5_look_84 : decode cX5_look 84 = .ok (.if_icmp .ne 13, 3) := by decide +kernel
theorem dX5_look_87 : decode cX5_look 87 = .ok (.aload_n 0, 1) := by decide +kernel
theorem dX5_look_88 : decode cX5_look 88 = .ok (.getfield 56, 3) := by decide +kernel
theorem dX5_look_91 : decode cX5_look 91 = .ok (.iload 5, 2) := by decide +kernel
theorem dX5_look_93 : decode cX5_look 93 = .ok (.iaload, 1) := by decide +kernel
theorem dX5_look_94 : decode cX5_look 94 = .ok (.goto 4, 3) := by decide +kernel
theorem dX5_look_97 : decode cX5_look 97 = .ok (.iconst (-1), 1) := by decide +kernel
theorem dX5_look_98 : decode cX5_look 98 = .ok (.ireturn, 1) := by decide +kernel
set_option maxRecDepth 20000 in
theorem ggX5_told_X5_isNode : GoodIn wsX5_told wsX5_isNode := goodIn_r _ [13, 14, 15, 16, 17, 18, 19, 20, 21, 22, 23, 24, 25, 26, 27, 28, 29, 30, 31, 32, 33] (by decide +kernel) (by decide +kernel)
set_option maxRecDepth 20000 in
theorem gX5_told_X5_isNode : GoodIn wsX5_told (wsV RX5 80 RX5 yX5_isNode wsX5_isNode) := goodIn_app (goodIn_of _ (by decide +kernel)) ggX5_told_X5_isNode
theorem dX5_told_0 : decode cX5_told 0 = .ok (.aload_n 0, 1) := by decide +kernel
theorem dX5_told_1 : decode cX5_told 1 = .ok (.iload_n 1, 1) := by decide +kernel
theorem dX5_told_2 : decode cX5_told 2 = .ok (.invokevirtual 80, 3) := by decide +kernel
theorem dX5_told_5 : decode cX5_told 5 = .ok (.ifCond .ne 5, 3) := by decide +kernel
theorem dX5_told_8 : decode cX5_told 8 = .ok (.iconst (-1), 1) := by decide +kernel
theorem dX5_told_9 : decode cX5_told 9 = .ok (.ireturn, 1) := by decide +kernel
theorem dX5_told_10 : decode cX5_told 10 = .ok (.iload_n 2, 1) := by decide +kernel
theorem dX5_told_11 : decode cX5_told 11 = .ok (.tableswitch 109 0 7 #[45, 52, 59, 66, 73, 80, 87, 102], 45) := by decide +kernel
theorem dX5_told_56 : decode cX5_told 56 = .ok (.aload_n 0, 1) := by decide +kernel
theorem dX5_told_57 : decode cX5_told 57 = .ok (.getfield 13, 3) := by decide +kernel
theorem dX5_told_60 : decode cX5_told 60 = .ok (.iload_n 1, 1) := by decide +kernel
theorem dX5_told_61 : decode cX5_told 61 = .ok (.iaload, 1) := by decide +kernel
theorem dX5_told_62 : decode cX5_told 62 = .ok (.ireturn, 1) := by decide +kernel
theorem dX5_told_63 : decode cX5_told 63 = .ok (.aload_n 0, 1) := by decide +kernel
theorem dX5_told_64 : decode cX5_told 64 = .ok (.getfield 7, 3) := by decide +kernel
theorem dX5_told_67 : decode cX5_told 67 = .ok (.iload_n 1, 1) := by decide +kernel
theorem dX5_told_68 : decode cX5_told 68 = .ok (.iaload, 1) := by decide +kernel
theorem dX5_told_69 : decode cX5_told 69 = .ok (.ireturn, 1) := by decide +kernel
theorem dX5_told_70 : decode cX5_told 70 = .ok (.aload_n 0, 1) := by decide +kernel
theorem dX5_told_71 : decode cX5_told 71 = .ok (.getfield 16, 3) := by decide +kernel
theorem dX5_told_74 : decode cX5_told 74 = .ok (.iload_n 1, 1) := by decide +kernel
theorem dX5_told_75 : decode cX5_told 75 = .ok (.iaload, 1) := by decide +kernel
theorem dX5_told_76 : decode cX5_told 76 = .ok (.ireturn, 1) := by decide +kernel
theorem dX5_told_77 : decode cX5_told 77 = .ok (.aload_n 0, 1) := by decide +kernel
theorem dX5_told_78 : decode cX5_told 78 = .ok (.getfield 22, 3) := by decide +kernel
theorem dX5_told_81 : decode cX5_told 81 = .ok (.iload_n 1, 1) := by decide +kernel
theorem dX5_told_82 : decode cX5_told 82 = .ok (.iaload, 1) := by decide +kernel
theorem dX5_told_83 : decode cX5_told 83 = .ok (.ireturn, 1) := by decide +kernel
theorem dX5_told_84 : decode cX5_told 84 = .ok (.aload_n 0, 1) := by decide +kernel
theorem dX5_told_85 : decode cX5_told 85 = .ok (.getfield 25, 3) := by decide +kernel
theorem dX5_told_88 : decode cX5_told 88 = .ok (.iload_n 1, 1) := by decide +kernel
theorem dX5_told_89 : decode cX5_told 89 = .ok (.iaload, 1) := by decide +kernel
theorem dX5_told_90 : decode cX5_told 90 = .ok (.ireturn, 1) := by decide +kernel
theorem dX5_told_91 : decode cX5_told 91 = .ok (.aload_n 0, 1) := by decide +kernel
theorem dX5_told_92 : decode cX5_told 92 = .ok (.getfield 19, 3) := by decide +kernel
theorem dX5_told_95 : decode cX5_told 95 = .ok (.iload_n 1, 1) := by decide +kernel
theorem dX5_told_96 : decode cX5_told 96 = .ok (.iaload, 1) := by decide +kernel
theorem dX5_told_97 : decode cX5_told 97 = .ok (.ireturn, 1) := by decide +kernel
theorem dX5_told_98 : decode cX5_told 98 = .ok (.aload_n 0, 1) := by decide +kernel
theorem dX5_told_99 : decode cX5_told 99 = .ok (.getfield 34, 3) := by decide +kernel
theorem dX5_told_102 : decode cX5_told 102 = .ok (.iload_n 1, 1) := by decide +kernel
theorem dX5_told_103 : decode cX5_told 103 = .ok (.baload, 1) := by decide +kernel
theorem dX5_told_104 : decode cX5_told 104 = .ok (.ifCond .eq 7, 3) := by decide +kernel
theorem dX5_told_107 : decode cX5_told 107 = .ok (.iconst 1, 1) := by decide +kernel
theorem dX5_told_108 : decode cX5_told 108 = .ok (.goto 4, 3) := by decide +kernel
theorem dX5_told_111 : decode cX5_told 111 = .ok (.iconst 0, 1) := by decide +kernel
theorem dX5_told_112 : decode cX5_told 112 = .ok (.ireturn, 1) := by decide +kernel
theorem dX5_told_113 : decode cX5_told 113 = .ok (.aload_n 0, 1) := by decide +kernel
theorem dX5_told_114 : decode cX5_told 114 = .ok (.getfield 38, 3) := by decide +kernel
theorem dX5_told_117 : decode cX5_told 117 = .ok (.iload_n 1, 1) := by decide +kernel
theorem dX5_told_118 : decode cX5_told 118 = .ok (.iaload, 1) := by decide +kernel
theorem dX5_told_119 : decode cX5_told 119 = .ok (.ireturn, 1) := by decide +kernel
theorem dX5_told_120 : decode cX5_told 120 = .ok (.iconst (-1), 1) := by decide +kernel
theorem dX5_told_121 : decode cX5_told 121 = .ok (.ireturn, 1) := by decide +kernel
set_option maxRecDepth 20000 in
theorem ggX5_waits_X5_isNode : GoodIn wsX5_waits wsX5_isNode := goodIn_r _ [7, 8, 9, 10, 11, 12, 13, 14, 15, 16, 17, 18, 19, 20, 21, 22, 23, 24, 25, 26, 27] (by decide +kernel) (by decide +kernel)
set_option maxRecDepth 20000 in
theorem gX5_waits_X5_isNode : GoodIn wsX5_waits (wsV RX5 80 RX5 yX5_isNode wsX5_isNode) := goodIn_app (goodIn_of _ (by decide +kernel)) ggX5_waits_X5_isNode
theorem dX5_waits_0 : decode cX5_waits 0 = .ok (.aload_n 0, 1) := by decide +kernel
theorem dX5_waits_1 : decode cX5_waits 1 = .ok (.iload_n 1, 1) := by decide +kernel
theorem dX5_waits_2 : decode cX5_waits 2 = .ok (.invokevirtual 80, 3) := by decide +kernel
theorem dX5_waits_5 : decode cX5_waits 5 = .ok (.ifCond .eq 17, 3) := by decide +kernel
theorem dX5_waits_8 : decode cX5_waits 8 = .ok (.iload_n 2, 1) := by decide +kernel
theorem dX5_waits_9 : decode cX5_waits 9 = .ok (.ifCond .lt 13, 3) := by decide +kernel
theorem dX5_waits_12 : decode cX5_waits 12 = .ok (.iload_n 2, 1) := by decide +kernel
theorem dX5_waits_13 : decode cX5_waits 13 = .ok (.aload_n 0, 1) := by decide +kernel
theorem dX5_waits_14 : decode cX5_waits 14 = .ok (.getfield 38, 3) := by decide +kernel
theorem dX5_waits_17 : decode cX5_waits 17 = .ok (.iload_n 1, 1) := by decide +kernel
theorem dX5_waits_18 : decode cX5_waits 18 = .ok (.iaload, 1) := by decide +kernel
theorem dX5_waits_19 : decode cX5_waits 19 = .ok (.if_icmp .lt 7, 3) := by decide +kernel
theorem dX5_waits_22 : decode cX5_waits 22 = .ok (.iconst (-1), 1) := by decide +kernel
theorem dX5_waits_23 : decode cX5_waits 23 = .ok (.goto 14, 3) := by decide +kernel
theorem dX5_waits_26 : decode cX5_waits 26 = .ok (.aload_n 0, 1) := by decide +kernel
theorem dX5_waits_27 : decode cX5_waits 27 = .ok (.getfield 41, 3) := by decide +kernel
theorem dX5_waits_30 : decode cX5_waits 30 = .ok (.bipush 64, 2) := by decide +kernel
theorem dX5_waits_32 : decode cX5_waits 32 = .ok (.iload_n 1, 1) := by decide +kernel
theorem dX5_waits_33 : decode cX5_waits 33 = .ok (.imul, 1) := by decide +kernel
theorem dX5_waits_34 : decode cX5_waits 34 = .ok (.iload_n 2, 1) := by decide +kernel
theorem dX5_waits_35 : decode cX5_waits 35 = .ok (.iadd, 1) := by decide +kernel
theorem dX5_waits_36 : decode cX5_waits 36 = .ok (.iaload, 1) := by decide +kernel
theorem dX5_waits_37 : decode cX5_waits 37 = .ok (.ireturn, 1) := by decide +kernel
theorem dX5_entered_0 : decode cX5_entered 0 = .ok (.aload_n 0, 1) := by decide +kernel
theorem dX5_entered_1 : decode cX5_entered 1 = .ok (.getfield 69, 3) := by decide +kernel
theorem dX5_entered_4 : decode cX5_entered 4 = .ok (.ireturn, 1) := by decide +kernel
theorem dJ6_bitCount_0f7a4_0 : decode cJ6_bitCount_0f7a4 0 = .ok (.iload_n 0, 1) := by decide +kernel
theorem dJ6_bitCount_0f7a4_1 : decode cJ6_bitCount_0f7a4 1 = .ok (.iload_n 0, 1) := by decide +kernel
theorem dJ6_bitCount_0f7a4_2 : decode cJ6_bitCount_0f7a4 2 = .ok (.iconst 1, 1) := by decide +kernel
theorem dJ6_bitCount_0f7a4_3 : decode cJ6_bitCount_0f7a4 3 = .ok (.iushr, 1) := by decide +kernel
theorem dJ6_bitCount_0f7a4_4 : decode cJ6_bitCount_0f7a4 4 = .ok (.ldc_w 265, 3) := by decide +kernel
theorem dJ6_bitCount_0f7a4_7 : decode cJ6_bitCount_0f7a4 7 = .ok (.iand, 1) := by decide +kernel
theorem dJ6_bitCount_0f7a4_8 : decode cJ6_bitCount_0f7a4 8 = .ok (.isub, 1) := by decide +kernel
theorem dJ6_bitCount_0f7a4_9 : decode cJ6_bitCount_0f7a4 9 = .ok (.istore_n 0, 1) := by decide +kernel
theorem dJ6_bitCount_0f7a4_10 : decode cJ6_bitCount_0f7a4 10 = .ok (.iload_n 0, 1) := by decide +kernel
theorem dJ6_bitCount_0f7a4_11 : decode cJ6_bitCount_0f7a4 11 = .ok (.ldc_w 266, 3) := by decide +kernel
theorem dJ6_bitCount_0f7a4_14 : decode cJ6_bitCount_0f7a4 14 = .ok (.iand, 1) := by decide +kernel
theorem dJ6_bitCount_0f7a4_15 : decode cJ6_bitCount_0f7a4 15 = .ok (.iload_n 0, 1) := by decide +kernel
theorem dJ6_bitCount_0f7a4_16 : decode cJ6_bitCount_0f7a4 16 = .ok (.iconst 2, 1) := by decide +kernel
theorem dJ6_bitCount_0f7a4_17 : decode cJ6_bitCount_0f7a4 17 = .ok (.iushr, 1) := by decide +kernel
theorem dJ6_bitCount_0f7a4_18 : decode cJ6_bitCount_0f7a4 18 = .ok (.ldc_w 266, 3) := by decide +kernel
theorem dJ6_bitCount_0f7a4_21 : decode cJ6_bitCount_0f7a4 21 = .ok (.iand, 1) := by decide +kernel
theorem dJ6_bitCount_0f7a4_22 : decode cJ6_bitCount_0f7a4 22 = .ok (.iadd, 1) := by decide +kernel
theorem dJ6_bitCount_0f7a4_23 : decode cJ6_bitCount_0f7a4 23 = .ok (.istore_n 0, 1) := by decide +kernel
theorem dJ6_bitCount_0f7a4_24 : decode cJ6_bitCount_0f7a4 24 = .ok (.iload_n 0, 1) := by decide +kernel
theorem dJ6_bitCount_0f7a4_25 : decode cJ6_bitCount_0f7a4 25 = .ok (.iload_n 0, 1) := by decide +kernel
theorem dJ6_bitCount_0f7a4_26 : decode cJ6_bitCount_0f7a4 26 = .ok (.iconst 4, 1) := by decide +kernel
theorem dJ6_bitCount_0f7a4_27 : decode cJ6_bitCount_0f7a4 27 = .ok (.iushr, 1) := by decide +kernel
theorem dJ6_bitCount_0f7a4_28 : decode cJ6_bitCount_0f7a4 28 = .ok (.iadd, 1) := by decide +kernel
theorem dJ6_bitCount_0f7a4_29 : decode cJ6_bitCount_0f7a4 29 = .ok (.ldc_w 267, 3) := by decide +kernel
theorem dJ6_bitCount_0f7a4_32 : decode cJ6_bitCount_0f7a4 32 = .ok (.iand, 1) := by decide +kernel
theorem dJ6_bitCount_0f7a4_33 : decode cJ6_bitCount_0f7a4 33 = .ok (.istore_n 0, 1) := by decide +kernel
theorem dJ6_bitCount_0f7a4_34 : decode cJ6_bitCount_0f7a4 34 = .ok (.iload_n 0, 1) := by decide +kernel
theorem dJ6_bitCount_0f7a4_35 : decode cJ6_bitCount_0f7a4 35 = .ok (.iload_n 0, 1) := by decide +kernel
theorem dJ6_bitCount_0f7a4_36 : decode cJ6_bitCount_0f7a4 36 = .ok (.bipush 8, 2) := by decide +kernel
theorem dJ6_bitCount_0f7a4_38 : decode cJ6_bitCount_0f7a4 38 = .ok (.iushr, 1) := by decide +kernel
theorem dJ6_bitCount_0f7a4_39 : decode cJ6_bitCount_0f7a4 39 = .ok (.iadd, 1) := by decide +kernel
theorem dJ6_bitCount_0f7a4_40 : decode cJ6_bitCount_0f7a4 40 = .ok (.istore_n 0, 1) := by decide +kernel
theorem dJ6_bitCount_0f7a4_41 : decode cJ6_bitCount_0f7a4 41 = .ok (.iload_n 0, 1) := by decide +kernel
theorem dJ6_bitCount_0f7a4_42 : decode cJ6_bitCount_0f7a4 42 = .ok (.iload_n 0, 1) := by decide +kernel
theorem dJ6_bitCount_0f7a4_43 : decode cJ6_bitCount_0f7a4 43 = .ok (.bipush 16, 2) := by decide +kernel
theorem dJ6_bitCount_0f7a4_45 : decode cJ6_bitCount_0f7a4 45 = .ok (.iushr, 1) := by decide +kernel
theorem dJ6_bitCount_0f7a4_46 : decode cJ6_bitCount_0f7a4 46 = .ok (.iadd, 1) := by decide +kernel
theorem dJ6_bitCount_0f7a4_47 : decode cJ6_bitCount_0f7a4 47 = .ok (.istore_n 0, 1) := by decide +kernel
theorem dJ6_bitCount_0f7a4_48 : decode cJ6_bitCount_0f7a4 48 = .ok (.iload_n 0, 1) := by decide +kernel
theorem dJ6_bitCount_0f7a4_49 : decode cJ6_bitCount_0f7a4 49 = .ok (.bipush 63, 2) := by decide +kernel
theorem dJ6_bitCount_0f7a4_51 : decode cJ6_bitCount_0f7a4 51 = .ok (.iand, 1) := by decide +kernel
theorem dJ6_bitCount_0f7a4_52 : decode cJ6_bitCount_0f7a4 52 = .ok (.ireturn, 1) := by decide +kernel
theorem dJ9_max_7cf53_0 : decode cJ9_max_7cf53 0 = .ok (.iload_n 0, 1) := by decide +kernel
theorem dJ9_max_7cf53_1 : decode cJ9_max_7cf53 1 = .ok (.iload_n 1, 1) := by decide +kernel
theorem dJ9_max_7cf53_2 : decode cJ9_max_7cf53 2 = .ok (.if_icmp .lt 7, 3) := by decide +kernel
theorem dJ9_max_7cf53_5 : decode cJ9_max_7cf53 5 = .ok (.iload_n 0, 1) := by decide +kernel
theorem dJ9_max_7cf53_6 : decode cJ9_max_7cf53 6 = .ok (.goto 4, 3) := by decide +kernel
theorem dJ9_max_7cf53_9 : decode cJ9_max_7cf53 9 = .ok (.iload_n 1, 1) := by decide +kernel
theorem dJ9_max_7cf53_10 : decode cJ9_max_7cf53 10 = .ok (.ireturn, 1) := by decide +kernel
theorem dJ9_min_7cf53_0 : decode cJ9_min_7cf53 0 = .ok (.iload_n 0, 1) := by decide +kernel
theorem dJ9_min_7cf53_1 : decode cJ9_min_7cf53 1 = .ok (.iload_n 1, 1) := by decide +kernel
theorem dJ9_min_7cf53_2 : decode cJ9_min_7cf53 2 = .ok (.if_icmp .gt 7, 3) := by decide +kernel
theorem dJ9_min_7cf53_5 : decode cJ9_min_7cf53 5 = .ok (.iload_n 0, 1) := by decide +kernel
theorem dJ9_min_7cf53_6 : decode cJ9_min_7cf53 6 = .ok (.goto 4, 3) := by decide +kernel
theorem dJ9_min_7cf53_9 : decode cJ9_min_7cf53 9 = .ok (.iload_n 1, 1) := by decide +kernel
theorem dJ9_min_7cf53_10 : decode cJ9_min_7cf53 10 = .ok (.ireturn, 1) := by decide +kernel
end
section
/-! BASE: cells one by one; a write shows what it leaves as it was; calls of methods that make nothing -/
def qy_A : String := "QuorumLock$Asker"
def qy_V : String := "QuorumLock$Voter"
/-- the array classes: 0 int, 1 boolean, 2 askers, 3 voters -/
abbrev qT (ga : Nat → ClassId) : List (ClassId × FieldType) := [(ga 0, .int), (ga 1, .boolean), (ga 2, .object "QuorumLock$Asker"), (ga 3, .object "QuorumLock$Voter")]
/-- the nest's links that are no common words -/
def qN (U : State) : Prop := va_Nw (.methodLinkNest RX1 22 yX4_isBefore "QuorumLock") U ∧ va_Nw (.methodLinkNest RX2 44 yX4_isBefore "QuorumLock") U ∧ va_Nw (.methodLinkNest RX4 53 yX0_init "QuorumLock") U
def qK (dd : va_G) (ga : Nat → ClassId) (U : State) : Prop := va_K dd vwCl (qT ga) U ∧ qN U
theorem qK.warm {dd : va_G} {ga : Nat → ClassId} {s U : State} (hW : s.WarmedH U.vm) (h : qK dd ga s) : qK dd ga U := ⟨va_K.moved hW.alike h.1, va_Nw.warmM hW h.2.1, va_Nw.warmM hW h.2.2.1, va_Nw.warmM hW h.2.2.2⟩
theorem qK.calling {dd : va_G} {ga : Nat → ClassId} {U : State} {g : JFrame} {mk : MethodId} {a : Array Value} (h : qK dd ga U) : qK dd ga (U.calling g mk a) := ⟨va_K.moved (Vm.Alike.refl U.vm) h.1, va_Nw.same rfl rfl h.2.1, va_Nw.same rfl rfl h.2.2.1, va_Nw.same rfl rfl h.2.2.2⟩
/-- a contract's start -/
def qPc (dd : va_G) (ga : Nat → ClassId) (av : List Value) (P : Heap → Prop) : Array Value → State → Prop := va_Pc av (fun U => P U.heap ∧ qK dd ga U)
/-- a contract's end: an int, or nothing; what lies outside A is as it was, and nothing is new -/
def qQi (post : Int32 → Heap → Prop) (A : Nat → Prop) : Array Value → State → Outcome → State → Prop := fun _ st oc t => (∃ r : Int32, oc = .returned (some (.int r)) ∧ post r t.heap) ∧ t.heap.size = st.heap.size ∧ ∀ q : Nat, ¬ A q → t.heap[q]? = st.heap[q]?
def qQv (post : Heap → Prop) (A : Nat → Prop) : Array Value → State → Outcome → State → Prop := fun _ st oc t => (oc = .returned none ∧ post t.heap) ∧ t.heap.size = st.heap.size ∧ ∀ q : Nat, ¬ A q → t.heap[q]? = st.heap[q]?
/-- since H0: nothing is new, what lies outside A is as it was -/
def qS (A : Nat → Prop) (H0 H : Heap) (locs : List Loc) : Prop := H.size = H0.size ∧ (∀ q : Nat, ¬ A q → H[q]? = H0[q]?) ∧ ∀ l ∈ locs, A l.base
theorem qS.rf {A : Nat → Prop} {H0 : Heap} : qS A H0 H0 [] := ⟨rfl, fun _ _ => rfl, fun _ h => by cases h⟩
theorem qS.put {A : Nat → Prop} {H0 H H1 : Heap} {locs : List Loc} {a k : Nat} (h : qS A H0 H locs) (z : H1.size = H.size) (oq : ∀ q : Nat, q ≠ a → H1[q]? = H[q]?) (ha : A a) : qS A H0 H1 (locs ++ [⟨a, k⟩]) := by
  refine ⟨z.trans h.1, fun q h2 => ?_, fun q hq => ?_⟩
  · rw [oq q (fun e => h2 (by rw [e]; exact ha))]
    exact h.2.1 q h2
  · rcases List.mem_append.mp hq with h1 | h1
    · exact h.2.2 q h1
    · rw [List.mem_singleton.mp h1]
      exact ha
theorem qS.v {A : Nat → Prop} {H0 H : Heap} {locs : List Loc} (h : qS A H0 H locs) : va_S A H0 H locs := ⟨Nat.le_of_eq h.1.symm, fun q _ h2 => h.2.1 q h2, h.2.2⟩
theorem qS.call {A A1 : Nat → Prop} {H0 H H1 : Heap} {locs L : List Loc} (h : qS A H0 H locs) (z : H1.size = H.size) (oq : ∀ q : Nat, ¬ A1 q → H1[q]? = H[q]?) (hA : ∀ q, A1 q → A q) (hL : ∀ q ∈ L, A1 q.base) : qS A H0 H1 (locs ++ L) := by
  refine ⟨z.trans h.1, fun q h2 => ?_, fun q hq => ?_⟩
  · rw [oq q (fun e => h2 (hA q e))]
    exact h.2.1 q h2
  · rcases List.mem_append.mp hq with h1 | h1
    · exact h.2.2 q h1
    · exact hA _ (hL q h1)
theorem qfb {dd : va_G} {ga : Nat → ClassId} {av : List Value} {P : Heap → Prop} : FrameBlind (qPc dd ga av P) := fun _ _ _ _ q => ⟨q.1, q.2.1, q.2.2.calling⟩
section QR
variable {p : Program} {l : Launch} {e : Env} {R : Room} {s : State} {m : MethodId} {args : Array Value} {below : List Frame} {meth : Method} {c : Code} {H : Heap} {locs : List Loc} {cells slots : Nat} {Q : State → Prop}
variable {cc : ByteArray} {pc : Nat} {ls : Array Slot} {rest st0 : List Value} {dd : va_G} {ga : Nat → ClassId} {A : Nat → Prop} {a : Nat} {H0 : Heap}
theorem qr_one {e0 : va_E} (h : va_at dd vwCl (a, e0) H) : va_P dd vwCl [(a, e0)] H := fun k q hk => by
  match k, hk with
  | 0, hk => cases hk; exact h
  | k + 1, hk => simp at hk
theorem qpreV {C : String} {T : u_T} {N ci : Nat} {fs : List Value} {av : List Value} {P : Heap → Prop} {b : Nat} (hK : qK dd ga s) (hP : P H) (hr : va_at dd vwCl (b, .inr (ci, fs)) H) (hc : vwCl[ci]? = some (C, T, N)) : PreV s H C b (qPc dd ga (.ref b :: av) P) av :=
  ⟨qfb, va_recv hK.1 (qr_one hr) (ci := ci) (q0 := 0) hc rfl, fun U hU hW => ⟨rfl, by rw [hU]; exact hP, hK.warm hW⟩⟩
theorem qpreS {av : List Value} {P : Heap → Prop} (hK : qK dd ga s) (hP : P H) : PreS s H (qPc dd ga av P) av :=
  ⟨qfb, fun U hU hW => ⟨rfl, by rw [hU]; exact hP, hK.warm hW⟩⟩
theorem qcall_i {post : Int32 → Heap → Prop} {A1 : Nat → Prop} {av : Array Value} (hr : va_Run p l e R s m args below meth c H locs cells slots 0 0 (F0 m pc ls st0) rest (qQi post A1 av) A1) (hS : va_S A H0 H locs) (hA : ∀ q, A1 q → A q)
    (kk : ∀ (r : Int32) (H1 : Heap) (locs1 : List Loc), post r H1 → H1.size = H.size → (∀ q : Nat, ¬ A1 q → H1[q]? = H[q]?) → va_S A H0 H1 locs1 → W p l e R s m args below meth c H1 locs1 cells slots Q (F0 m (pc + 3) ls (.int r :: rest))) : W p l e R s m args below meth c H locs cells slots Q (F0 m pc ls st0) := by
  intro T hT X
  obtain ⟨v, st₀, t, T', L, h0, X', hL, e1, e2, ⟨⟨r, hv, hp⟩, hz, hk⟩, st⟩ := hr T hT X
  cases hv
  rw [h0] at hz hk
  obtain ⟨t2, a1, b1⟩ := kk r T'.heap (locs ++ L) (by rw [e1]; exact hp) (by rw [e1]; exact hz) (fun q h => by rw [e1]; exact hk q h)
    ⟨Nat.le_trans hS.1 (by rw [e1, hz]; exact Nat.le_refl _), fun q h1 h2 => by rw [e1, hk q (fun z => h2 (hA q z))]; exact hS.2.1 q h1 h2, fun q hq => by
      rcases List.mem_append.mp hq with h | h
      · exact hS.2.2 q h
      · exact hA _ (hL q h)⟩ T' rfl X'
  exact ⟨t2, st t2 a1, b1⟩
theorem qcall_v {post : Heap → Prop} {A1 : Nat → Prop} {av : Array Value} (hr : va_Run p l e R s m args below meth c H locs cells slots 0 0 (F0 m pc ls st0) rest (qQv post A1 av) A1) (hS : va_S A H0 H locs) (hA : ∀ q, A1 q → A q)
    (kk : ∀ (H1 : Heap) (locs1 : List Loc), post H1 → H1.size = H.size → (∀ q : Nat, ¬ A1 q → H1[q]? = H[q]?) → va_S A H0 H1 locs1 → W p l e R s m args below meth c H1 locs1 cells slots Q (F0 m (pc + 3) ls rest)) : W p l e R s m args below meth c H locs cells slots Q (F0 m pc ls st0) := by
  intro T hT X
  obtain ⟨v, st₀, t, T', L, h0, X', hL, e1, e2, ⟨⟨hv, hp⟩, hz, hk⟩, st⟩ := hr T hT X
  cases hv
  rw [h0] at hz hk
  obtain ⟨t2, a1, b1⟩ := kk T'.heap (locs ++ L) (by rw [e1]; exact hp) (by rw [e1]; exact hz) (fun q h => by rw [e1]; exact hk q h)
    ⟨Nat.le_trans hS.1 (by rw [e1, hz]; exact Nat.le_refl _), fun q h1 h2 => by rw [e1, hk q (fun z => h2 (hA q z))]; exact hS.2.1 q h1 h2, fun q hq => by
      rcases List.mem_append.mp hq with h | h
      · exact hS.2.2 q h
      · exact hA _ (hL q h)⟩ T' rfl X'
  exact ⟨t2, st t2 a1, b1⟩
theorem qc_i {post : Int32 → Heap → Prop} {A1 : Nat → Prop} {av : Array Value} (hr : va_Run p l e R s m args below meth c H locs cells slots 0 0 (F0 m pc ls st0) rest (qQi post A1 av) A1) (hS : qS A H0 H locs) (hA : ∀ q, A1 q → A q)
    (kk : ∀ (r : Int32) (H1 : Heap) (locs1 : List Loc), post r H1 → H1.size = H.size → (∀ q : Nat, ¬ A1 q → H1[q]? = H[q]?) → qS A H0 H1 locs1 → W p l e R s m args below meth c H1 locs1 cells slots Q (F0 m (pc + 3) ls (.int r :: rest))) : W p l e R s m args below meth c H locs cells slots Q (F0 m pc ls st0) := by
  intro T hT X
  obtain ⟨v, st₀, t, T', L, h0, X', hL, e1, e2, ⟨⟨r, hv, hp⟩, hz, hk⟩, st⟩ := hr T hT X
  cases hv
  rw [h0] at hz hk
  obtain ⟨t2, a1, b1⟩ := kk r T'.heap (locs ++ L) (by rw [e1]; exact hp) (by rw [e1]; exact hz) (fun q h => by rw [e1]; exact hk q h)
    (hS.call (by rw [e1]; exact hz) (fun q h => by rw [e1]; exact hk q h) hA hL) T' rfl X'
  exact ⟨t2, st t2 a1, b1⟩
theorem qc_v {post : Heap → Prop} {A1 : Nat → Prop} {av : Array Value} (hr : va_Run p l e R s m args below meth c H locs cells slots 0 0 (F0 m pc ls st0) rest (qQv post A1 av) A1) (hS : qS A H0 H locs) (hA : ∀ q, A1 q → A q)
    (kk : ∀ (H1 : Heap) (locs1 : List Loc), post H1 → H1.size = H.size → (∀ q : Nat, ¬ A1 q → H1[q]? = H[q]?) → qS A H0 H1 locs1 → W p l e R s m args below meth c H1 locs1 cells slots Q (F0 m (pc + 3) ls rest)) : W p l e R s m args below meth c H locs cells slots Q (F0 m pc ls st0) := by
  intro T hT X
  obtain ⟨v, st₀, t, T', L, h0, X', hL, e1, e2, ⟨⟨hv, hp⟩, hz, hk⟩, st⟩ := hr T hT X
  cases hv
  rw [h0] at hz hk
  obtain ⟨t2, a1, b1⟩ := kk T'.heap (locs ++ L) (by rw [e1]; exact hp) (by rw [e1]; exact hz) (fun q h => by rw [e1]; exact hk q h)
    (hS.call (by rw [e1]; exact hz) (fun q h => by rw [e1]; exact hk q h) hA hL) T' rfl X'
  exact ⟨t2, st t2 a1, b1⟩
theorem qr_get (hexec : p.tables.exec = Jvm.exec) (hb : c.code = cc) {own C : String} {T : u_T} {N ci index : Nat} {Ts : List Cond} (hts : ∀ w ∈ Ts, w.before args s = true) (hin : ∀ w ∈ u_ws C T N, w ∈ Ts) (hown : s.vm.findClass own = some m.cls) (hK : qK dd ga s) {fs : List Value} (hP : va_at dd vwCl (a, .inr (ci, fs)) H) (hc : vwCl[ci]? = some (C, T, N)) (k : Nat) (hk : k < N) (hlink : (Cond.fieldLink own index (T k).1 (T k).2.1 (T k).2.2.1).before args s = true) {v : Value} (hv : fs[k]? = some v) (hdg : decode cc pc = .ok (.getfield index, 3))
    (kk : W p l e R s m args below meth c H locs cells slots Q (F0 m (pc + 3) ls (v :: rest))) : W p l e R s m args below meth c H locs cells slots Q (F0 m pc ls (.ref a :: rest)) :=
  va_get hexec hb hts hin hown hK.1 (qr_one hP) 0 rfl hc k hk hlink (fun _ h => h) hv hdg kk
theorem qr_put (hexec : p.tables.exec = Jvm.exec) (hb : c.code = cc) {own C : String} {T : u_T} {N ci index : Nat} {Ts : List Cond} (hts : ∀ w ∈ Ts, w.before args s = true) (hin : ∀ w ∈ u_ws C T N, w ∈ Ts) (ty0 : Nat → FieldType) (hty : ∀ k, k < N → parseFieldDescriptor (T k).2.2.1 = some (ty0 k)) (hnm : ∀ a, a < N → ∀ b, b < N → a ≠ b → (T a).2.1 ≠ (T b).2.1) (hown : s.vm.findClass own = some m.cls) (hK : qK dd ga s) {fs : List Value} (hP : va_at dd vwCl (a, .inr (ci, fs)) H) (hS0 : qS A H0 H locs) (hA : A a) (hc : vwCl[ci]? = some (C, T, N)) (k : Nat) (hk : k < N) (hlink : (Cond.fieldLink own index (T k).1 (T k).2.1 (T k).2.2.1).before args s = true) (hfin : (T k).2.2.2 = false) {v : Value} (hn : narrow (ty0 k) v = v) (hfit : fits (ty0 k) v = true) (hl : k < fs.length)
    (hdg : decode cc pc = .ok (.putfield index, 3)) (kk : ∀ (H1 : Heap) (locs1 : List Loc), H1.size = H.size → (∀ q : Nat, q ≠ a → H1[q]? = H[q]?) → va_at dd vwCl (a, .inr (ci, fs.set k v)) H1 → qS A H0 H1 locs1 → W p l e R s m args below meth c H1 locs1 cells slots Q (F0 m (pc + 3) ls rest)) : W p l e R s m args below meth c H locs cells slots Q (F0 m pc ls (v :: .ref a :: rest)) := by
  have hap := va_apart (own := own) hts hin ty0 hty hnm hK.1 hc
  obtain ⟨r, h1, cell, q1, q2, q3, q4⟩ := hP
  have hr : r = (C, T, N) := Option.some.inj (h1.symm.trans hc)
  subst hr
  obtain ⟨hS, hfc, kC, hkC, hkind⟩ := hK.1.1 ci _ hc
  obtain ⟨cf, kf, fi, f, hi, hsl⟩ := hS k hk
  have hlay := hts _ (hin _ (u_in_lay hk))
  unfold u_lay at hlay
  rw [if_neg (by rw [hfin]; decide)] at hlay
  have hst := (u_facts hfc hkC (u_lays hts hin hk) hi).1
  have h6 := u_store hfc hkC hkind hlay hi (hty k hk) hn hfit
  refine W.putK hexec hb (f := f) ⟨hown, hlink, ⟨_, _, _, hi⟩, hst⟩ (by rw [q2]; exact h6) q1 q3 (by rw [hsl]; exact k2_hasslot (q4 k hk)) rfl rfl hdg fun H' e1 e2 e3 => ?_
  rw [hsl] at e1 ⊢
  exact kk H' _ e2 e3 ⟨_, hc, t_OB.to (V := updV (vp_V fs) k v) ⟨_, e1, q2, q3, t_set q4 hap hk v⟩ (fun j _ => vp_updV_set hl v j)⟩ (hS0.put e2 e3 hA)
theorem qr_iald (hexec : p.tables.exec = Jvm.exec) (hb : c.code = cc) (hK : qK dd ga s) {n : Nat} {f : Nat → Int32} (hP : va_at dd vwCl (a, .inl (ga 0, n, .inl f)) H) (i : Nat) (hi : i < n) (hn : n < 2 ^ 31) {x v : Int32} (hx : x = nI i) (hv : f i = v) (hdg : decode cc pc = .ok (.iaload, 1))
    (kk : W p l e R s m args below meth c H locs cells slots Q (F0 m (pc + 1) ls (.int v :: rest))) : W p l e R s m args below meth c H locs cells slots Q (F0 m pc ls (.int x :: .ref a :: rest)) := by
  subst hx
  refine va_iald hexec hb hK.1 (qr_one hP) 0 0 rfl rfl (vp_in_nI hi hn) hdg ?_
  rw [nI_clamp (Nat.lt_trans hi hn), hv]
  exact kk
theorem qr_zald (hexec : p.tables.exec = Jvm.exec) (hb : c.code = cc) (hK : qK dd ga s) {n : Nat} {f : Nat → Int32} (hP : va_at dd vwCl (a, .inl (ga 1, n, .inl f)) H) (i : Nat) (hi : i < n) (hn : n < 2 ^ 31) {x v : Int32} (hx : x = nI i) (hv : f i = v) (hdg : decode cc pc = .ok (.baload, 1))
    (kk : W p l e R s m args below meth c H locs cells slots Q (F0 m (pc + 1) ls (.int v :: rest))) : W p l e R s m args below meth c H locs cells slots Q (F0 m pc ls (.int x :: .ref a :: rest)) := by
  subst hx
  refine va_zald hexec hb hK.1 (qr_one hP) 0 1 rfl rfl (vp_in_nI hi hn) hdg ?_
  rw [nI_clamp (Nat.lt_trans hi hn), hv]
  exact kk
theorem qr_aald (hexec : p.tables.exec = Jvm.exec) (hb : c.code = cc) (hK : qK dd ga s) (t0 : Nat) {C : String} {cA : ClassId} {n : Nat} {f : Nat → Option Nat} (hP : va_at dd vwCl (a, .inl (cA, n, .inr (.inr (.inr (.inr f))))) H) (ht : (qT ga)[t0]? = some (cA, .object C)) (i : Nat) (hi : i < n) (hn : n < 2 ^ 31) {x : Int32} {v : Nat} (hx : x = nI i) (hv : f i = some v) (hdg : decode cc pc = .ok (.aaload, 1))
    (kk : W p l e R s m args below meth c H locs cells slots Q (F0 m (pc + 1) ls (.ref v :: rest))) : W p l e R s m args below meth c H locs cells slots Q (F0 m pc ls (.int x :: .ref a :: rest)) := by
  subst hx
  refine va_aldq hexec hb hK.1 (qr_one hP) 0 t0 rfl ht (vp_in_nI hi hn) hdg ?_
  rw [nI_clamp (Nat.lt_trans hi hn), hv]
  exact kk
theorem qr_alen (hexec : p.tables.exec = Jvm.exec) (hb : c.code = cc) (hK : qK dd ga s) {n : Nat} {f : Nat → Int32} (hP : va_at dd vwCl (a, .inl (ga 0, n, .inl f)) H) (hdg : decode cc pc = .ok (.arraylength, 1))
    (kk : W p l e R s m args below meth c H locs cells slots Q (F0 m (pc + 1) ls (.int (nI n) :: rest))) : W p l e R s m args below meth c H locs cells slots Q (F0 m pc ls (.ref a :: rest)) :=
  va_alen hexec hb hK.1 (qr_one hP) 0 0 rfl rfl rfl hdg kk
theorem qr_iast (hexec : p.tables.exec = Jvm.exec) (hb : c.code = cc) (hK : qK dd ga s) {n : Nat} {f : Nat → Int32} (hP : va_at dd vwCl (a, .inl (ga 0, n, .inl f)) H) (hS : qS A H0 H locs) (hA : A a) (i : Nat) (hi : i < n) (hn : n < 2 ^ 31) {x z : Int32} (hx : x = nI i) (hdg : decode cc pc = .ok (.iastore, 1))
    (kk : ∀ (H1 : Heap) (locs1 : List Loc), H1.size = H.size → (∀ q : Nat, q ≠ a → H1[q]? = H[q]?) → va_at dd vwCl (a, .inl (ga 0, n, .inl (upd f i z))) H1 → qS A H0 H1 locs1 → W p l e R s m args below meth c H1 locs1 cells slots Q (F0 m (pc + 1) ls rest)) : W p l e R s m args below meth c H locs cells slots Q (F0 m pc ls (.int z :: .int x :: .ref a :: rest)) := by
  subst hx
  refine W.iast hexec hb hP ((hK.1.2 0 _ rfl).1 n (fun j => .int (f j))) (fun q => by cases q) (by show ¬ (_ ∨ (arrV _ _ _).slots.size ≤ _); rw [arrV_size]; exact vp_in_nI hi hn) rfl rfl hdg fun H1 e1 e2 e3 => ?_
  refine kk H1 _ e2 e3 ?_ (hS.put e2 e3 hA)
  show H1[a]? = some (vp_cell _ _)
  rw [e1, vp_cell_i, vp_cell_i, arrV_store, nI_clamp (Nat.lt_trans hi hn)]
  congr 2
  funext q
  by_cases hq : q = i
  · subst hq
    simp [updV, upd]
  · simp [updV, upd, hq]
theorem qr_zast (hexec : p.tables.exec = Jvm.exec) (hb : c.code = cc) (hK : qK dd ga s) {n : Nat} {f : Nat → Int32} (hP : va_at dd vwCl (a, .inl (ga 1, n, .inl f)) H) (hS : qS A H0 H locs) (hA : A a) (i : Nat) (hi : i < n) (hn : n < 2 ^ 31) {x z : Int32} (hx : x = nI i) (hz : narrow .boolean (.int z) = .int z) (hdg : decode cc pc = .ok (.bastore, 1))
    (kk : ∀ (H1 : Heap) (locs1 : List Loc), H1.size = H.size → (∀ q : Nat, q ≠ a → H1[q]? = H[q]?) → va_at dd vwCl (a, .inl (ga 1, n, .inl (upd f i z))) H1 → qS A H0 H1 locs1 → W p l e R s m args below meth c H1 locs1 cells slots Q (F0 m (pc + 1) ls rest)) : W p l e R s m args below meth c H locs cells slots Q (F0 m pc ls (.int z :: .int x :: .ref a :: rest)) := by
  subst hx
  refine W.zast hexec hb hP ((hK.1.2 1 _ rfl).1 n (fun j => .int (f j))) (fun q => by cases q) (by show ¬ (_ ∨ (arrV _ _ _).slots.size ≤ _); rw [arrV_size]; exact vp_in_nI hi hn) rfl rfl hdg fun H1 e1 e2 e3 => ?_
  refine kk H1 _ e2 e3 ?_ (hS.put e2 e3 hA)
  show H1[a]? = some (vp_cell _ _)
  rw [e1, hz, vp_cell_i, vp_cell_i, arrV_store, nI_clamp (Nat.lt_trans hi hn)]
  congr 2
  funext q
  by_cases hq : q = i
  · subst hq
    simp [updV, upd]
  · simp [updV, upd, hq]
theorem q_ti {x y : Int32} (h : x = y) (k : W p l e R s m args below meth c H locs cells slots Q (F0 m pc ls (.int y :: rest))) : W p l e R s m args below meth c H locs cells slots Q (F0 m pc ls (.int x :: rest)) := h ▸ k
theorem q_iret {post : Int32 → Heap → Prop} {v : Int32} (hexec : p.tables.exec = Jvm.exec) (hb : c.code = cc) (hr : meth.sig.returnType = some .int) (hlocks : meth.locks = false) (hS : qS A s.heap H locs) (hp : post v H) (hdg : decode cc pc = .ok (.ireturn, 1)) : W p l e R s m args below meth c H locs cells slots (MQ below (qQi post A) args s cells slots A) (F0 m pc ls [.int v]) :=
  W.iret hexec hb hr (fun t ht _ => ⟨⟨v, rfl, by rw [ht]; exact hp⟩, by rw [ht]; exact hS.1, fun q h => by rw [ht]; exact hS.2.1 q h⟩) hS.2.2 hdg hlocks
theorem q_zret {post : Int32 → Heap → Prop} {v : Int32} (hexec : p.tables.exec = Jvm.exec) (hb : c.code = cc) (hr : meth.sig.returnType = some .boolean) (hlocks : meth.locks = false) (hn : narrow .boolean (.int v) = .int v) (hS : qS A s.heap H locs) (hp : post v H) (hdg : decode cc pc = .ok (.ireturn, 1)) : W p l e R s m args below meth c H locs cells slots (MQ below (qQi post A) args s cells slots A) (F0 m pc ls [.int v]) :=
  W.zret hexec hb hr hn (fun t ht _ => ⟨⟨v, rfl, by rw [ht]; exact hp⟩, by rw [ht]; exact hS.1, fun q h => by rw [ht]; exact hS.2.1 q h⟩) hS.2.2 hdg hlocks
theorem q_vret {post : Heap → Prop} (hexec : p.tables.exec = Jvm.exec) (hb : c.code = cc) (hr : meth.sig.returnType = none) (hlocks : meth.locks = false) (hS : qS A s.heap H locs) (hp : post H) (hdg : decode cc pc = .ok (.return_, 1)) : W p l e R s m args below meth c H locs cells slots (MQ below (qQv post A) args s cells slots A) (F0 m pc ls []) :=
  W.vret hexec hb hr (fun t ht _ => ⟨⟨rfl, by rw [ht]; exact hp⟩, by rw [ht]; exact hS.1, fun q h => by rw [ht]; exact hS.2.1 q h⟩) hS.2.2 hdg hlocks
end QR
theorem qa_kept {dd : va_G} {a : Nat} {e0 : va_E} {H H1 : Heap} (h : va_at dd vwCl (a, e0) H) (h1 : H1[a]? = H[a]?) : va_at dd vwCl (a, e0) H1 := va_at.kept h h1
end
section
set_option maxHeartbeats 4000000 in
set_option maxRecDepth 100000 in
/-- Asker.forgetSets -/
theorem c_X0_forgetSets (l : Launch) (dd : va_G) (ga : Nat → ClassId) (h0 : Nat) (f0 f1 f2 f3 f4 : Int32) : Met l yX0_forgetSets wsX0_forgetSets ({ frames := 0, cells := 0, slots := 0, locals := 0 }) (qPc dd ga [.ref h0] (fun H => va_at dd vwCl (h0, .inr (0, [.int f0, .int f1, .int f2, .int f3, .int f4])) H)) (qQv (fun H => va_at dd vwCl (h0, .inr (0, [.int f0, .int f1, .int 0, .int 0, .int 0])) H) (fun q => q = h0)) 0 0 (fun q => q = h0) := by
  refine Met.ofW (cc := cX0_forgetSets) (maxL := 1) (ret := none) (by decide) rfl ?_
  intro p e s m args below meth c s₁ B hml hv
  obtain ⟨rfl, hP, hK⟩ := hv
  have hx := B.exec
  have hb := B.bytes
  have hr := B.returns
  have hts := atoms_spec (ws := wsX0_forgetSets) B.pre
  have hown : s.vm.findClass RX0 = some m.cls := findClass_of_methodNamed B.named
  have hlocks := B.notSynchronized
  have hS : qS (fun q => q = h0) s.heap s.heap [] := qS.rf
  have hl := lv_entry ([.ref h0]) (n := 1) (Nat.le_of_ble_eq_true rfl)
  rw [lg_entry_eq]
  generalize (lg_sl ([.ref h0]) ++ List.replicate (1 - (lg_sl ([.ref h0])).length) Slot.unset).toArray = ls at hl ⊢
  have hin0 : ∀ w ∈ wsX00, w ∈ wsX0_forgetSets := by decide +kernel
  refine lv_aload_n hx hb dX0_forgetSets_0 rfl (lv_at hl 0 rfl) ?_
  refine lv_iconst (v := 0) hx hb dX0_forgetSets_1 (by decide) ?_
  refine qr_put (ci := 0) (C := RX0) (T := TX0) (N := 5) hx hb hts hin0 tyX0 tyX0_ok nmX0 hown hK hP hS rfl rfl 2 (by decide) (hts (.fieldLink RX0 21 "QuorumLock$Asker" "votes" "I") (by decide +kernel)) rfl rfl rfl (Nat.le_of_ble_eq_true rfl) dX0_forgetSets_2 (fun H locs hz9 ho9 hat9 hS => ?_)
  have hP : va_at dd vwCl (h0, .inr (0, [.int f0, .int f1, .int 0, .int f3, .int f4])) H := hat9
  refine lv_aload_n hx hb dX0_forgetSets_5 rfl (lv_at hl 0 rfl) ?_
  refine lv_iconst (v := 0) hx hb dX0_forgetSets_6 (by decide) ?_
  refine qr_put (ci := 0) (C := RX0) (T := TX0) (N := 5) hx hb hts hin0 tyX0 tyX0_ok nmX0 hown hK hP hS rfl rfl 3 (by decide) (hts (.fieldLink RX0 24 "QuorumLock$Asker" "failures" "I") (by decide +kernel)) rfl rfl rfl (Nat.le_of_ble_eq_true rfl) dX0_forgetSets_7 (fun H locs hz9 ho9 hat9 hS => ?_)
  have hP : va_at dd vwCl (h0, .inr (0, [.int f0, .int f1, .int 0, .int 0, .int f4])) H := hat9
  refine lv_aload_n hx hb dX0_forgetSets_10 rfl (lv_at hl 0 rfl) ?_
  refine lv_iconst (v := 0) hx hb dX0_forgetSets_11 (by decide) ?_
  refine qr_put (ci := 0) (C := RX0) (T := TX0) (N := 5) hx hb hts hin0 tyX0 tyX0_ok nmX0 hown hK hP hS rfl rfl 4 (by decide) (hts (.fieldLink RX0 27 "QuorumLock$Asker" "inquiries" "I") (by decide +kernel)) rfl rfl rfl (Nat.le_of_ble_eq_true rfl) dX0_forgetSets_12 (fun H locs hz9 ho9 hat9 hS => ?_)
  have hP : va_at dd vwCl (h0, .inr (0, [.int f0, .int f1, .int 0, .int 0, .int 0])) H := hat9
  exact q_vret hx hb hr hlocks hS hP dX0_forgetSets_15
set_option maxHeartbeats 4000000 in
set_option maxRecDepth 100000 in
/-- Asker.becomeIdle -/
theorem c_X0_becomeIdle (l : Launch) (dd : va_G) (ga : Nat → ClassId) (h0 : Nat) (f0 f1 f2 f3 f4 : Int32) : Met l yX0_becomeIdle wsX0_becomeIdle ({ frames := 1, cells := 0, slots := 0, locals := 20 }) (qPc dd ga [.ref h0] (fun H => va_at dd vwCl (h0, .inr (0, [.int f0, .int f1, .int f2, .int f3, .int f4])) H)) (qQv (fun H => va_at dd vwCl (h0, .inr (0, [.int 0, .int 0, .int 0, .int 0, .int 0])) H) (fun q => q = h0)) 0 0 (fun q => q = h0) := by
  refine Met.ofW (cc := cX0_becomeIdle) (maxL := 1) (ret := none) (by decide) rfl ?_
  intro p e s m args below meth c s₁ B hml hv
  obtain ⟨rfl, hP, hK⟩ := hv
  have hx := B.exec
  have hb := B.bytes
  have hr := B.returns
  have hts := atoms_spec (ws := wsX0_becomeIdle) B.pre
  have hown : s.vm.findClass RX0 = some m.cls := findClass_of_methodNamed B.named
  have hlocks := B.notSynchronized
  have hS : qS (fun q => q = h0) s.heap s.heap [] := qS.rf
  have hl := lv_entry ([.ref h0]) (n := 1) (Nat.le_of_ble_eq_true rfl)
  rw [lg_entry_eq]
  generalize (lg_sl ([.ref h0]) ++ List.replicate (1 - (lg_sl ([.ref h0])).length) Slot.unset).toArray = ls at hl ⊢
  have hin0 : ∀ w ∈ wsX00, w ∈ wsX0_becomeIdle := by decide +kernel
  refine lv_aload_n hx hb dX0_becomeIdle_0 rfl (lv_at hl 0 rfl) ?_
  refine lv_iconst (v := 0) hx hb dX0_becomeIdle_1 (by decide) ?_
  refine qr_put (ci := 0) (C := RX0) (T := TX0) (N := 5) hx hb hts hin0 tyX0 tyX0_ok nmX0 hown hK hP hS rfl rfl 0 (by decide) (hts (.fieldLink RX0 9 "QuorumLock$Asker" "state" "I") (by decide +kernel)) rfl rfl rfl (Nat.le_of_ble_eq_true rfl) dX0_becomeIdle_2 (fun H locs hz9 ho9 hat9 hS => ?_)
  have hP : va_at dd vwCl (h0, .inr (0, [.int 0, .int f1, .int f2, .int f3, .int f4])) H := hat9
  refine lv_aload_n hx hb dX0_becomeIdle_5 rfl (lv_at hl 0 rfl) ?_
  refine lv_iconst (v := 0) hx hb dX0_becomeIdle_6 (by decide) ?_
  refine qr_put (ci := 0) (C := RX0) (T := TX0) (N := 5) hx hb hts hin0 tyX0 tyX0_ok nmX0 hown hK hP hS rfl rfl 1 (by decide) (hts (.fieldLink RX0 15 "QuorumLock$Asker" "time" "I") (by decide +kernel)) rfl rfl rfl (Nat.le_of_ble_eq_true rfl) dX0_becomeIdle_7 (fun H locs hz9 ho9 hat9 hS => ?_)
  have hP : va_at dd vwCl (h0, .inr (0, [.int 0, .int 0, .int f2, .int f3, .int f4])) H := hat9
  refine lv_aload_n hx hb dX0_becomeIdle_10 rfl (lv_at hl 0 rfl) ?_
  refine qc_v (va_runV (As := []) (rest := []) ⟨hx, hb, hml, hown, hts⟩ (c_X0_forgetSets l dd ga h0 0 0 f2 f3 f4) (cwV 0 hts gX0_becomeIdle_X0_forgetSets rfl rfl rfl (by decide +kernel) ⟨Nat.le_of_ble_eq_true rfl, Nat.le_of_ble_eq_true rfl⟩) (qpreV hK hP hP rfl) rfl rfl hl.1 rfl (lv_room (Nat.le_of_ble_eq_true rfl)) dX0_becomeIdle_11 ⟨Nat.zero_le _, Nat.zero_le _⟩) hS (fun q h => h) (fun H locs hp9 hz9 ho9 hS => ?_)
  have hP := hp9
  exact q_vret hx hb hr hlocks hS hP dX0_becomeIdle_14
set_option maxHeartbeats 4000000 in
set_option maxRecDepth 100000 in
/-- Asker.becomeAsking -/
theorem c_X0_becomeAsking (l : Launch) (dd : va_G) (ga : Nat → ClassId) (h0 : Nat) (f0 f1 f2 f3 f4 : Int32) (x : Int32) : Met l yX0_becomeAsking wsX0_becomeAsking ({ frames := 1, cells := 0, slots := 0, locals := 20 }) (qPc dd ga [.ref h0, .int x] (fun H => va_at dd vwCl (h0, .inr (0, [.int f0, .int f1, .int f2, .int f3, .int f4])) H)) (qQv (fun H => va_at dd vwCl (h0, .inr (0, [.int 1, .int x, .int 0, .int 0, .int 0])) H) (fun q => q = h0)) 0 0 (fun q => q = h0) := by
  refine Met.ofW (cc := cX0_becomeAsking) (maxL := 2) (ret := none) (by decide) rfl ?_
  intro p e s m args below meth c s₁ B hml hv
  obtain ⟨rfl, hP, hK⟩ := hv
  have hx := B.exec
  have hb := B.bytes
  have hr := B.returns
  have hts := atoms_spec (ws := wsX0_becomeAsking) B.pre
  have hown : s.vm.findClass RX0 = some m.cls := findClass_of_methodNamed B.named
  have hlocks := B.notSynchronized
  have hS : qS (fun q => q = h0) s.heap s.heap [] := qS.rf
  have hl := lv_entry ([.ref h0, .int x]) (n := 2) (Nat.le_of_ble_eq_true rfl)
  rw [lg_entry_eq]
  generalize (lg_sl ([.ref h0, .int x]) ++ List.replicate (2 - (lg_sl ([.ref h0, .int x])).length) Slot.unset).toArray = ls at hl ⊢
  have hin0 : ∀ w ∈ wsX00, w ∈ wsX0_becomeAsking := by decide +kernel
  refine lv_aload_n hx hb dX0_becomeAsking_0 rfl (lv_at hl 0 rfl) ?_
  refine lv_iconst (v := 1) hx hb dX0_becomeAsking_1 (by decide) ?_
  refine qr_put (ci := 0) (C := RX0) (T := TX0) (N := 5) hx hb hts hin0 tyX0 tyX0_ok nmX0 hown hK hP hS rfl rfl 0 (by decide) (hts (.fieldLink RX0 9 "QuorumLock$Asker" "state" "I") (by decide +kernel)) rfl rfl rfl (Nat.le_of_ble_eq_true rfl) dX0_becomeAsking_2 (fun H locs hz9 ho9 hat9 hS => ?_)
  have hP : va_at dd vwCl (h0, .inr (0, [.int 1, .int f1, .int f2, .int f3, .int f4])) H := hat9
  refine lv_aload_n hx hb dX0_becomeAsking_5 rfl (lv_at hl 0 rfl) ?_
  refine lv_iload_n hx hb dX0_becomeAsking_6 rfl (lv_at hl 1 rfl) ?_
  refine qr_put (ci := 0) (C := RX0) (T := TX0) (N := 5) hx hb hts hin0 tyX0 tyX0_ok nmX0 hown hK hP hS rfl rfl 1 (by decide) (hts (.fieldLink RX0 15 "QuorumLock$Asker" "time" "I") (by decide +kernel)) rfl rfl rfl (Nat.le_of_ble_eq_true rfl) dX0_becomeAsking_7 (fun H locs hz9 ho9 hat9 hS => ?_)
  have hP : va_at dd vwCl (h0, .inr (0, [.int 1, .int x, .int f2, .int f3, .int f4])) H := hat9
  refine lv_aload_n hx hb dX0_becomeAsking_10 rfl (lv_at hl 0 rfl) ?_
  refine qc_v (va_runV (As := []) (rest := []) ⟨hx, hb, hml, hown, hts⟩ (c_X0_forgetSets l dd ga h0 1 x f2 f3 f4) (cwV 0 hts gX0_becomeAsking_X0_forgetSets rfl rfl rfl (by decide +kernel) ⟨Nat.le_of_ble_eq_true rfl, Nat.le_of_ble_eq_true rfl⟩) (qpreV hK hP hP rfl) rfl rfl hl.1 rfl (lv_room (Nat.le_of_ble_eq_true rfl)) dX0_becomeAsking_11 ⟨Nat.zero_le _, Nat.zero_le _⟩) hS (fun q h => h) (fun H locs hp9 hz9 ho9 hS => ?_)
  have hP := hp9
  exact q_vret hx hb hr hlocks hS hP dX0_becomeAsking_14
set_option maxHeartbeats 4000000 in
set_option maxRecDepth 100000 in
/-- Asker.isAsking -/
theorem c_X0_isAsking (l : Launch) (dd : va_G) (ga : Nat → ClassId) (h0 : Nat) (f0 f1 f2 f3 f4 x : Int32) : Met l yX0_isAsking wsX0_isAsking ({ frames := 0, cells := 0, slots := 0, locals := 0 }) (qPc dd ga [.ref h0, .int x] (fun H => va_at dd vwCl (h0, .inr (0, [.int f0, .int f1, .int f2, .int f3, .int f4])) H)) (qQi (fun r _ => r = (if f0 = 1 ∧ f1 = x then 1 else 0)) (fun _ => False)) 0 0 (fun _ => False) := by
  refine Met.ofW (cc := cX0_isAsking) (maxL := 2) (ret := (some .boolean)) (by decide) rfl ?_
  intro p e s m args below meth c s₁ B hml hv
  obtain ⟨rfl, hP, hK⟩ := hv
  have hx := B.exec
  have hb := B.bytes
  have hr := B.returns
  have hts := atoms_spec (ws := wsX0_isAsking) B.pre
  have hown : s.vm.findClass RX0 = some m.cls := findClass_of_methodNamed B.named
  have hlocks := B.notSynchronized
  have hS : qS (fun _ => False) s.heap s.heap [] := qS.rf
  have hl := lv_entry ([.ref h0, .int x]) (n := 2) (Nat.le_of_ble_eq_true rfl)
  rw [lg_entry_eq]
  generalize (lg_sl ([.ref h0, .int x]) ++ List.replicate (2 - (lg_sl ([.ref h0, .int x])).length) Slot.unset).toArray = ls at hl ⊢
  have hin0 : ∀ w ∈ wsX00, w ∈ wsX0_isAsking := by decide +kernel
  refine lv_aload_n hx hb dX0_isAsking_0 rfl (lv_at hl 0 rfl) ?_
  refine qr_get (ci := 0) (C := RX0) (T := TX0) (N := 5) hx hb hts hin0 hown hK hP rfl 0 (by decide) (hts (.fieldLink RX0 9 "QuorumLock$Asker" "state" "I") (by decide +kernel)) rfl dX0_isAsking_1 ?_
  refine lv_iconst (v := 1) hx hb dX0_isAsking_4 (by decide) ?_
  refine lv_icmp_ne (tgt := 20) hx hb dX0_isAsking_5 (by decide) (fun c_5 => ?_) (fun c_5 => ?_)
  · refine lv_iconst (v := 0) hx hb dX0_isAsking_20 (by decide) ?_
    exact q_zret hx hb hr hlocks rfl hS (by simp_all) dX0_isAsking_21
  · refine lv_aload_n hx hb dX0_isAsking_8 rfl (lv_at hl 0 rfl) ?_
    refine qr_get (ci := 0) (C := RX0) (T := TX0) (N := 5) hx hb hts hin0 hown hK hP rfl 1 (by decide) (hts (.fieldLink RX0 15 "QuorumLock$Asker" "time" "I") (by decide +kernel)) rfl dX0_isAsking_9 ?_
    refine lv_iload_n hx hb dX0_isAsking_12 rfl (lv_at hl 1 rfl) ?_
    refine lv_icmp_ne (tgt := 20) hx hb dX0_isAsking_13 (by decide) (fun c_13 => ?_) (fun c_13 => ?_)
    · refine lv_iconst (v := 0) hx hb dX0_isAsking_20 (by decide) ?_
      exact q_zret hx hb hr hlocks rfl hS (by simp_all) dX0_isAsking_21
    · refine lv_iconst (v := 1) hx hb dX0_isAsking_16 (by decide) ?_
      refine lv_goto (tgt := 21) hx hb dX0_isAsking_17 (by decide) ?_
      exact q_zret hx hb hr hlocks rfl hS (by simp_all) dX0_isAsking_21
set_option maxHeartbeats 4000000 in
set_option maxRecDepth 100000 in
/-- Asker.gainVote -/
theorem c_X0_gainVote (l : Launch) (dd : va_G) (ga : Nat → ClassId) (h0 : Nat) (f0 f1 f2 f3 f4 : Int32) (x : Int32) : Met l yX0_gainVote wsX0_gainVote ({ frames := 0, cells := 0, slots := 0, locals := 0 }) (qPc dd ga [.ref h0, .int x] (fun H => va_at dd vwCl (h0, .inr (0, [.int f0, .int f1, .int f2, .int f3, .int f4])) H)) (qQv (fun H => va_at dd vwCl (h0, .inr (0, [.int f0, .int f1, .int (f2 ||| ((1 : Int32) <<< (x &&& 31))), .int (f3 &&& (((1 : Int32) <<< (x &&& 31)) ^^^ (-1))), .int f4])) H) (fun q => q = h0)) 0 0 (fun q => q = h0) := by
  refine Met.ofW (cc := cX0_gainVote) (maxL := 2) (ret := none) (by decide) rfl ?_
  intro p e s m args below meth c s₁ B hml hv
  obtain ⟨rfl, hP, hK⟩ := hv
  have hx := B.exec
  have hb := B.bytes
  have hr := B.returns
  have hts := atoms_spec (ws := wsX0_gainVote) B.pre
  have hown : s.vm.findClass RX0 = some m.cls := findClass_of_methodNamed B.named
  have hlocks := B.notSynchronized
  have hS : qS (fun q => q = h0) s.heap s.heap [] := qS.rf
  have hl := lv_entry ([.ref h0, .int x]) (n := 2) (Nat.le_of_ble_eq_true rfl)
  rw [lg_entry_eq]
  generalize (lg_sl ([.ref h0, .int x]) ++ List.replicate (2 - (lg_sl ([.ref h0, .int x])).length) Slot.unset).toArray = ls at hl ⊢
  have hin0 : ∀ w ∈ wsX00, w ∈ wsX0_gainVote := by decide +kernel
  refine lv_aload_n hx hb dX0_gainVote_0 rfl (lv_at hl 0 rfl) ?_
  refine lv_dup hx hb dX0_gainVote_1 rfl ?_
  refine qr_get (ci := 0) (C := RX0) (T := TX0) (N := 5) hx hb hts hin0 hown hK hP rfl 2 (by decide) (hts (.fieldLink RX0 21 "QuorumLock$Asker" "votes" "I") (by decide +kernel)) rfl dX0_gainVote_2 ?_
  refine lv_iconst (v := 1) hx hb dX0_gainVote_5 (by decide) ?_
  refine lv_iload_n hx hb dX0_gainVote_6 rfl (lv_at hl 1 rfl) ?_
  refine lv_ishl hx hb dX0_gainVote_7 ?_
  refine lv_ior hx hb dX0_gainVote_8 ?_
  refine qr_put (ci := 0) (C := RX0) (T := TX0) (N := 5) hx hb hts hin0 tyX0 tyX0_ok nmX0 hown hK hP hS rfl rfl 2 (by decide) (hts (.fieldLink RX0 21 "QuorumLock$Asker" "votes" "I") (by decide +kernel)) rfl rfl rfl (Nat.le_of_ble_eq_true rfl) dX0_gainVote_9 (fun H locs hz9 ho9 hat9 hS => ?_)
  have hP : va_at dd vwCl (h0, .inr (0, [.int f0, .int f1, .int (f2 ||| (1 <<< (x &&& 31))), .int f3, .int f4])) H := hat9
  refine lv_aload_n hx hb dX0_gainVote_12 rfl (lv_at hl 0 rfl) ?_
  refine lv_dup hx hb dX0_gainVote_13 rfl ?_
  refine qr_get (ci := 0) (C := RX0) (T := TX0) (N := 5) hx hb hts hin0 hown hK hP rfl 3 (by decide) (hts (.fieldLink RX0 24 "QuorumLock$Asker" "failures" "I") (by decide +kernel)) rfl dX0_gainVote_14 ?_
  refine lv_iconst (v := 1) hx hb dX0_gainVote_17 (by decide) ?_
  refine lv_iload_n hx hb dX0_gainVote_18 rfl (lv_at hl 1 rfl) ?_
  refine lv_ishl hx hb dX0_gainVote_19 ?_
  refine lv_iconst (v := (-1)) hx hb dX0_gainVote_20 (by decide) ?_
  refine lv_ixor hx hb dX0_gainVote_21 ?_
  refine lv_iand hx hb dX0_gainVote_22 ?_
  refine qr_put (ci := 0) (C := RX0) (T := TX0) (N := 5) hx hb hts hin0 tyX0 tyX0_ok nmX0 hown hK hP hS rfl rfl 3 (by decide) (hts (.fieldLink RX0 24 "QuorumLock$Asker" "failures" "I") (by decide +kernel)) rfl rfl rfl (Nat.le_of_ble_eq_true rfl) dX0_gainVote_23 (fun H locs hz9 ho9 hat9 hS => ?_)
  have hP : va_at dd vwCl (h0, .inr (0, [.int f0, .int f1, .int (f2 ||| (1 <<< (x &&& 31))), .int (f3 &&& ((1 <<< (x &&& 31)) ^^^ (-1))), .int f4])) H := hat9
  exact q_vret hx hb hr hlocks hS hP dX0_gainVote_26
set_option maxHeartbeats 4000000 in
set_option maxRecDepth 100000 in
/-- Asker.loseVote -/
theorem c_X0_loseVote (l : Launch) (dd : va_G) (ga : Nat → ClassId) (h0 : Nat) (f0 f1 f2 f3 f4 : Int32) (x : Int32) : Met l yX0_loseVote wsX0_loseVote ({ frames := 0, cells := 0, slots := 0, locals := 0 }) (qPc dd ga [.ref h0, .int x] (fun H => va_at dd vwCl (h0, .inr (0, [.int f0, .int f1, .int f2, .int f3, .int f4])) H)) (qQv (fun H => va_at dd vwCl (h0, .inr (0, [.int f0, .int f1, .int (f2 &&& (((1 : Int32) <<< (x &&& 31)) ^^^ (-1))), .int (f3 ||| ((1 : Int32) <<< (x &&& 31))), .int (f4 &&& (((1 : Int32) <<< (x &&& 31)) ^^^ (-1)))])) H) (fun q => q = h0)) 0 0 (fun q => q = h0) := by
  refine Met.ofW (cc := cX0_loseVote) (maxL := 2) (ret := none) (by decide) rfl ?_
  intro p e s m args below meth c s₁ B hml hv
  obtain ⟨rfl, hP, hK⟩ := hv
  have hx := B.exec
  have hb := B.bytes
  have hr := B.returns
  have hts := atoms_spec (ws := wsX0_loseVote) B.pre
  have hown : s.vm.findClass RX0 = some m.cls := findClass_of_methodNamed B.named
  have hlocks := B.notSynchronized
  have hS : qS (fun q => q = h0) s.heap s.heap [] := qS.rf
  have hl := lv_entry ([.ref h0, .int x]) (n := 2) (Nat.le_of_ble_eq_true rfl)
  rw [lg_entry_eq]
  generalize (lg_sl ([.ref h0, .int x]) ++ List.replicate (2 - (lg_sl ([.ref h0, .int x])).length) Slot.unset).toArray = ls at hl ⊢
  have hin0 : ∀ w ∈ wsX00, w ∈ wsX0_loseVote := by decide +kernel
  refine lv_aload_n hx hb dX0_loseVote_0 rfl (lv_at hl 0 rfl) ?_
  refine lv_dup hx hb dX0_loseVote_1 rfl ?_
  refine qr_get (ci := 0) (C := RX0) (T := TX0) (N := 5) hx hb hts hin0 hown hK hP rfl 2 (by decide) (hts (.fieldLink RX0 21 "QuorumLock$Asker" "votes" "I") (by decide +kernel)) rfl dX0_loseVote_2 ?_
  refine lv_iconst (v := 1) hx hb dX0_loseVote_5 (by decide) ?_
  refine lv_iload_n hx hb dX0_loseVote_6 rfl (lv_at hl 1 rfl) ?_
  refine lv_ishl hx hb dX0_loseVote_7 ?_
  refine lv_iconst (v := (-1)) hx hb dX0_loseVote_8 (by decide) ?_
  refine lv_ixor hx hb dX0_loseVote_9 ?_
  refine lv_iand hx hb dX0_loseVote_10 ?_
  refine qr_put (ci := 0) (C := RX0) (T := TX0) (N := 5) hx hb hts hin0 tyX0 tyX0_ok nmX0 hown hK hP hS rfl rfl 2 (by decide) (hts (.fieldLink RX0 21 "QuorumLock$Asker" "votes" "I") (by decide +kernel)) rfl rfl rfl (Nat.le_of_ble_eq_true rfl) dX0_loseVote_11 (fun H locs hz9 ho9 hat9 hS => ?_)
  have hP : va_at dd vwCl (h0, .inr (0, [.int f0, .int f1, .int (f2 &&& ((1 <<< (x &&& 31)) ^^^ (-1))), .int f3, .int f4])) H := hat9
  refine lv_aload_n hx hb dX0_loseVote_14 rfl (lv_at hl 0 rfl) ?_
  refine lv_dup hx hb dX0_loseVote_15 rfl ?_
  refine qr_get (ci := 0) (C := RX0) (T := TX0) (N := 5) hx hb hts hin0 hown hK hP rfl 4 (by decide) (hts (.fieldLink RX0 27 "QuorumLock$Asker" "inquiries" "I") (by decide +kernel)) rfl dX0_loseVote_16 ?_
  refine lv_iconst (v := 1) hx hb dX0_loseVote_19 (by decide) ?_
  refine lv_iload_n hx hb dX0_loseVote_20 rfl (lv_at hl 1 rfl) ?_
  refine lv_ishl hx hb dX0_loseVote_21 ?_
  refine lv_iconst (v := (-1)) hx hb dX0_loseVote_22 (by decide) ?_
  refine lv_ixor hx hb dX0_loseVote_23 ?_
  refine lv_iand hx hb dX0_loseVote_24 ?_
  refine qr_put (ci := 0) (C := RX0) (T := TX0) (N := 5) hx hb hts hin0 tyX0 tyX0_ok nmX0 hown hK hP hS rfl rfl 4 (by decide) (hts (.fieldLink RX0 27 "QuorumLock$Asker" "inquiries" "I") (by decide +kernel)) rfl rfl rfl (Nat.le_of_ble_eq_true rfl) dX0_loseVote_25 (fun H locs hz9 ho9 hat9 hS => ?_)
  have hP : va_at dd vwCl (h0, .inr (0, [.int f0, .int f1, .int (f2 &&& ((1 <<< (x &&& 31)) ^^^ (-1))), .int f3, .int (f4 &&& ((1 <<< (x &&& 31)) ^^^ (-1)))])) H := hat9
  refine lv_aload_n hx hb dX0_loseVote_28 rfl (lv_at hl 0 rfl) ?_
  refine lv_dup hx hb dX0_loseVote_29 rfl ?_
  refine qr_get (ci := 0) (C := RX0) (T := TX0) (N := 5) hx hb hts hin0 hown hK hP rfl 3 (by decide) (hts (.fieldLink RX0 24 "QuorumLock$Asker" "failures" "I") (by decide +kernel)) rfl dX0_loseVote_30 ?_
  refine lv_iconst (v := 1) hx hb dX0_loseVote_33 (by decide) ?_
  refine lv_iload_n hx hb dX0_loseVote_34 rfl (lv_at hl 1 rfl) ?_
  refine lv_ishl hx hb dX0_loseVote_35 ?_
  refine lv_ior hx hb dX0_loseVote_36 ?_
  refine qr_put (ci := 0) (C := RX0) (T := TX0) (N := 5) hx hb hts hin0 tyX0 tyX0_ok nmX0 hown hK hP hS rfl rfl 3 (by decide) (hts (.fieldLink RX0 24 "QuorumLock$Asker" "failures" "I") (by decide +kernel)) rfl rfl rfl (Nat.le_of_ble_eq_true rfl) dX0_loseVote_37 (fun H locs hz9 ho9 hat9 hS => ?_)
  have hP : va_at dd vwCl (h0, .inr (0, [.int f0, .int f1, .int (f2 &&& ((1 <<< (x &&& 31)) ^^^ (-1))), .int (f3 ||| (1 <<< (x &&& 31))), .int (f4 &&& ((1 <<< (x &&& 31)) ^^^ (-1)))])) H := hat9
  exact q_vret hx hb hr hlocks hS hP dX0_loseVote_40
end
section
/-! THE MODEL: what both sides are. A message: kind, time, clock. A state: the table (0 clock, 1 state, 2 time, 3 votes, 4 failures, 5 inquiries, 6 inquired) by nodes, to whom lent, rows, wires, entries. -/
abbrev qM : Type := Int32 × Int32 × Int32
abbrev qSt : Type := (Nat → Nat → Int32) × (Nat → Option (Nat × Int32)) × (Nat → List (Nat × Int32)) × (Nat → Nat → List qM) × Int32
def q2 {α : Type} (f : Nat → Nat → α) (a b : Nat) (v : α) : Nat → Nat → α := fun x y => if x = a ∧ y = b then v else f x y
theorem q2_s {α : Type} {f : Nat → Nat → α} {a b : Nat} {v : α} : q2 f a b v a b = v := by simp [q2]
theorem q2_n {α : Type} {f : Nat → Nat → α} {a b x y : Nat} {v : α} (h : ¬ (x = a ∧ y = b)) : q2 f a b v x y = f x y := by simp [q2, h]
def s_tb (σ : qSt) (f i : Nat) (v : Int32) : qSt := (q2 σ.1 f i v, σ.2)
def s_ln (σ : qSt) (i : Nat) (v : Option (Nat × Int32)) : qSt := (σ.1, va_up σ.2.1 i v, σ.2.2)
def s_rw (σ : qSt) (i : Nat) (r : List (Nat × Int32)) : qSt := (σ.1, σ.2.1, va_up σ.2.2.1 i r, σ.2.2.2)
def s_wr (σ : qSt) (f t : Nat) (w : List qM) : qSt := (σ.1, σ.2.1, σ.2.2.1, q2 σ.2.2.2.1 f t w, σ.2.2.2.2)
def s_en (σ : qSt) (v : Int32) : qSt := (σ.1, σ.2.1, σ.2.2.1, σ.2.2.2.1, v)
def s_send (σ : qSt) (f t : Nat) (kd tm : Int32) : qSt := s_wr σ f t (σ.2.2.2.1 f t ++ [(kd, tm, σ.1 0 f)])
def q_bit (j : Nat) : Int32 := (1 : Int32) <<< (nI j &&& 31)
def q_nbit (j : Nat) : Int32 := q_bit j ^^^ (-1)
def q_has (m : Int32) (j : Nat) : Bool := decide ((m >>> (nI j &&& 31)) &&& 1 = 1)
def q_bef (t : Int32) (a : Nat) (u : Int32) (b : Nat) : Bool := decide (t < u ∨ t = u ∧ a < b)
/-- the quorum of i, as bits, of the nodes below m -/
def q_quo (k i : Nat) : Nat → Int32
  | 0 => 0
  | m + 1 => q_quo k i m ||| (if m / k = i / k ∨ m % k = i % k then q_bit m else 0)
/-- the place that a request gets, of the first p -/
def q_pl (r : List (Nat × Int32)) (a : Nat) (t : Int32) : Nat → Nat
  | 0 => 0
  | p + 1 => if q_bef t a (r.getD p (0, 0)).2 (r.getD p (0, 0)).1 then q_pl r a t p else p + 1
def q_ins (r : List (Nat × Int32)) (a : Nat) (t : Int32) : List (Nat × Int32) := r.take (q_pl r a t r.length) ++ (a, t) :: r.drop (q_pl r a t r.length)
def q_empty (σ : qSt) (i : Nat) : qSt := s_tb (s_tb (s_tb σ 3 i 0) 4 i 0) 5 i 0
/-- to each node from j on, the next c ones, that is in the set -/
def q_all (i : Nat) (set kd tm : Int32) : Nat → Nat → qSt → qSt
  | 0, _, σ => σ
  | c + 1, j, σ => q_all i set kd tm c (j + 1) (if q_has set j then s_send σ i j kd tm else σ)
def q_init : qSt := (fun _ _ => 0, fun _ => none, fun _ => [], fun _ _ => [], 0)
def q_request (n k : Nat) (σ : qSt) (i : Nat) : Int32 × qSt :=
  if σ.1 1 i = 0 then (0, q_all i (q_quo k i n) 1 (σ.1 0 i + 1) n 0 (q_empty (s_tb (s_tb (s_tb σ 0 i (σ.1 0 i + 1)) 1 i 1) 2 i (σ.1 0 i + 1)) i)) else (1, σ)
def q_enter (n k : Nat) (σ : qSt) (i : Nat) : Int32 × qSt :=
  if σ.1 1 i = 1 ∧ σ.1 3 i = q_quo k i n then (1, s_en (s_tb σ 1 i 2) (σ.2.2.2.2 + 1)) else (0, σ)
def q_release (n k : Nat) (σ : qSt) (i : Nat) : Int32 × qSt :=
  if σ.1 1 i = 2 then (0, q_all i (q_quo k i n) 3 (σ.1 2 i) n 0 (q_empty (s_tb (s_tb σ 1 i 0) 2 i 0) i)) else (1, σ)
def q_giveUp (σ : qSt) (i j : Nat) : qSt :=
  s_tb (s_tb (s_tb (s_send σ i j 5 (σ.1 2 i)) 3 i (σ.1 3 i &&& q_nbit j)) 5 i (σ.1 5 i &&& q_nbit j)) 4 i (σ.1 4 i ||| q_bit j)
def q_gives (i : Nat) : Nat → Nat → qSt → qSt
  | 0, _, σ => σ
  | c + 1, j, σ => q_gives i c (j + 1) (if q_has (σ.1 3 i &&& σ.1 5 i) j then q_giveUp σ i j else σ)
def q_locked (σ : qSt) (i j : Nat) (t : Int32) : qSt :=
  if σ.1 1 i ≠ 0 ∧ σ.1 2 i = t then s_tb (s_tb σ 3 i (σ.1 3 i ||| q_bit j)) 4 i (σ.1 4 i &&& q_nbit j) else σ
def q_failed (n : Nat) (σ : qSt) (i j : Nat) (t : Int32) : qSt :=
  if σ.1 1 i = 1 ∧ σ.1 2 i = t then q_gives i n 0 (s_tb σ 4 i (σ.1 4 i ||| q_bit j)) else σ
def q_inquire (σ : qSt) (i j : Nat) (t : Int32) : qSt :=
  if (σ.1 1 i = 1 ∧ σ.1 2 i = t) ∧ q_has (σ.1 3 i) j = true then
    (if σ.1 4 i ≠ 0 then q_giveUp σ i j else s_tb σ 5 i (σ.1 5 i ||| q_bit j))
  else σ
def q_lend (σ : qSt) (i a : Nat) (t : Int32) : qSt := s_send (s_tb (s_ln σ i (some (a, t))) 6 i 0) i a 2 t
def q_asked (σ : qSt) (i a : Nat) (t : Int32) : qSt :=
  match σ.2.1 i with
  | none => q_lend σ i a t
  | some (b, u) =>
    let σ1 := s_rw σ i (q_ins (σ.2.2.1 i) a t)
    if q_pl (σ.2.2.1 i) a t (σ.2.2.1 i).length = 0 ∧ q_bef t a u b = true then
      let σ2 := match σ.2.2.1 i with
        | [] => σ1
        | x :: _ => if q_bef x.2 x.1 u b = true then s_send σ1 i x.1 6 x.2 else σ1
      if σ.1 6 i = 0 then s_tb (s_send σ2 i b 4 u) 6 i 1 else σ2
    else s_send σ1 i a 6 t
/-- the vote is home: it goes to the first that waits -/
def q_next (σ : qSt) (i : Nat) : qSt :=
  match σ.2.2.1 i with
  | [] => σ
  | x :: r => q_lend (s_rw σ i r) i x.1 x.2
def q_home (σ : qSt) (i a : Nat) (t : Int32) (again : Bool) : qSt :=
  if σ.2.1 i = some (a, t) then
    q_next (s_tb (s_ln (if again then s_rw σ i (q_ins (σ.2.2.1 i) a t) else σ) i none) 6 i 0) i
  else σ
def q_max (x y : Int32) : Int32 := if x < y then y else x
def q_do (n : Nat) (σ : qSt) (i j : Nat) (kd t : Int32) : qSt :=
  if kd = 1 then q_asked σ i j t
  else if kd = 2 then q_locked σ i j t
  else if kd = 3 then q_home σ i j t false
  else if kd = 4 then q_inquire σ i j t
  else if kd = 5 then q_home σ i j t true
  else q_failed n σ i j t
def q_deliver (n : Nat) (σ : qSt) (f t : Nat) : Int32 × qSt :=
  match σ.2.2.2.1 f t with
  | [] => (0, σ)
  | x :: w => (x.1, q_do n (s_tb (s_wr σ f t w) 0 t (q_max (σ.1 0 t) x.2.2 + 1)) t f x.1 x.2.1)
/-- the first wire that has a message, of those from f on, then to t on -/
def q_to (σ : qSt) (f : Nat) : Nat → Nat → Option Nat
  | 0, _ => none
  | c + 1, t => if σ.2.2.2.1 f t = [] then q_to σ f c (t + 1) else some t
def q_from (n : Nat) (σ : qSt) : Nat → Nat → Option (Nat × Nat)
  | 0, _ => none
  | c + 1, f => match q_to σ f n 0 with
    | some t => some (f, t)
    | none => q_from n σ c (f + 1)
def q_settle (n : Nat) : Nat → Nat → qSt → Nat × qSt
  | 0, d, σ => (d, σ)
  | c + 1, d, σ => match q_from n σ n 0 with
    | none => (d, σ)
    | some (f, t) => q_settle n c (d + 1) (q_deliver n σ f t).2
def q_holder (σ : qSt) : Nat → Nat → Int32
  | 0, _ => -1
  | c + 1, i => if σ.1 1 i = 2 then nI i else q_holder σ c (i + 1)
def q_on (o : Option (Nat × Int32)) : Int32 := match o with
  | none => -1
  | some x => nI x.1
def q_ot (o : Option (Nat × Int32)) : Int32 := match o with
  | none => 0
  | some x => x.2
/-- the m-th of a row: its node; of a wire: a part -/
def q_at (r : List (Nat × Int32)) (m : Int32) : Int32 := if m < 0 ∨ nI r.length ≤ m then -1 else nI (r.getD m.toNatClampNeg (0, 0)).1
def q_att (r : List (Nat × Int32)) (m : Int32) : Int32 := if m < 0 ∨ nI r.length ≤ m then -1 else (r.getD m.toNatClampNeg (0, 0)).2
def q_part (w : List qM) (m what : Int32) : Int32 :=
  if m < 0 ∨ nI w.length ≤ m then -1
  else if what = 0 then (w.getD m.toNatClampNeg (0, 0, 0)).1
  else if what = 1 then (w.getD m.toNatClampNeg (0, 0, 0)).2.1
  else if what = 2 then (w.getD m.toNatClampNeg (0, 0, 0)).2.2
  else -1
/-! HOW THE CLASS HOLDS THEM -/
def qRow (dd : va_G) (ga : Nat → ClassId) (q h0 h1 h2 : Nat) (r : List (Nat × Int32)) (H : Heap) : Prop := ∃ f g : Nat → Int32, va_at dd vwCl (h0, .inr (1, [.ref h1, .ref h2, .int (nI r.length)])) H ∧ va_at dd vwCl (h1, .inl (ga 0, q, .inl f)) H ∧ va_at dd vwCl (h2, .inl (ga 0, q, .inl g)) H ∧ (∀ (j : Nat) (x : Nat × Int32), r[j]? = some x → f j = nI x.1 ∧ g j = x.2)
def qVot (dd : va_G) (h0 hr : Nat) (ln : Option (Nat × Int32)) (iq : Int32) (H : Heap) : Prop := va_at dd vwCl (h0, .inr (2, [.ref hr, .int (q_on ln), .int (q_ot ln), .int iq])) H
def q_sum (w : Nat → Nat → List qM) (f : Nat) : Nat → Nat
  | 0 => 0
  | t + 1 => q_sum w f t + (w f t).length
def qWir (dd : va_G) (ga : Nat → ClassId) (n h0 h1 h2 h3 h4 : Nat) (w : Nat → Nat → List qM) (H : Heap) : Prop := ∃ P O Y F : Nat → Int32, va_at dd vwCl (h0, .inr (3, [.int (nI n), .ref h1, .ref h2, .ref h3, .ref h4])) H ∧ va_at dd vwCl (h1, .inl (ga 0, n * n * 8 * 3, .inl P)) H ∧ va_at dd vwCl (h2, .inl (ga 0, n * n, .inl O)) H ∧ va_at dd vwCl (h3, .inl (ga 0, n * n, .inl Y)) H ∧ va_at dd vwCl (h4, .inl (ga 0, n, .inl F)) H ∧
  (∀ f t : Nat, f < n → t < n → ∃ o : Nat, o < 8 ∧ O (f * n + t) = nI o ∧ Y (f * n + t) = nI (w f t).length ∧ (w f t).length ≤ 8 ∧ ∀ (m : Nat) (x : qM), (w f t)[m]? = some x → P (((f * n + t) * 8 + (o + m) % 8) * 3) = x.1 ∧ P (((f * n + t) * 8 + (o + m) % 8) * 3 + 1) = x.2.1 ∧ P (((f * n + t) * 8 + (o + m) % 8) * 3 + 2) = x.2.2) ∧
  (∀ f : Nat, f < n → F f = nI (q_sum w f n))
end
section
set_option maxHeartbeats 4000000 in
set_option maxRecDepth 100000 in
/-- isBefore -/
theorem c_X4_isBefore (l : Launch) (dd : va_G) (ga : Nat → ClassId) (x0 x1 x2 x3 : Int32) : Met l yX4_isBefore wsX4_isBefore ({ frames := 0, cells := 0, slots := 0, locals := 0 }) (qPc dd ga [.int x0, .int x1, .int x2, .int x3] (fun H => True)) (qQi (fun r _ => r = if x1 < x3 ∨ x1 = x3 ∧ x0 < x2 then 1 else 0) (fun _ => False)) 0 0 (fun _ => False) := by
  refine Met.ofW (cc := cX4_isBefore) (maxL := 4) (ret := (some .boolean)) (by decide) rfl ?_
  intro p e s m args below meth c s₁ B hml hv
  obtain ⟨rfl, hP, hK⟩ := hv
  have hx := B.exec
  have hb := B.bytes
  have hr := B.returns
  have hts := atoms_spec (ws := wsX4_isBefore) B.pre
  have hown : s.vm.findClass RX4 = some m.cls := findClass_of_methodNamed B.named
  have hlocks := B.notSynchronized
  have hS : qS (fun _ => False) s.heap s.heap [] := qS.rf
  have hl := lv_entry ([.int x0, .int x1, .int x2, .int x3]) (n := 4) (Nat.le_of_ble_eq_true rfl)
  rw [lg_entry_eq]
  generalize (lg_sl ([.int x0, .int x1, .int x2, .int x3]) ++ List.replicate (4 - (lg_sl ([.int x0, .int x1, .int x2, .int x3])).length) Slot.unset).toArray = ls at hl ⊢
  refine lv_iload_n hx hb dX4_isBefore_0 rfl (lv_at hl 1 rfl) ?_
  refine lv_iload_n hx hb dX4_isBefore_1 rfl (lv_at hl 3 rfl) ?_
  refine lv_icmp_lt (tgt := 15) hx hb dX4_isBefore_2 (by decide) (fun c_2 => ?_) (fun c_2 => ?_)
  · refine lv_iconst (v := 1) hx hb dX4_isBefore_15 (by decide) ?_
    refine lv_goto (tgt := 20) hx hb dX4_isBefore_16 (by decide) ?_
    exact q_zret hx hb hr hlocks rfl hS (by first | rw [if_pos (Or.inl (by assumption))] | (rw [if_pos]; exact Or.inr ⟨by assumption, Int32.not_le.mp (by assumption)⟩)) dX4_isBefore_20
  · refine lv_iload_n hx hb dX4_isBefore_5 rfl (lv_at hl 1 rfl) ?_
    refine lv_iload_n hx hb dX4_isBefore_6 rfl (lv_at hl 3 rfl) ?_
    refine lv_icmp_ne (tgt := 19) hx hb dX4_isBefore_7 (by decide) (fun c_7 => ?_) (fun c_7 => ?_)
    · refine lv_iconst (v := 0) hx hb dX4_isBefore_19 (by decide) ?_
      exact q_zret hx hb hr hlocks rfl hS (by rw [if_neg]; rintro (h | ⟨h1, h2⟩) <;> first | contradiction | exact absurd h2 (Int32.not_lt.mpr (by assumption))) dX4_isBefore_20
    · refine lv_iload_n hx hb dX4_isBefore_10 rfl (lv_at hl 0 rfl) ?_
      refine lv_iload_n hx hb dX4_isBefore_11 rfl (lv_at hl 2 rfl) ?_
      refine lv_icmp_ge (tgt := 19) hx hb dX4_isBefore_12 (by decide) (fun c_12 => ?_) (fun c_12 => ?_)
      · refine lv_iconst (v := 0) hx hb dX4_isBefore_19 (by decide) ?_
        exact q_zret hx hb hr hlocks rfl hS (by rw [if_neg]; rintro (h | ⟨h1, h2⟩) <;> first | contradiction | exact absurd h2 (Int32.not_lt.mpr (by assumption))) dX4_isBefore_20
      · refine lv_iconst (v := 1) hx hb dX4_isBefore_15 (by decide) ?_
        refine lv_goto (tgt := 20) hx hb dX4_isBefore_16 (by decide) ?_
        exact q_zret hx hb hr hlocks rfl hS (by first | rw [if_pos (Or.inl (by assumption))] | (rw [if_pos]; exact Or.inr ⟨by assumption, Int32.not_le.mp (by assumption)⟩)) dX4_isBefore_20
/-- the rows' own facts -/
theorem q_befI {t u : Int32} {a b : Nat} (ha : a < 2 ^ 31) (hb : b < 2 ^ 31) : (t < u ∨ t = u ∧ nI a < nI b) ↔ q_bef t a u b = true := by
  simp only [q_bef, decide_eq_true_eq, nI_ltI ha hb]
theorem q_pl_le (r : List (Nat × Int32)) (a : Nat) (t : Int32) : ∀ p : Nat, q_pl r a t p ≤ p
  | 0 => Nat.le_refl 0
  | p + 1 => by
    unfold q_pl
    split
    · exact Nat.le_succ_of_le (q_pl_le r a t p)
    · exact Nat.le_refl _
theorem q_ins_len (r : List (Nat × Int32)) (a : Nat) (t : Int32) : (q_ins r a t).length = r.length + 1 := by
  have := q_pl_le r a t r.length
  simp only [q_ins, List.length_append, List.length_take, List.length_cons, List.length_drop]
  omega
theorem q_ins_get {r : List (Nat × Int32)} {a : Nat} {t : Int32} {j : Nat} {x : Nat × Int32} (h : (q_ins r a t)[j]? = some x) : (j < q_pl r a t r.length ∧ r[j]? = some x) ∨ (j = q_pl r a t r.length ∧ x = (a, t)) ∨ (q_pl r a t r.length < j ∧ r[j - 1]? = some x) := by
  have hp := q_pl_le r a t r.length
  unfold q_ins at h
  generalize q_pl r a t r.length = P at *
  rw [List.getElem?_append, List.length_take, Nat.min_eq_left hp] at h
  split at h
  · rename_i hj
    rw [List.getElem?_take_of_lt hj] at h
    exact Or.inl ⟨hj, h⟩
  · rename_i hj
    rcases Nat.lt_or_ge P j with hlt | hge
    · right; right
      refine ⟨hlt, ?_⟩
      obtain ⟨d, hd⟩ : ∃ d, j - P = d + 1 := ⟨j - P - 1, by omega⟩
      rw [hd, List.getElem?_cons_succ, List.getElem?_drop] at h
      rw [← h]
      congr 1
      omega
    · right; left
      have : j = P := by omega
      subst this
      rw [Nat.sub_self, List.getElem?_cons_zero] at h
      exact ⟨rfl, (Option.some.inj h).symm⟩
theorem q_gd {α : Type} {r : List α} {d : α} {p : Nat} (h : p < r.length) : r[p]? = some (r.getD p d) := by
  rw [List.getD_eq_getElem?_getD, List.getElem?_eq_getElem h]; rfl
set_option maxHeartbeats 4000000 in
set_option maxRecDepth 100000 in
/-- X1_nodeAt -/
theorem c_X1_nodeAt (l : Launch) (dd : va_G) (ga : Nat → ClassId) (q h0 h1 h2 : Nat) (r : List (Nat × Int32)) (hq : q < 2 ^ 31) (hrq : r.length ≤ q) (x : Int32) : Met l yX1_nodeAt wsX1_nodeAt ({ frames := 0, cells := 0, slots := 0, locals := 0 }) (qPc dd ga [.ref h0, .int x] (fun H => qRow dd ga q h0 h1 h2 r H)) (qQi (fun v _ => v = q_at r x) (fun _ => False)) 0 0 (fun _ => False) := by
  refine Met.ofW (cc := cX1_nodeAt) (maxL := 2) (ret := (some .int)) (by decide) rfl ?_
  intro p e s m args below meth c s₁ B hml hv
  obtain ⟨rfl, ⟨f, g, hP, hF, hG, hJ⟩, hK⟩ := hv
  have hx := B.exec
  have hb := B.bytes
  have hr := B.returns
  have hts := atoms_spec (ws := wsX1_nodeAt) B.pre
  have hown : s.vm.findClass RX1 = some m.cls := findClass_of_methodNamed B.named
  have hlocks := B.notSynchronized
  have hS : qS (fun _ => False) s.heap s.heap [] := qS.rf
  have hl := lv_entry ([.ref h0, .int x]) (n := 2) (Nat.le_of_ble_eq_true rfl)
  rw [lg_entry_eq]
  generalize (lg_sl ([.ref h0, .int x]) ++ List.replicate (2 - (lg_sl ([.ref h0, .int x])).length) Slot.unset).toArray = ls at hl ⊢
  have hin1 : ∀ w ∈ wsX10, w ∈ wsX1_nodeAt := by decide +kernel
  refine lv_iload_n hx hb dX1_nodeAt_0 rfl (lv_at hl 1 rfl) ?_
  refine lv_if_lt (tgt := 21) hx hb dX1_nodeAt_1 (by decide) (fun c_1 => ?_) (fun c_1 => ?_)
  · refine lv_iconst (v := (-1)) hx hb dX1_nodeAt_21 (by decide) ?_
    exact q_iret hx hb hr hlocks hS (by unfold q_at; rw [if_pos (by first | exact Or.inl (by assumption) | exact Or.inr (by assumption))]) dX1_nodeAt_22
  · refine lv_iload_n hx hb dX1_nodeAt_4 rfl (lv_at hl 1 rfl) ?_
    refine lv_aload_n hx hb dX1_nodeAt_5 rfl (lv_at hl 0 rfl) ?_
    refine qr_get (ci := 1) (C := RX1) (T := TX1) (N := 3) hx hb hts hin1 hown hK hP rfl 2 (by decide) (hts (.fieldLink RX1 18 "QuorumLock$Row" "length" "I") (by decide +kernel)) rfl dX1_nodeAt_6 ?_
    refine lv_icmp_ge (tgt := 21) hx hb dX1_nodeAt_9 (by decide) (fun c_9 => ?_) (fun c_9 => ?_)
    · refine lv_iconst (v := (-1)) hx hb dX1_nodeAt_21 (by decide) ?_
      exact q_iret hx hb hr hlocks hS (by unfold q_at; rw [if_pos (by first | exact Or.inl (by assumption) | exact Or.inr (by assumption))]) dX1_nodeAt_22
    · refine lv_aload_n hx hb dX1_nodeAt_12 rfl (lv_at hl 0 rfl) ?_
      refine qr_get (ci := 1) (C := RX1) (T := TX1) (N := 3) hx hb hts hin1 hown hK hP rfl 0 (by decide) (hts (.fieldLink RX1 9 "QuorumLock$Row" "waitingNodes" "[I") (by decide +kernel)) rfl dX1_nodeAt_13 ?_
      refine lv_iload_n hx hb dX1_nodeAt_16 rfl (lv_at hl 1 rfl) ?_
      obtain ⟨j, hj, ej⟩ : ∃ j : Nat, j < r.length ∧ x = nI j := by
        rcases pk_ix x (n := r.length) (by omega) with h | h | h
        · exact absurd h c_1
        · exact absurd h c_9
        · exact h
      refine qr_iald (v := (f j)) hx hb hK hF j (by omega) (by omega) ej rfl dX1_nodeAt_17 ?_
      refine lv_goto (tgt := 22) hx hb dX1_nodeAt_18 (by decide) ?_
      exact q_iret hx hb hr hlocks hS (by unfold q_at; rw [if_neg (by rintro (h | h) <;> contradiction), ej, nI_clamp (by omega)]; exact (hJ j _ (q_gd hj)).1) dX1_nodeAt_22
set_option maxHeartbeats 4000000 in
set_option maxRecDepth 100000 in
/-- X1_timeAt -/
theorem c_X1_timeAt (l : Launch) (dd : va_G) (ga : Nat → ClassId) (q h0 h1 h2 : Nat) (r : List (Nat × Int32)) (hq : q < 2 ^ 31) (hrq : r.length ≤ q) (x : Int32) : Met l yX1_timeAt wsX1_timeAt ({ frames := 0, cells := 0, slots := 0, locals := 0 }) (qPc dd ga [.ref h0, .int x] (fun H => qRow dd ga q h0 h1 h2 r H)) (qQi (fun v _ => v = q_att r x) (fun _ => False)) 0 0 (fun _ => False) := by
  refine Met.ofW (cc := cX1_timeAt) (maxL := 2) (ret := (some .int)) (by decide) rfl ?_
  intro p e s m args below meth c s₁ B hml hv
  obtain ⟨rfl, ⟨f, g, hP, hF, hG, hJ⟩, hK⟩ := hv
  have hx := B.exec
  have hb := B.bytes
  have hr := B.returns
  have hts := atoms_spec (ws := wsX1_timeAt) B.pre
  have hown : s.vm.findClass RX1 = some m.cls := findClass_of_methodNamed B.named
  have hlocks := B.notSynchronized
  have hS : qS (fun _ => False) s.heap s.heap [] := qS.rf
  have hl := lv_entry ([.ref h0, .int x]) (n := 2) (Nat.le_of_ble_eq_true rfl)
  rw [lg_entry_eq]
  generalize (lg_sl ([.ref h0, .int x]) ++ List.replicate (2 - (lg_sl ([.ref h0, .int x])).length) Slot.unset).toArray = ls at hl ⊢
  have hin1 : ∀ w ∈ wsX10, w ∈ wsX1_timeAt := by decide +kernel
  refine lv_iload_n hx hb dX1_timeAt_0 rfl (lv_at hl 1 rfl) ?_
  refine lv_if_lt (tgt := 21) hx hb dX1_timeAt_1 (by decide) (fun c_1 => ?_) (fun c_1 => ?_)
  · refine lv_iconst (v := (-1)) hx hb dX1_timeAt_21 (by decide) ?_
    exact q_iret hx hb hr hlocks hS (by unfold q_att; rw [if_pos (by first | exact Or.inl (by assumption) | exact Or.inr (by assumption))]) dX1_timeAt_22
  · refine lv_iload_n hx hb dX1_timeAt_4 rfl (lv_at hl 1 rfl) ?_
    refine lv_aload_n hx hb dX1_timeAt_5 rfl (lv_at hl 0 rfl) ?_
    refine qr_get (ci := 1) (C := RX1) (T := TX1) (N := 3) hx hb hts hin1 hown hK hP rfl 2 (by decide) (hts (.fieldLink RX1 18 "QuorumLock$Row" "length" "I") (by decide +kernel)) rfl dX1_timeAt_6 ?_
    refine lv_icmp_ge (tgt := 21) hx hb dX1_timeAt_9 (by decide) (fun c_9 => ?_) (fun c_9 => ?_)
    · refine lv_iconst (v := (-1)) hx hb dX1_timeAt_21 (by decide) ?_
      exact q_iret hx hb hr hlocks hS (by unfold q_att; rw [if_pos (by first | exact Or.inl (by assumption) | exact Or.inr (by assumption))]) dX1_timeAt_22
    · refine lv_aload_n hx hb dX1_timeAt_12 rfl (lv_at hl 0 rfl) ?_
      refine qr_get (ci := 1) (C := RX1) (T := TX1) (N := 3) hx hb hts hin1 hown hK hP rfl 1 (by decide) (hts (.fieldLink RX1 15 "QuorumLock$Row" "waitingTimes" "[I") (by decide +kernel)) rfl dX1_timeAt_13 ?_
      refine lv_iload_n hx hb dX1_timeAt_16 rfl (lv_at hl 1 rfl) ?_
      obtain ⟨j, hj, ej⟩ : ∃ j : Nat, j < r.length ∧ x = nI j := by
        rcases pk_ix x (n := r.length) (by omega) with h | h | h
        · exact absurd h c_1
        · exact absurd h c_9
        · exact h
      refine qr_iald (v := (g j)) hx hb hK hG j (by omega) (by omega) ej rfl dX1_timeAt_17 ?_
      refine lv_goto (tgt := 22) hx hb dX1_timeAt_18 (by decide) ?_
      exact q_iret hx hb hr hlocks hS (by unfold q_att; rw [if_neg (by rintro (h | h) <;> contradiction), ej, nI_clamp (by omega)]; exact (hJ j _ (q_gd hj)).2) dX1_timeAt_22
set_option maxHeartbeats 4000000 in
set_option maxRecDepth 100000 in
/-- Row.insert -/
theorem c_X1_insert (l : Launch) (dd : va_G) (ga : Nat → ClassId) (q h0 h1 h2 : Nat) (r : List (Nat × Int32)) (hq : q < 2 ^ 31) (hrq : r.length < q) (n01 : h0 ≠ h1) (n02 : h0 ≠ h2) (n12 : h1 ≠ h2) (a : Nat) (t : Int32) (ha : a < 2 ^ 31) (hr31 : ∀ x ∈ r, x.1 < 2 ^ 31) : Met l yX1_insert wsX1_insert ({ frames := 1, cells := 0, slots := 0, locals := 23 }) (qPc dd ga [.ref h0, .int (nI a), .int t] (fun H => qRow dd ga q h0 h1 h2 r H)) (qQi (fun v H => v = nI (q_pl r a t r.length) ∧ qRow dd ga q h0 h1 h2 (q_ins r a t) H) (fun q => q = h0 ∨ q = h1 ∨ q = h2)) 0 0 (fun q => q = h0 ∨ q = h1 ∨ q = h2) := by
  refine Met.ofW (cc := cX1_insert) (maxL := 4) (ret := (some .int)) (by decide) rfl ?_
  intro p e s m args below meth c s₁ B hml hv
  obtain ⟨rfl, ⟨f, g, hP, hF, hG, hJ⟩, hK⟩ := hv
  have hx := B.exec
  have hb := B.bytes
  have hr := B.returns
  have hts := atoms_spec (ws := wsX1_insert) B.pre
  have hown : s.vm.findClass RX1 = some m.cls := findClass_of_methodNamed B.named
  have hlocks := B.notSynchronized
  have hS : qS (fun q => q = h0 ∨ q = h1 ∨ q = h2) s.heap s.heap [] := qS.rf
  have hl := lv_entry ([.ref h0, .int (nI a), .int t]) (n := 4) (Nat.le_of_ble_eq_true rfl)
  rw [lg_entry_eq]
  generalize (lg_sl ([.ref h0, .int (nI a), .int t]) ++ List.replicate (4 - (lg_sl ([.ref h0, .int (nI a), .int t])).length) Slot.unset).toArray = ls at hl ⊢
  have hin1 : ∀ w ∈ wsX10, w ∈ wsX1_insert := by decide +kernel
  have hdone : ∀ (p9 : Nat) (F G : Nat → Int32) (H : Heap) (locs : List Loc) (ls : Array Slot), p9 ≤ r.length → q_pl r a t r.length = p9 → (∀ j : Nat, j < p9 → F j = f j ∧ G j = g j) → (∀ j : Nat, p9 < j → j ≤ r.length → F j = f (j - 1) ∧ G j = g (j - 1)) → va_at dd vwCl (h0, .inr (1, [.ref h1, .ref h2, .int (nI r.length)])) H → va_at dd vwCl (h1, .inl (ga 0, q, .inl F)) H → va_at dd vwCl (h2, .inl (ga 0, q, .inl G)) H → qS (fun q => q = h0 ∨ q = h1 ∨ q = h2) s.heap H locs → lv_has ls 4 [(3, .int (nI p9)), (0, .ref h0), (1, .int (nI a)), (2, .int t)] → W p l e (headSpec wsX1_insert ({ frames := 1, cells := 0, slots := 0, locals := 23 })).room s m (([.ref h0, .int (nI a), .int t] : List Value).toArray) below meth c H locs 0 0 (MQ below (qQi (fun v H => v = nI (q_pl r a t r.length) ∧ qRow dd ga q h0 h1 h2 (q_ins r a t) H) (fun q => q = h0 ∨ q = h1 ∨ q = h2)) (([.ref h0, .int (nI a), .int t] : List Value).toArray) s 0 0 (fun q => q = h0 ∨ q = h1 ∨ q = h2)) (F0 m 81 ls []) := by
    intro p9 F G H locs ls hp he hi1 hi2 hP hF hG hS hl
    refine lv_aload_n hx hb dX1_insert_81 rfl (lv_at hl 1 rfl) ?_
    refine qr_get (ci := 1) (C := RX1) (T := TX1) (N := 3) hx hb hts hin1 hown hK hP rfl 0 (by decide) (hts (.fieldLink RX1 9 "QuorumLock$Row" "waitingNodes" "[I") (by decide +kernel)) rfl dX1_insert_82 ?_
    refine lv_iload_n hx hb dX1_insert_85 rfl (lv_at hl 0 rfl) ?_
    refine lv_iload_n hx hb dX1_insert_86 rfl (lv_at hl 2 rfl) ?_
    refine qr_iast hx hb hK hF hS (Or.inr (Or.inl rfl)) p9 (by omega) (by omega) rfl dX1_insert_87 (fun H locs hz9 ho9 hat9 hS => ?_)
    have hF := hat9
    have hP := qa_kept hP (ho9 _ n01)
    have hG := qa_kept hG (ho9 _ n12.symm)
    refine lv_aload_n hx hb dX1_insert_88 rfl (lv_at hl 1 rfl) ?_
    refine qr_get (ci := 1) (C := RX1) (T := TX1) (N := 3) hx hb hts hin1 hown hK hP rfl 1 (by decide) (hts (.fieldLink RX1 15 "QuorumLock$Row" "waitingTimes" "[I") (by decide +kernel)) rfl dX1_insert_89 ?_
    refine lv_iload_n hx hb dX1_insert_92 rfl (lv_at hl 0 rfl) ?_
    refine lv_iload_n hx hb dX1_insert_93 rfl (lv_at hl 3 rfl) ?_
    refine qr_iast hx hb hK hG hS (Or.inr (Or.inr rfl)) p9 (by omega) (by omega) rfl dX1_insert_94 (fun H locs hz9 ho9 hat9 hS => ?_)
    have hG := hat9
    have hP := qa_kept hP (ho9 _ n02)
    have hF := qa_kept hF (ho9 _ n12)
    refine lv_aload_n hx hb dX1_insert_95 rfl (lv_at hl 1 rfl) ?_
    refine lv_dup hx hb dX1_insert_96 rfl ?_
    refine qr_get (ci := 1) (C := RX1) (T := TX1) (N := 3) hx hb hts hin1 hown hK hP rfl 2 (by decide) (hts (.fieldLink RX1 18 "QuorumLock$Row" "length" "I") (by decide +kernel)) rfl dX1_insert_97 ?_
    refine lv_iconst (v := 1) hx hb dX1_insert_100 (by decide) ?_
    refine lv_iadd hx hb dX1_insert_101 ?_
    refine q_ti (y := nI (r.length + 1)) (nI_1 _) ?_
    refine qr_put (ci := 1) (C := RX1) (T := TX1) (N := 3) hx hb hts hin1 tyX1 tyX1_ok nmX1 hown hK hP hS (Or.inl rfl) rfl 2 (by decide) (hts (.fieldLink RX1 18 "QuorumLock$Row" "length" "I") (by decide +kernel)) rfl rfl rfl (Nat.le_of_ble_eq_true rfl) dX1_insert_102 (fun H locs hz9 ho9 hat9 hS => ?_)
    have hP : va_at dd vwCl (h0, .inr (1, [.ref h1, .ref h2, .int (nI (r.length + 1))])) H := hat9
    have hF := qa_kept hF (ho9 _ n01.symm)
    have hG := qa_kept hG (ho9 _ n02.symm)
    refine lv_iload_n hx hb dX1_insert_105 rfl (lv_at hl 0 rfl) ?_
    refine q_iret hx hb hr hlocks hS ⟨by rw [he], upd F p9 (nI a), upd G p9 t, by rw [q_ins_len]; exact hP, hF, hG, fun j x hj => ?_⟩ dX1_insert_106
    rcases q_ins_get hj with ⟨h1, h2⟩ | ⟨h1, h2⟩ | ⟨h1, h2⟩
    · rw [he] at h1
      have := hJ j x h2
      have h3 := hi1 j h1
      exact ⟨by simp [upd, Nat.ne_of_lt h1, h3.1, this.1], by simp [upd, Nat.ne_of_lt h1, h3.2, this.2]⟩
    · rw [he] at h1
      subst h1 h2
      exact ⟨by simp [upd], by simp [upd]⟩
    · rw [he] at h1
      have h4 := (List.getElem?_eq_some_iff.mp h2).1
      have := hJ (j - 1) x h2
      have h3 := hi2 j h1 (by omega)
      exact ⟨by simp [upd, Nat.ne_of_gt h1, h3.1, this.1], by simp [upd, Nat.ne_of_gt h1, h3.2, this.2]⟩
  have hloop : ∀ (p9 : Nat) (F G : Nat → Int32) (H : Heap) (locs : List Loc) (ls : Array Slot), p9 ≤ r.length → q_pl r a t r.length = q_pl r a t p9 → (∀ j : Nat, j < p9 → F j = f j ∧ G j = g j) → (∀ j : Nat, p9 < j → j ≤ r.length → F j = f (j - 1) ∧ G j = g (j - 1)) → va_at dd vwCl (h0, .inr (1, [.ref h1, .ref h2, .int (nI r.length)])) H → va_at dd vwCl (h1, .inl (ga 0, q, .inl F)) H → va_at dd vwCl (h2, .inl (ga 0, q, .inl G)) H → qS (fun q => q = h0 ∨ q = h1 ∨ q = h2) s.heap H locs → lv_has ls 4 [(3, .int (nI p9)), (0, .ref h0), (1, .int (nI a)), (2, .int t)] → W p l e (headSpec wsX1_insert ({ frames := 1, cells := 0, slots := 0, locals := 23 })).room s m (([.ref h0, .int (nI a), .int t] : List Value).toArray) below meth c H locs 0 0 (MQ below (qQi (fun v H => v = nI (q_pl r a t r.length) ∧ qRow dd ga q h0 h1 h2 (q_ins r a t) H) (fun q => q = h0 ∨ q = h1 ∨ q = h2)) (([.ref h0, .int (nI a), .int t] : List Value).toArray) s 0 0 (fun q => q = h0 ∨ q = h1 ∨ q = h2)) (F0 m 19 ls []) := by
    intro p9
    induction p9 with
    | zero =>
      intro F G H locs ls hp he hi1 hi2 hP hF hG hS hl
      refine lv_iload_n hx hb dX1_insert_19 rfl (lv_at hl 0 rfl) ?_
      refine lv_if_le (tgt := 81) hx hb dX1_insert_20 (by decide) (fun c_20 => ?_) (fun c_20 => absurd (by rw [nI_0]; decide) c_20)
      exact hdone 0 F G H locs ls hp he hi1 hi2 hP hF hG hS (lv_sub hl [0, 1, 2, 3] rfl)
    | succ p9 ih =>
      intro F G H locs ls hp he hi1 hi2 hP hF hG hS hl
      have hx9 := q_gd (d := (0, 0)) (show p9 < r.length by omega)
      have hm9 := hr31 _ (List.mem_of_getElem? hx9)
      have hj9 := hJ p9 _ hx9
      have hf9 := hi1 p9 (by omega)
      refine lv_iload_n hx hb dX1_insert_19 rfl (lv_at hl 0 rfl) ?_
      refine lv_if_le (tgt := 81) hx hb dX1_insert_20 (by decide) (fun c_20 => absurd c_20 (nI_nle (by omega) (by omega))) (fun c_20 => ?_)
      refine lv_iload_n hx hb dX1_insert_23 rfl (lv_at hl 2 rfl) ?_
      refine lv_iload_n hx hb dX1_insert_24 rfl (lv_at hl 3 rfl) ?_
      refine lv_aload_n hx hb dX1_insert_25 rfl (lv_at hl 1 rfl) ?_
      refine qr_get (ci := 1) (C := RX1) (T := TX1) (N := 3) hx hb hts hin1 hown hK hP rfl 0 (by decide) (hts (.fieldLink RX1 9 "QuorumLock$Row" "waitingNodes" "[I") (by decide +kernel)) rfl dX1_insert_26 ?_
      refine lv_iload_n hx hb dX1_insert_29 rfl (lv_at hl 0 rfl) ?_
      refine lv_iconst (v := 1) hx hb dX1_insert_30 (by decide) ?_
      refine lv_isub hx hb dX1_insert_31 ?_
      refine q_ti (y := nI p9) (nI_pred _) ?_
      refine qr_iald (v := (F p9)) hx hb hK hF p9 (by omega) (by omega) rfl rfl dX1_insert_32 ?_
      refine lv_aload_n hx hb dX1_insert_33 rfl (lv_at hl 1 rfl) ?_
      refine qr_get (ci := 1) (C := RX1) (T := TX1) (N := 3) hx hb hts hin1 hown hK hP rfl 1 (by decide) (hts (.fieldLink RX1 15 "QuorumLock$Row" "waitingTimes" "[I") (by decide +kernel)) rfl dX1_insert_34 ?_
      refine lv_iload_n hx hb dX1_insert_37 rfl (lv_at hl 0 rfl) ?_
      refine lv_iconst (v := 1) hx hb dX1_insert_38 (by decide) ?_
      refine lv_isub hx hb dX1_insert_39 ?_
      refine q_ti (y := nI p9) (nI_pred _) ?_
      refine qr_iald (v := (G p9)) hx hb hK hG p9 (by omega) (by omega) rfl rfl dX1_insert_40 ?_
      refine qc_i (va_runSN (As := [.int (nI a), .int t, .int (F p9), .int (G p9)]) (rest := []) (host := "QuorumLock") ⟨hx, hb, hml, hown, hts⟩ (c_X4_isBefore l dd ga (nI a) t (F p9) (G p9)) ⟨va_cnB 4 hts gX1_insert_X4_isBefore_n22 rfl rfl rfl hK.2.1 (hts (.initialized RX4) (by decide +kernel)) (by decide +kernel) ⟨Nat.le_of_ble_eq_true rfl, Nat.le_of_ble_eq_true rfl⟩, hts (.static yX4_isBefore) (by decide +kernel), trivial⟩ (qpreS hK trivial) rfl rfl hl.1 rfl (lv_room (Nat.le_of_ble_eq_true rfl)) dX1_insert_41 ⟨Nat.zero_le _, Nat.zero_le _⟩) hS (fun q h => h.elim) (fun v41 H locs hp9 hz9 ho9 hS => ?_)
      rw [hf9.1, hf9.2, hj9.1, hj9.2] at hp9
      have hP := qa_kept hP (ho9 _ (fun h => h))
      have hF := qa_kept hF (ho9 _ (fun h => h))
      have hG := qa_kept hG (ho9 _ (fun h => h))
      refine lv_if_eq (tgt := 81) hx hb dX1_insert_44 (by decide) (fun c_44 => ?_) (fun c_44 => ?_)
      · have hb9 : ¬ q_bef t a (r.getD p9 (0, 0)).2 (r.getD p9 (0, 0)).1 = true := fun h => by rw [if_pos ((q_befI ha hm9).mpr h)] at hp9; rw [hp9] at c_44; exact absurd c_44 (by decide)
        exact hdone (p9 + 1) F G _ _ ls hp (by rw [he, q_pl, if_neg hb9]) hi1 hi2 hP hF hG hS (lv_sub hl [0, 1, 2, 3] rfl)
      · have hb9 : q_bef t a (r.getD p9 (0, 0)).2 (r.getD p9 (0, 0)).1 = true := by
          rcases hh : q_bef t a (r.getD p9 (0, 0)).2 (r.getD p9 (0, 0)).1 with _ | _
          · rw [if_neg (fun h => by rw [(q_befI ha hm9).mp h] at hh; cases hh)] at hp9; exact absurd hp9 c_44
          · rfl
        refine lv_aload_n hx hb dX1_insert_47 rfl (lv_at hl 1 rfl) ?_
        refine qr_get (ci := 1) (C := RX1) (T := TX1) (N := 3) hx hb hts hin1 hown hK hP rfl 0 (by decide) (hts (.fieldLink RX1 9 "QuorumLock$Row" "waitingNodes" "[I") (by decide +kernel)) rfl dX1_insert_48 ?_
        refine lv_iload_n hx hb dX1_insert_51 rfl (lv_at hl 0 rfl) ?_
        refine lv_aload_n hx hb dX1_insert_52 rfl (lv_at hl 1 rfl) ?_
        refine qr_get (ci := 1) (C := RX1) (T := TX1) (N := 3) hx hb hts hin1 hown hK hP rfl 0 (by decide) (hts (.fieldLink RX1 9 "QuorumLock$Row" "waitingNodes" "[I") (by decide +kernel)) rfl dX1_insert_53 ?_
        refine lv_iload_n hx hb dX1_insert_56 rfl (lv_at hl 0 rfl) ?_
        refine lv_iconst (v := 1) hx hb dX1_insert_57 (by decide) ?_
        refine lv_isub hx hb dX1_insert_58 ?_
        refine q_ti (y := nI p9) (nI_pred _) ?_
        refine qr_iald (v := (F p9)) hx hb hK hF p9 (by omega) (by omega) rfl rfl dX1_insert_59 ?_
        refine qr_iast hx hb hK hF hS (Or.inr (Or.inl rfl)) (p9 + 1) (by omega) (by omega) rfl dX1_insert_60 (fun H locs hz9 ho9 hat9 hS => ?_)
        have hF := hat9
        have hP := qa_kept hP (ho9 _ n01)
        have hG := qa_kept hG (ho9 _ n12.symm)
        refine lv_aload_n hx hb dX1_insert_61 rfl (lv_at hl 1 rfl) ?_
        refine qr_get (ci := 1) (C := RX1) (T := TX1) (N := 3) hx hb hts hin1 hown hK hP rfl 1 (by decide) (hts (.fieldLink RX1 15 "QuorumLock$Row" "waitingTimes" "[I") (by decide +kernel)) rfl dX1_insert_62 ?_
        refine lv_iload_n hx hb dX1_insert_65 rfl (lv_at hl 0 rfl) ?_
        refine lv_aload_n hx hb dX1_insert_66 rfl (lv_at hl 1 rfl) ?_
        refine qr_get (ci := 1) (C := RX1) (T := TX1) (N := 3) hx hb hts hin1 hown hK hP rfl 1 (by decide) (hts (.fieldLink RX1 15 "QuorumLock$Row" "waitingTimes" "[I") (by decide +kernel)) rfl dX1_insert_67 ?_
        refine lv_iload_n hx hb dX1_insert_70 rfl (lv_at hl 0 rfl) ?_
        refine lv_iconst (v := 1) hx hb dX1_insert_71 (by decide) ?_
        refine lv_isub hx hb dX1_insert_72 ?_
        refine q_ti (y := nI p9) (nI_pred _) ?_
        refine qr_iald (v := (G p9)) hx hb hK hG p9 (by omega) (by omega) rfl rfl dX1_insert_73 ?_
        refine qr_iast hx hb hK hG hS (Or.inr (Or.inr rfl)) (p9 + 1) (by omega) (by omega) rfl dX1_insert_74 (fun H locs hz9 ho9 hat9 hS => ?_)
        have hG := hat9
        have hP := qa_kept hP (ho9 _ n02)
        have hF := qa_kept hF (ho9 _ n12)
        refine lv_iinc (v := nI p9) (lv' := [(3, .int (nI p9)), (0, .ref h0), (1, .int (nI a)), (2, .int t)]) hx hb dX1_insert_75 hl (k := 0) rfl (pk_m1 _) (by decide) rfl (fun ls hl => ?_)
        refine lv_goto (tgt := 19) hx hb dX1_insert_78 (by decide) ?_
        refine ih (upd F (p9 + 1) (F p9)) (upd G (p9 + 1) (G p9)) _ _ ls (by omega) (by rw [he, q_pl, if_pos hb9]) (fun j hj => ?_) (fun j hj1 hj2 => ?_) hP hF hG hS (lv_sub hl [0, 1, 2, 3] rfl)
        · have := hi1 j (by omega)
          simp only [upd, if_neg (show ¬ j = p9 + 1 by omega)]
          exact this
        · rcases Nat.lt_or_ge (p9 + 1) j with h | h
          · have := hi2 j h hj2
            simp only [upd, if_neg (show ¬ j = p9 + 1 by omega)]
            exact this
          · have : j = p9 + 1 := by omega
            subst this
            simp only [upd, if_true, Nat.add_sub_cancel]
            exact hf9
  refine lv_aload_n hx hb dX1_insert_0 rfl (lv_at hl 0 rfl) ?_
  refine qr_get (ci := 1) (C := RX1) (T := TX1) (N := 3) hx hb hts hin1 hown hK hP rfl 2 (by decide) (hts (.fieldLink RX1 18 "QuorumLock$Row" "length" "I") (by decide +kernel)) rfl dX1_insert_1 ?_
  refine lv_aload_n hx hb dX1_insert_4 rfl (lv_at hl 0 rfl) ?_
  refine qr_get (ci := 1) (C := RX1) (T := TX1) (N := 3) hx hb hts hin1 hown hK hP rfl 0 (by decide) (hts (.fieldLink RX1 9 "QuorumLock$Row" "waitingNodes" "[I") (by decide +kernel)) rfl dX1_insert_5 ?_
  refine qr_alen hx hb hK hF dX1_insert_8 ?_
  refine lv_icmp_lt (tgt := 14) hx hb dX1_insert_9 (by decide) (fun c_9 => ?_) (fun c_9 => absurd (nI_lt hrq hq) c_9)
  refine lv_aload_n hx hb dX1_insert_14 rfl (lv_at hl 0 rfl) ?_
  refine qr_get (ci := 1) (C := RX1) (T := TX1) (N := 3) hx hb hts hin1 hown hK hP rfl 2 (by decide) (hts (.fieldLink RX1 18 "QuorumLock$Row" "length" "I") (by decide +kernel)) rfl dX1_insert_15 ?_
  refine lv_istore_n (lv' := [(3, .int (nI r.length)), (0, .ref h0), (1, .int (nI a)), (2, .int t)]) hx hb dX1_insert_18 rfl hl (by decide) rfl (fun ls hl => ?_)
  exact hloop r.length f g _ _ ls (Nat.le_refl _) rfl (fun j _ => ⟨rfl, rfl⟩) (fun j h1 h2 => by omega) hP hF hG hS (lv_sub hl [0, 1, 2, 3] rfl)
set_option maxHeartbeats 4000000 in
set_option maxRecDepth 100000 in
/-- Row.removeFirst -/
theorem c_X1_removeFirst (l : Launch) (dd : va_G) (ga : Nat → ClassId) (q h0 h1 h2 : Nat) (x0 : Nat × Int32) (r' : List (Nat × Int32)) (hq : q < 2 ^ 31) (hrq : r'.length < q) (n01 : h0 ≠ h1) (n02 : h0 ≠ h2) (n12 : h1 ≠ h2) : Met l yX1_removeFirst wsX1_removeFirst ({ frames := 1, cells := 0, slots := 0, locals := 21 }) (qPc dd ga [.ref h0] (fun H => qRow dd ga q h0 h1 h2 (x0 :: r') H)) (qQv (fun H => qRow dd ga q h0 h1 h2 r' H) (fun q => q = h0 ∨ q = h1 ∨ q = h2)) 0 0 (fun q => q = h0 ∨ q = h1 ∨ q = h2) := by
  refine Met.ofW (cc := cX1_removeFirst) (maxL := 2) (ret := none) (by decide) rfl ?_
  intro p e s m args below meth c s₁ B hml hv
  obtain ⟨rfl, ⟨f, g, hP, hF, hG, hJ⟩, hK⟩ := hv
  have hx := B.exec
  have hb := B.bytes
  have hr := B.returns
  have hts := atoms_spec (ws := wsX1_removeFirst) B.pre
  have hown : s.vm.findClass RX1 = some m.cls := findClass_of_methodNamed B.named
  have hlocks := B.notSynchronized
  have hS : qS (fun q => q = h0 ∨ q = h1 ∨ q = h2) s.heap s.heap [] := qS.rf
  have hl := lv_entry ([.ref h0]) (n := 2) (Nat.le_of_ble_eq_true rfl)
  rw [lg_entry_eq]
  generalize (lg_sl ([.ref h0]) ++ List.replicate (2 - (lg_sl ([.ref h0])).length) Slot.unset).toArray = ls at hl ⊢
  have hin1 : ∀ w ∈ wsX10, w ∈ wsX1_removeFirst := by decide +kernel
  have hP : va_at dd vwCl (h0, .inr (1, [.ref h1, .ref h2, .int (nI (r'.length + 1))])) s.heap := hP
  have hloop : ∀ (c9 i9 : Nat) (F G : Nat → Int32) (H : Heap) (locs : List Loc) (ls : Array Slot), i9 + c9 = r'.length → (∀ j : Nat, j < i9 → F j = f (j + 1) ∧ G j = g (j + 1)) → (∀ j : Nat, i9 ≤ j → F j = f j ∧ G j = g j) → va_at dd vwCl (h0, .inr (1, [.ref h1, .ref h2, .int (nI (r'.length + 1))])) H → va_at dd vwCl (h1, .inl (ga 0, q, .inl F)) H → va_at dd vwCl (h2, .inl (ga 0, q, .inl G)) H → qS (fun q => q = h0 ∨ q = h1 ∨ q = h2) s.heap H locs → lv_has ls 2 [(1, .int (nI (i9 + 1))), (0, .ref h0)] → W p l e (headSpec wsX1_removeFirst ({ frames := 1, cells := 0, slots := 0, locals := 21 })).room s m (([.ref h0] : List Value).toArray) below meth c H locs 0 0 (MQ below (qQv (fun H => qRow dd ga q h0 h1 h2 r' H) (fun q => q = h0 ∨ q = h1 ∨ q = h2)) (([.ref h0] : List Value).toArray) s 0 0 (fun q => q = h0 ∨ q = h1 ∨ q = h2)) (F0 m 2 ls []) := by
    intro c9
    induction c9 with
    | zero =>
      intro i9 F G H locs ls hc hi1 hi2 hP hF hG hS hl
      refine lv_iload_n hx hb dX1_removeFirst_2 rfl (lv_at hl 0 rfl) ?_
      refine lv_aload_n hx hb dX1_removeFirst_3 rfl (lv_at hl 1 rfl) ?_
      refine qr_get (ci := 1) (C := RX1) (T := TX1) (N := 3) hx hb hts hin1 hown hK hP rfl 2 (by decide) (hts (.fieldLink RX1 18 "QuorumLock$Row" "length" "I") (by decide +kernel)) rfl dX1_removeFirst_4 ?_
      refine lv_icmp_ge (tgt := 44) hx hb dX1_removeFirst_7 (by decide) (fun c_7 => ?_) (fun c_7 => absurd (nI_le (show r'.length + 1 ≤ i9 + 1 by omega) (by omega)) c_7)
      refine lv_aload_n hx hb dX1_removeFirst_44 rfl (lv_at hl 1 rfl) ?_
      refine lv_aload_n hx hb dX1_removeFirst_45 rfl (lv_at hl 1 rfl) ?_
      refine qr_get (ci := 1) (C := RX1) (T := TX1) (N := 3) hx hb hts hin1 hown hK hP rfl 2 (by decide) (hts (.fieldLink RX1 18 "QuorumLock$Row" "length" "I") (by decide +kernel)) rfl dX1_removeFirst_46 ?_
      refine lv_iconst (v := 1) hx hb dX1_removeFirst_49 (by decide) ?_
      refine lv_isub hx hb dX1_removeFirst_50 ?_
      refine q_ti (y := nI r'.length) (nI_pred _) ?_
      refine lv_iconst (v := 0) hx hb dX1_removeFirst_51 (by decide) ?_
      refine va_mmax (x := nI r'.length) (y := 0) hx hb (by rw [hml]; exact hl.1.symm) hown (hts (.methodLink RX1 26 Lib.Math.max.name) (by decide +kernel)) (hts (.static Lib.Math.max.name) (by decide +kernel)) (hts (.initialized "java/lang/Math") (by decide +kernel)) (hts (.code Lib.Math.max.name Lib.Math.max.code 2 (some .int)) (by decide +kernel)) (Nat.le_of_ble_eq_true rfl) (Nat.le_of_ble_eq_true rfl) (Nat.zero_le _) (Nat.zero_le _) dX1_removeFirst_52 ?_
      refine q_ti (y := nI r'.length) (if_neg (nI_pos (by omega))) ?_
      refine qr_put (ci := 1) (C := RX1) (T := TX1) (N := 3) hx hb hts hin1 tyX1 tyX1_ok nmX1 hown hK hP hS (Or.inl rfl) rfl 2 (by decide) (hts (.fieldLink RX1 18 "QuorumLock$Row" "length" "I") (by decide +kernel)) rfl rfl rfl (Nat.le_of_ble_eq_true rfl) dX1_removeFirst_55 (fun H locs hz9 ho9 hat9 hS => ?_)
      have hP : va_at dd vwCl (h0, .inr (1, [.ref h1, .ref h2, .int (nI r'.length)])) H := hat9
      have hF := qa_kept hF (ho9 _ n01.symm)
      have hG := qa_kept hG (ho9 _ n02.symm)
      refine q_vret hx hb hr hlocks hS ⟨F, G, hP, hF, hG, fun j x hj => ?_⟩ dX1_removeFirst_58
      have h1 := (List.getElem?_eq_some_iff.mp hj).1
      have h2 := hi1 j (by omega)
      have h3 := hJ (j + 1) x (by rw [List.getElem?_cons_succ]; exact hj)
      exact ⟨h2.1.trans h3.1, h2.2.trans h3.2⟩
    | succ c9 ih =>
      intro i9 F G H locs ls hc hi1 hi2 hP hF hG hS hl
      refine lv_iload_n hx hb dX1_removeFirst_2 rfl (lv_at hl 0 rfl) ?_
      refine lv_aload_n hx hb dX1_removeFirst_3 rfl (lv_at hl 1 rfl) ?_
      refine qr_get (ci := 1) (C := RX1) (T := TX1) (N := 3) hx hb hts hin1 hown hK hP rfl 2 (by decide) (hts (.fieldLink RX1 18 "QuorumLock$Row" "length" "I") (by decide +kernel)) rfl dX1_removeFirst_4 ?_
      refine lv_icmp_ge (tgt := 44) hx hb dX1_removeFirst_7 (by decide) (fun c_7 => absurd c_7 (nI_ge (by omega) (by omega))) (fun c_7 => ?_)
      refine lv_aload_n hx hb dX1_removeFirst_10 rfl (lv_at hl 1 rfl) ?_
      refine qr_get (ci := 1) (C := RX1) (T := TX1) (N := 3) hx hb hts hin1 hown hK hP rfl 0 (by decide) (hts (.fieldLink RX1 9 "QuorumLock$Row" "waitingNodes" "[I") (by decide +kernel)) rfl dX1_removeFirst_11 ?_
      refine lv_iload_n hx hb dX1_removeFirst_14 rfl (lv_at hl 0 rfl) ?_
      refine lv_iconst (v := 1) hx hb dX1_removeFirst_15 (by decide) ?_
      refine lv_isub hx hb dX1_removeFirst_16 ?_
      refine q_ti (y := nI i9) (nI_pred _) ?_
      refine lv_aload_n hx hb dX1_removeFirst_17 rfl (lv_at hl 1 rfl) ?_
      refine qr_get (ci := 1) (C := RX1) (T := TX1) (N := 3) hx hb hts hin1 hown hK hP rfl 0 (by decide) (hts (.fieldLink RX1 9 "QuorumLock$Row" "waitingNodes" "[I") (by decide +kernel)) rfl dX1_removeFirst_18 ?_
      refine lv_iload_n hx hb dX1_removeFirst_21 rfl (lv_at hl 0 rfl) ?_
      refine qr_iald (v := (F (i9 + 1))) hx hb hK hF (i9 + 1) (by omega) (by omega) rfl rfl dX1_removeFirst_22 ?_
      refine qr_iast hx hb hK hF hS (Or.inr (Or.inl rfl)) i9 (by omega) (by omega) rfl dX1_removeFirst_23 (fun H locs hz9 ho9 hat9 hS => ?_)
      have hF := hat9
      have hP := qa_kept hP (ho9 _ n01)
      have hG := qa_kept hG (ho9 _ n12.symm)
      refine lv_aload_n hx hb dX1_removeFirst_24 rfl (lv_at hl 1 rfl) ?_
      refine qr_get (ci := 1) (C := RX1) (T := TX1) (N := 3) hx hb hts hin1 hown hK hP rfl 1 (by decide) (hts (.fieldLink RX1 15 "QuorumLock$Row" "waitingTimes" "[I") (by decide +kernel)) rfl dX1_removeFirst_25 ?_
      refine lv_iload_n hx hb dX1_removeFirst_28 rfl (lv_at hl 0 rfl) ?_
      refine lv_iconst (v := 1) hx hb dX1_removeFirst_29 (by decide) ?_
      refine lv_isub hx hb dX1_removeFirst_30 ?_
      refine q_ti (y := nI i9) (nI_pred _) ?_
      refine lv_aload_n hx hb dX1_removeFirst_31 rfl (lv_at hl 1 rfl) ?_
      refine qr_get (ci := 1) (C := RX1) (T := TX1) (N := 3) hx hb hts hin1 hown hK hP rfl 1 (by decide) (hts (.fieldLink RX1 15 "QuorumLock$Row" "waitingTimes" "[I") (by decide +kernel)) rfl dX1_removeFirst_32 ?_
      refine lv_iload_n hx hb dX1_removeFirst_35 rfl (lv_at hl 0 rfl) ?_
      refine qr_iald (v := (G (i9 + 1))) hx hb hK hG (i9 + 1) (by omega) (by omega) rfl rfl dX1_removeFirst_36 ?_
      refine qr_iast hx hb hK hG hS (Or.inr (Or.inr rfl)) i9 (by omega) (by omega) rfl dX1_removeFirst_37 (fun H locs hz9 ho9 hat9 hS => ?_)
      have hG := hat9
      have hP := qa_kept hP (ho9 _ n02)
      have hF := qa_kept hF (ho9 _ n12)
      refine lv_iinc (v := nI (i9 + 1 + 1)) (lv' := [(1, .int (nI (i9 + 1 + 1))), (0, .ref h0)]) hx hb dX1_removeFirst_38 hl (k := 0) rfl (nI_1 _) (by decide) rfl (fun ls hl => ?_)
      refine lv_goto (tgt := 2) hx hb dX1_removeFirst_41 (by decide) ?_
      refine ih (i9 + 1) (upd F i9 (F (i9 + 1))) (upd G i9 (G (i9 + 1))) _ _ ls (by omega) (fun j hj => ?_) (fun j hj => ?_) hP hF hG hS (lv_sub hl [0, 1] rfl)
      · rcases Nat.lt_or_ge j i9 with h | h
        · have := hi1 j h
          simp only [upd, if_neg (Nat.ne_of_lt h)]
          exact this
        · have : j = i9 := by omega
          subst this
          simp only [upd, if_true]
          exact hi2 (j + 1) (by omega)
      · have := hi2 j (by omega)
        simp only [upd, if_neg (show ¬ j = i9 by omega)]
        exact this
  refine lv_iconst (v := nI 1) hx hb dX1_removeFirst_0 (by decide) ?_
  refine lv_istore_n (lv' := [(1, .int (nI 1)), (0, .ref h0)]) hx hb dX1_removeFirst_1 rfl hl (by decide) rfl (fun ls hl => ?_)
  exact hloop r'.length 0 f g _ _ ls (by omega) (fun j h => by omega) (fun j _ => ⟨rfl, rfl⟩) hP hF hG hS (lv_sub hl [0, 1] rfl)
end
section
set_option maxHeartbeats 4000000 in
set_option maxRecDepth 100000 in
/-- X2_takeHome -/
theorem c_X2_takeHome (l : Launch) (dd : va_G) (ga : Nat → ClassId) (h0 r0 : Nat) (v1 v2 v3 : Int32) : Met l yX2_takeHome wsX2_takeHome ({ frames := 0, cells := 0, slots := 0, locals := 0 }) (qPc dd ga [.ref h0] (fun H => va_at dd vwCl (h0, .inr (2, [.ref r0, .int v1, .int v2, .int v3])) H)) (qQv (fun H => va_at dd vwCl (h0, .inr (2, [.ref r0, .int (-1), .int 0, .int 0])) H) (fun q => q = h0)) 0 0 (fun q => q = h0) := by
  refine Met.ofW (cc := cX2_takeHome) (maxL := 1) (ret := none) (by decide) rfl ?_
  intro p e s m args below meth c s₁ B hml hv
  obtain ⟨rfl, hP, hK⟩ := hv
  have hx := B.exec
  have hb := B.bytes
  have hr := B.returns
  have hts := atoms_spec (ws := wsX2_takeHome) B.pre
  have hown : s.vm.findClass RX2 = some m.cls := findClass_of_methodNamed B.named
  have hlocks := B.notSynchronized
  have hS : qS (fun q => q = h0) s.heap s.heap [] := qS.rf
  have hl := lv_entry ([.ref h0]) (n := 1) (Nat.le_of_ble_eq_true rfl)
  rw [lg_entry_eq]
  generalize (lg_sl ([.ref h0]) ++ List.replicate (1 - (lg_sl ([.ref h0])).length) Slot.unset).toArray = ls at hl ⊢
  have hin2 : ∀ w ∈ wsX20, w ∈ wsX2_takeHome := by decide +kernel
  refine lv_aload_n hx hb dX2_takeHome_0 rfl (lv_at hl 0 rfl) ?_
  refine lv_iconst (v := (-1)) hx hb dX2_takeHome_1 (by decide) ?_
  refine qr_put (ci := 2) (C := RX2) (T := TX2) (N := 4) hx hb hts hin2 tyX2 tyX2_ok nmX2 hown hK hP hS rfl rfl 1 (by decide) (hts (.fieldLink RX2 27 "QuorumLock$Voter" "lentTo" "I") (by decide +kernel)) rfl rfl rfl (Nat.le_of_ble_eq_true rfl) dX2_takeHome_2 (fun H locs hz9 ho9 hat9 hS => ?_)
  have hP : va_at dd vwCl (h0, .inr (2, [.ref r0, .int (-1), .int v2, .int v3])) H := hat9
  refine lv_aload_n hx hb dX2_takeHome_5 rfl (lv_at hl 0 rfl) ?_
  refine lv_iconst (v := 0) hx hb dX2_takeHome_6 (by decide) ?_
  refine qr_put (ci := 2) (C := RX2) (T := TX2) (N := 4) hx hb hts hin2 tyX2 tyX2_ok nmX2 hown hK hP hS rfl rfl 2 (by decide) (hts (.fieldLink RX2 30 "QuorumLock$Voter" "lentTime" "I") (by decide +kernel)) rfl rfl rfl (Nat.le_of_ble_eq_true rfl) dX2_takeHome_7 (fun H locs hz9 ho9 hat9 hS => ?_)
  have hP : va_at dd vwCl (h0, .inr (2, [.ref r0, .int (-1), .int 0, .int v3])) H := hat9
  refine lv_aload_n hx hb dX2_takeHome_10 rfl (lv_at hl 0 rfl) ?_
  refine lv_iconst (v := 0) hx hb dX2_takeHome_11 (by decide) ?_
  refine qr_put (ci := 2) (C := RX2) (T := TX2) (N := 4) hx hb hts hin2 tyX2 tyX2_ok nmX2 hown hK hP hS rfl rfl 3 (by decide) (hts (.fieldLink RX2 33 "QuorumLock$Voter" "inquired" "Z") (by decide +kernel)) rfl rfl rfl (Nat.le_of_ble_eq_true rfl) dX2_takeHome_12 (fun H locs hz9 ho9 hat9 hS => ?_)
  have hP : va_at dd vwCl (h0, .inr (2, [.ref r0, .int (-1), .int 0, .int 0])) H := hat9
  exact q_vret hx hb hr hlocks hS hP dX2_takeHome_15
set_option maxHeartbeats 4000000 in
set_option maxRecDepth 100000 in
/-- X2_lendTo -/
theorem c_X2_lendTo (l : Launch) (dd : va_G) (ga : Nat → ClassId) (h0 r0 : Nat) (v1 v2 v3 : Int32) (x y : Int32) : Met l yX2_lendTo wsX2_lendTo ({ frames := 0, cells := 0, slots := 0, locals := 0 }) (qPc dd ga [.ref h0, .int x, .int y] (fun H => va_at dd vwCl (h0, .inr (2, [.ref r0, .int v1, .int v2, .int v3])) H)) (qQv (fun H => va_at dd vwCl (h0, .inr (2, [.ref r0, .int x, .int y, .int 0])) H) (fun q => q = h0)) 0 0 (fun q => q = h0) := by
  refine Met.ofW (cc := cX2_lendTo) (maxL := 3) (ret := none) (by decide) rfl ?_
  intro p e s m args below meth c s₁ B hml hv
  obtain ⟨rfl, hP, hK⟩ := hv
  have hx := B.exec
  have hb := B.bytes
  have hr := B.returns
  have hts := atoms_spec (ws := wsX2_lendTo) B.pre
  have hown : s.vm.findClass RX2 = some m.cls := findClass_of_methodNamed B.named
  have hlocks := B.notSynchronized
  have hS : qS (fun q => q = h0) s.heap s.heap [] := qS.rf
  have hl := lv_entry ([.ref h0, .int x, .int y]) (n := 3) (Nat.le_of_ble_eq_true rfl)
  rw [lg_entry_eq]
  generalize (lg_sl ([.ref h0, .int x, .int y]) ++ List.replicate (3 - (lg_sl ([.ref h0, .int x, .int y])).length) Slot.unset).toArray = ls at hl ⊢
  have hin2 : ∀ w ∈ wsX20, w ∈ wsX2_lendTo := by decide +kernel
  refine lv_aload_n hx hb dX2_lendTo_0 rfl (lv_at hl 0 rfl) ?_
  refine lv_iload_n hx hb dX2_lendTo_1 rfl (lv_at hl 1 rfl) ?_
  refine qr_put (ci := 2) (C := RX2) (T := TX2) (N := 4) hx hb hts hin2 tyX2 tyX2_ok nmX2 hown hK hP hS rfl rfl 1 (by decide) (hts (.fieldLink RX2 27 "QuorumLock$Voter" "lentTo" "I") (by decide +kernel)) rfl rfl rfl (Nat.le_of_ble_eq_true rfl) dX2_lendTo_2 (fun H locs hz9 ho9 hat9 hS => ?_)
  have hP : va_at dd vwCl (h0, .inr (2, [.ref r0, .int x, .int v2, .int v3])) H := hat9
  refine lv_aload_n hx hb dX2_lendTo_5 rfl (lv_at hl 0 rfl) ?_
  refine lv_iload_n hx hb dX2_lendTo_6 rfl (lv_at hl 2 rfl) ?_
  refine qr_put (ci := 2) (C := RX2) (T := TX2) (N := 4) hx hb hts hin2 tyX2 tyX2_ok nmX2 hown hK hP hS rfl rfl 2 (by decide) (hts (.fieldLink RX2 30 "QuorumLock$Voter" "lentTime" "I") (by decide +kernel)) rfl rfl rfl (Nat.le_of_ble_eq_true rfl) dX2_lendTo_7 (fun H locs hz9 ho9 hat9 hS => ?_)
  have hP : va_at dd vwCl (h0, .inr (2, [.ref r0, .int x, .int y, .int v3])) H := hat9
  refine lv_aload_n hx hb dX2_lendTo_10 rfl (lv_at hl 0 rfl) ?_
  refine lv_iconst (v := 0) hx hb dX2_lendTo_11 (by decide) ?_
  refine qr_put (ci := 2) (C := RX2) (T := TX2) (N := 4) hx hb hts hin2 tyX2 tyX2_ok nmX2 hown hK hP hS rfl rfl 3 (by decide) (hts (.fieldLink RX2 33 "QuorumLock$Voter" "inquired" "Z") (by decide +kernel)) rfl rfl rfl (Nat.le_of_ble_eq_true rfl) dX2_lendTo_12 (fun H locs hz9 ho9 hat9 hS => ?_)
  have hP : va_at dd vwCl (h0, .inr (2, [.ref r0, .int x, .int y, .int 0])) H := hat9
  exact q_vret hx hb hr hlocks hS hP dX2_lendTo_15
set_option maxHeartbeats 4000000 in
set_option maxRecDepth 100000 in
/-- X2_forgetAll -/
theorem c_X2_forgetAll (l : Launch) (dd : va_G) (ga : Nat → ClassId) (q h0 r0 r1 r2 : Nat) (v1 v2 v3 : Int32) (r : List (Nat × Int32)) (n0 : h0 ≠ r0) (n1 : r1 ≠ h0) (n2 : r2 ≠ h0) (n3 : r1 ≠ r0) (n4 : r2 ≠ r0) : Met l yX2_forgetAll wsX2_forgetAll ({ frames := 1, cells := 0, slots := 0, locals := 20 }) (qPc dd ga [.ref h0] (fun H => va_at dd vwCl (h0, .inr (2, [.ref r0, .int v1, .int v2, .int v3])) H ∧ qRow dd ga q r0 r1 r2 r H)) (qQv (fun H => va_at dd vwCl (h0, .inr (2, [.ref r0, .int (-1), .int 0, .int 0])) H ∧ qRow dd ga q r0 r1 r2 [] H) (fun q => q = h0 ∨ q = r0)) 0 0 (fun q => q = h0 ∨ q = r0) := by
  refine Met.ofW (cc := cX2_forgetAll) (maxL := 1) (ret := none) (by decide) rfl ?_
  intro p e s m args below meth c s₁ B hml hv
  obtain ⟨rfl, ⟨hP, f, g, hR, hF, hG, hJ⟩, hK⟩ := hv
  have hx := B.exec
  have hb := B.bytes
  have hr := B.returns
  have hts := atoms_spec (ws := wsX2_forgetAll) B.pre
  have hown : s.vm.findClass RX2 = some m.cls := findClass_of_methodNamed B.named
  have hlocks := B.notSynchronized
  have hS : qS (fun q => q = h0 ∨ q = r0) s.heap s.heap [] := qS.rf
  have hl := lv_entry ([.ref h0]) (n := 1) (Nat.le_of_ble_eq_true rfl)
  rw [lg_entry_eq]
  generalize (lg_sl ([.ref h0]) ++ List.replicate (1 - (lg_sl ([.ref h0])).length) Slot.unset).toArray = ls at hl ⊢
  have hin1 : ∀ w ∈ wsX10, w ∈ wsX2_forgetAll := by decide +kernel
  have hin2 : ∀ w ∈ wsX20, w ∈ wsX2_forgetAll := by decide +kernel
  refine lv_aload_n hx hb dX2_forgetAll_0 rfl (lv_at hl 0 rfl) ?_
  refine qc_v (va_runV (As := []) (rest := []) ⟨hx, hb, hml, hown, hts⟩ (c_X2_takeHome l dd ga h0 r0 v1 v2 v3) (cwV 0 hts gX2_forgetAll_X2_takeHome rfl rfl rfl (by decide +kernel) ⟨Nat.le_of_ble_eq_true rfl, Nat.le_of_ble_eq_true rfl⟩) (qpreV hK hP hP rfl) rfl rfl hl.1 rfl (lv_room (Nat.le_of_ble_eq_true rfl)) dX2_forgetAll_1 ⟨Nat.zero_le _, Nat.zero_le _⟩) hS (fun q h => Or.inl h) (fun H locs hp9 hz9 ho9 hS => ?_)
  have hP := hp9
  have hR := qa_kept hR (ho9 _ n0.symm)
  have hF := qa_kept hF (ho9 _ n1)
  have hG := qa_kept hG (ho9 _ n2)
  refine lv_aload_n hx hb dX2_forgetAll_4 rfl (lv_at hl 0 rfl) ?_
  refine qr_get (ci := 2) (C := RX2) (T := TX2) (N := 4) hx hb hts hin2 hown hK hP rfl 0 (by decide) (hts (.fieldLink RX2 14 "QuorumLock$Voter" "row" "LQuorumLock$Row;") (by decide +kernel)) rfl dX2_forgetAll_5 ?_
  refine lv_iconst (v := 0) hx hb dX2_forgetAll_8 (by decide) ?_
  refine qr_put (ci := 1) (C := RX1) (T := TX1) (N := 3) hx hb hts hin1 tyX1 tyX1_ok nmX1 hown hK hR hS (Or.inr rfl) rfl 2 (by decide) (hts (.fieldLink RX2 23 "QuorumLock$Row" "length" "I") (by decide +kernel)) rfl rfl rfl (Nat.le_of_ble_eq_true rfl) dX2_forgetAll_9 (fun H locs hz9 ho9 hat9 hS => ?_)
  have hR : va_at dd vwCl (r0, .inr (1, [.ref r1, .ref r2, .int 0])) H := hat9
  have hP := qa_kept hP (ho9 _ n0)
  have hF := qa_kept hF (ho9 _ n3)
  have hG := qa_kept hG (ho9 _ n4)
  exact q_vret hx hb hr hlocks hS (⟨hP, f, g, hR, hF, hG, fun j x hj => by simp at hj⟩) dX2_forgetAll_12
/-- whether the first of a row is before the request that has the vote -/
def q_press (r : List (Nat × Int32)) (u : Int32) (b : Nat) : Bool := match r with
  | [] => false
  | x :: _ => q_bef x.2 x.1 u b
set_option maxHeartbeats 4000000 in
set_option maxRecDepth 100000 in
/-- X2_isPressed -/
theorem c_X2_isPressed (l : Launch) (dd : va_G) (ga : Nat → ClassId) (q h0 r0 r1 r2 : Nat) (b : Nat) (u iq : Int32) (r : List (Nat × Int32)) (hq : q < 2 ^ 31) (hrq : r.length ≤ q) (hb31 : b < 2 ^ 31) (hr31 : ∀ x ∈ r, x.1 < 2 ^ 31) : Met l yX2_isPressed wsX2_isPressed ({ frames := 1, cells := 0, slots := 0, locals := 23 }) (qPc dd ga [.ref h0] (fun H => va_at dd vwCl (h0, .inr (2, [.ref r0, .int (nI b), .int u, .int iq])) H ∧ qRow dd ga q r0 r1 r2 r H)) (qQi (fun v _ => v = if q_press r u b = true then 1 else 0) (fun _ => False)) 0 0 (fun _ => False) := by
  refine Met.ofW (cc := cX2_isPressed) (maxL := 1) (ret := (some .boolean)) (by decide) rfl ?_
  intro p e s m args below meth c s₁ B hml hv
  obtain ⟨rfl, ⟨hP, f, g, hR, hF, hG, hJ⟩, hK⟩ := hv
  have hx := B.exec
  have hb := B.bytes
  have hr := B.returns
  have hts := atoms_spec (ws := wsX2_isPressed) B.pre
  have hown : s.vm.findClass RX2 = some m.cls := findClass_of_methodNamed B.named
  have hlocks := B.notSynchronized
  have hS : qS (fun _ => False) s.heap s.heap [] := qS.rf
  have hl := lv_entry ([.ref h0]) (n := 1) (Nat.le_of_ble_eq_true rfl)
  rw [lg_entry_eq]
  generalize (lg_sl ([.ref h0]) ++ List.replicate (1 - (lg_sl ([.ref h0])).length) Slot.unset).toArray = ls at hl ⊢
  have hin1 : ∀ w ∈ wsX10, w ∈ wsX2_isPressed := by decide +kernel
  have hin2 : ∀ w ∈ wsX20, w ∈ wsX2_isPressed := by decide +kernel
  refine lv_aload_n hx hb dX2_isPressed_0 rfl (lv_at hl 0 rfl) ?_
  refine qr_get (ci := 2) (C := RX2) (T := TX2) (N := 4) hx hb hts hin2 hown hK hP rfl 0 (by decide) (hts (.fieldLink RX2 14 "QuorumLock$Voter" "row" "LQuorumLock$Row;") (by decide +kernel)) rfl dX2_isPressed_1 ?_
  refine qr_get (ci := 1) (C := RX1) (T := TX1) (N := 3) hx hb hts hin1 hown hK hR rfl 2 (by decide) (hts (.fieldLink RX2 23 "QuorumLock$Row" "length" "I") (by decide +kernel)) rfl dX2_isPressed_4 ?_
  refine lv_if_le (tgt := 44) hx hb dX2_isPressed_7 (by decide) (fun c_7 => ?_) (fun c_7 => ?_)
  · have hz0 : (0 : Int32) = if q_press r u b = true then 1 else 0 := by
      cases r with
      | nil => rfl
      | cons x r => exact absurd c_7 (nI_nle (by simp) (by simp at hrq ⊢; omega))
    refine lv_iconst (v := 0) hx hb dX2_isPressed_44 (by decide) ?_
    exact q_zret hx hb hr hlocks rfl hS (by first | exact hz1 | exact hz0 | (rw [hz9]; rfl)) dX2_isPressed_45
  · obtain ⟨x, r9, er⟩ : ∃ x r9, r = x :: r9 := by
      cases r with
      | nil => exact absurd (by decide) c_7
      | cons x r9 => exact ⟨x, r9, rfl⟩
    refine lv_aload_n hx hb dX2_isPressed_10 rfl (lv_at hl 0 rfl) ?_
    refine qr_get (ci := 2) (C := RX2) (T := TX2) (N := 4) hx hb hts hin2 hown hK hP rfl 0 (by decide) (hts (.fieldLink RX2 14 "QuorumLock$Voter" "row" "LQuorumLock$Row;") (by decide +kernel)) rfl dX2_isPressed_11 ?_
    refine lv_iconst (v := 0) hx hb dX2_isPressed_14 (by decide) ?_
    refine qc_i (va_runV (As := [.int 0]) (rest := []) ⟨hx, hb, hml, hown, hts⟩ (c_X1_nodeAt l dd ga q r0 r1 r2 r hq hrq 0) (cwV 1 hts gX2_isPressed_X1_nodeAt rfl rfl rfl (by decide +kernel) ⟨Nat.le_of_ble_eq_true rfl, Nat.le_of_ble_eq_true rfl⟩) (qpreV hK (⟨f, g, hR, hF, hG, hJ⟩) hR rfl) rfl rfl hl.1 rfl (lv_room (Nat.le_of_ble_eq_true rfl)) dX2_isPressed_15 ⟨Nat.zero_le _, Nat.zero_le _⟩) hS (fun q h => h) (fun v15 H locs hp9 hz9 ho9 hS => ?_)
    have e15 : v15 = _ := hp9
    have hP := qa_kept hP (ho9 _ (fun h => h))
    have hR := qa_kept hR (ho9 _ (fun h => h))
    have hF := qa_kept hF (ho9 _ (fun h => h))
    have hG := qa_kept hG (ho9 _ (fun h => h))
    refine lv_aload_n hx hb dX2_isPressed_18 rfl (lv_at hl 0 rfl) ?_
    refine qr_get (ci := 2) (C := RX2) (T := TX2) (N := 4) hx hb hts hin2 hown hK hP rfl 0 (by decide) (hts (.fieldLink RX2 14 "QuorumLock$Voter" "row" "LQuorumLock$Row;") (by decide +kernel)) rfl dX2_isPressed_19 ?_
    refine lv_iconst (v := 0) hx hb dX2_isPressed_22 (by decide) ?_
    refine qc_i (va_runV (As := [.int 0]) (rest := [.int v15]) ⟨hx, hb, hml, hown, hts⟩ (c_X1_timeAt l dd ga q r0 r1 r2 r hq hrq 0) (cwV 1 hts gX2_isPressed_X1_timeAt rfl rfl rfl (by decide +kernel) ⟨Nat.le_of_ble_eq_true rfl, Nat.le_of_ble_eq_true rfl⟩) (qpreV hK (⟨f, g, hR, hF, hG, hJ⟩) hR rfl) rfl rfl hl.1 rfl (lv_room (Nat.le_of_ble_eq_true rfl)) dX2_isPressed_23 ⟨Nat.zero_le _, Nat.zero_le _⟩) hS (fun q h => h) (fun v23 H locs hp9 hz9 ho9 hS => ?_)
    have e23 : v23 = _ := hp9
    have hP := qa_kept hP (ho9 _ (fun h => h))
    have hR := qa_kept hR (ho9 _ (fun h => h))
    have hF := qa_kept hF (ho9 _ (fun h => h))
    have hG := qa_kept hG (ho9 _ (fun h => h))
    refine lv_aload_n hx hb dX2_isPressed_26 rfl (lv_at hl 0 rfl) ?_
    refine qr_get (ci := 2) (C := RX2) (T := TX2) (N := 4) hx hb hts hin2 hown hK hP rfl 1 (by decide) (hts (.fieldLink RX2 27 "QuorumLock$Voter" "lentTo" "I") (by decide +kernel)) rfl dX2_isPressed_27 ?_
    refine lv_aload_n hx hb dX2_isPressed_30 rfl (lv_at hl 0 rfl) ?_
    refine qr_get (ci := 2) (C := RX2) (T := TX2) (N := 4) hx hb hts hin2 hown hK hP rfl 2 (by decide) (hts (.fieldLink RX2 30 "QuorumLock$Voter" "lentTime" "I") (by decide +kernel)) rfl dX2_isPressed_31 ?_
    refine qc_i (va_runSN (As := [.int v15, .int v23, .int (nI b), .int u]) (rest := []) (host := "QuorumLock") ⟨hx, hb, hml, hown, hts⟩ (c_X4_isBefore l dd ga v15 v23 (nI b) u) ⟨va_cnB 4 hts gX2_isPressed_X4_isBefore_n44 rfl rfl rfl hK.2.2.1 (hts (.initialized RX4) (by decide +kernel)) (by decide +kernel) ⟨Nat.le_of_ble_eq_true rfl, Nat.le_of_ble_eq_true rfl⟩, hts (.static yX4_isBefore) (by decide +kernel), trivial⟩ (qpreS hK trivial) rfl rfl hl.1 rfl (lv_room (Nat.le_of_ble_eq_true rfl)) dX2_isPressed_34 ⟨Nat.zero_le _, Nat.zero_le _⟩) hS (fun q h => h) (fun v34 H locs hp9 hz9 ho9 hS => ?_)
    have e34 : v34 = _ := hp9
    have hP := qa_kept hP (ho9 _ (fun h => h))
    have hR := qa_kept hR (ho9 _ (fun h => h))
    have hF := qa_kept hF (ho9 _ (fun h => h))
    have hG := qa_kept hG (ho9 _ (fun h => h))
    have h0c : ¬ ((0 : Int32) < 0 ∨ nI r.length ≤ 0) := fun h => h.elim (fun h => absurd h (by decide)) c_7
    rw [q_at, if_neg h0c] at e15
    rw [q_att, if_neg h0c] at e23
    rw [e15, e23] at e34
    have hx31 := hr31 x (by rw [er]; exact List.mem_cons_self)
    have e35 : (r.getD (0 : Int32).toNatClampNeg (0, 0)) = x := by rw [er]; rfl
    rw [e35] at e34
    have e36 : v34 = if q_press r u b = true then 1 else 0 := by
      rw [e34, er]
      show _ = if q_bef x.2 x.1 u b = true then 1 else 0
      by_cases h : q_bef x.2 x.1 u b = true
      · rw [if_pos ((q_befI hx31 hb31).mpr h), if_pos h]
      · rw [if_neg (fun h2 => h ((q_befI hx31 hb31).mp h2)), if_neg h]
    refine lv_if_eq (tgt := 44) hx hb dX2_isPressed_37 (by decide) (fun c_37 => ?_) (fun c_37 => ?_)
    · have hz0 : (0 : Int32) = if q_press r u b = true then 1 else 0 := by rw [← e36, c_37]
      refine lv_iconst (v := 0) hx hb dX2_isPressed_44 (by decide) ?_
      exact q_zret hx hb hr hlocks rfl hS (by first | exact hz1 | exact hz0 | (rw [hz9]; rfl)) dX2_isPressed_45
    · have hz1 : (1 : Int32) = if q_press r u b = true then 1 else 0 := by
        by_cases h : q_press r u b = true
        · rw [if_pos h]
        · rw [if_neg h] at e36; exact absurd e36 c_37
      refine lv_iconst (v := 1) hx hb dX2_isPressed_40 (by decide) ?_
      refine lv_goto (tgt := 45) hx hb dX2_isPressed_41 (by decide) ?_
      exact q_zret hx hb hr hlocks rfl hS (by first | exact hz1 | exact hz0 | (rw [hz9]; rfl)) dX2_isPressed_45
end
section
/-! numbers of wires -/
theorem q_wlt {n f t : Nat} (hf : f < n) (ht : t < n) : f * n + t < n * n := by
  have : (f + 1) * n ≤ n * n := Nat.mul_le_mul_right n hf
  rw [Nat.add_mul] at this
  omega
theorem q_wdiv {n f t : Nat} (ht : t < n) : (f * n + t) / n = f := by
  rw [Nat.mul_comm, Nat.mul_add_div (by omega), Nat.div_eq_of_lt ht, Nat.add_zero]
theorem q_wmod {n f t : Nat} (ht : t < n) : (f * n + t) % n = t := by
  rw [Nat.mul_comm, Nat.mul_add_mod, Nat.mod_eq_of_lt ht]
theorem q_winj {n f t f' t' : Nat} (ht : t < n) (ht' : t' < n) (h : f * n + t = f' * n + t') : f = f' ∧ t = t' := by
  have h1 := q_wdiv (f := f) ht
  have h2 := q_wmod (f := f) ht
  rw [h, q_wdiv ht'] at h1
  rw [h, q_wmod ht'] at h2
  exact ⟨h1.symm, h2.symm⟩
theorem q_n2 {n : Nat} (h : n ≤ 16) : n * n ≤ 256 := Nat.mul_le_mul h h
theorem q_sum_le (w : Nat → Nat → List qM) (f : Nat) (h : ∀ t, (w f t).length ≤ 8) : ∀ m : Nat, q_sum w f m ≤ 8 * m
  | 0 => Nat.le_refl 0
  | m + 1 => by
    have := q_sum_le w f h m
    have := h m
    unfold q_sum
    omega
theorem q_sum_q2 (w : Nat → Nat → List qM) (f t g : Nat) (v : List qM) : ∀ m : Nat, q_sum (q2 w f t v) g m + (if g = f ∧ t < m then (w f t).length else 0) = q_sum w g m + (if g = f ∧ t < m then v.length else 0)
  | 0 => by simp [q_sum]
  | m + 1 => by
    have ih := q_sum_q2 w f t g v m
    unfold q_sum
    by_cases hg : g = f
    · subst hg
      by_cases ht : m = t
      · subst ht
        have h1 : ¬ (m < m) := Nat.lt_irrefl m
        simp only [h1, and_false, if_false, Nat.lt_succ_self, and_self, if_true] at ih ⊢
        rw [q2_s]
        omega
      · rw [q2_n (by omega)]
        by_cases hm : t < m
        · simp only [hm, Nat.lt_succ_of_lt hm, and_self, if_true] at ih ⊢
          omega
        · have h2 : ¬ t < m + 1 := by omega
          simp only [hm, h2, and_false, if_false] at ih ⊢
          omega
    · rw [q2_n (by simp [hg])]
      simp only [hg, false_and, if_false] at ih ⊢
      omega
theorem q_sum_z {w : Nat → Nat → List qM} {f : Nat} : ∀ {m : Nat}, q_sum w f m = 0 → ∀ t, t < m → w f t = []
  | 0, _, t, h => absurd h (Nat.not_lt_zero t)
  | m + 1, h, t, ht => by
    unfold q_sum at h
    rcases Nat.lt_or_ge t m with h1 | h1
    · exact q_sum_z (m := m) (by omega) t h1
    · have : t = m := by omega
      subst this
      exact List.length_eq_zero_iff.mp (by omega)
theorem q_sum_p {w : Nat → Nat → List qM} {f t : Nat} (h : w f t ≠ []) : ∀ {m : Nat}, t < m → 0 < q_sum w f m
  | 0, ht => absurd ht (Nat.not_lt_zero t)
  | m + 1, ht => by
    unfold q_sum
    rcases Nat.lt_or_ge t m with h1 | h1
    · have := q_sum_p h (m := m) h1
      omega
    · have : t = m := by omega
      subst this
      have := List.length_pos_iff.mpr h
      omega
set_option maxHeartbeats 4000000 in
set_option maxRecDepth 100000 in
/-- X3_wireOf -/
theorem c_X3_wireOf (l : Launch) (dd : va_G) (ga : Nat → ClassId) (n h0 h1 h2 h3 h4 : Nat) (f t : Nat) : Met l yX3_wireOf wsX3_wireOf ({ frames := 0, cells := 0, slots := 0, locals := 0 }) (qPc dd ga [.ref h0, .int (nI f), .int (nI t)] (fun H => va_at dd vwCl (h0, .inr (3, [.int (nI n), .ref h1, .ref h2, .ref h3, .ref h4])) H)) (qQi (fun v _ => v = nI (f * n + t)) (fun _ => False)) 0 0 (fun _ => False) := by
  refine Met.ofW (cc := cX3_wireOf) (maxL := 3) (ret := (some .int)) (by decide) rfl ?_
  intro p e s m args below meth c s₁ B hml hv
  obtain ⟨rfl, hP, hK⟩ := hv
  have hx := B.exec
  have hb := B.bytes
  have hr := B.returns
  have hts := atoms_spec (ws := wsX3_wireOf) B.pre
  have hown : s.vm.findClass RX3 = some m.cls := findClass_of_methodNamed B.named
  have hlocks := B.notSynchronized
  have hS : qS (fun _ => False) s.heap s.heap [] := qS.rf
  have hl := lv_entry ([.ref h0, .int (nI f), .int (nI t)]) (n := 3) (Nat.le_of_ble_eq_true rfl)
  rw [lg_entry_eq]
  generalize (lg_sl ([.ref h0, .int (nI f), .int (nI t)]) ++ List.replicate (3 - (lg_sl ([.ref h0, .int (nI f), .int (nI t)])).length) Slot.unset).toArray = ls at hl ⊢
  have hin3 : ∀ w ∈ wsX30, w ∈ wsX3_wireOf := by decide +kernel
  refine lv_iload_n hx hb dX3_wireOf_0 rfl (lv_at hl 1 rfl) ?_
  refine lv_aload_n hx hb dX3_wireOf_1 rfl (lv_at hl 0 rfl) ?_
  refine qr_get (ci := 3) (C := RX3) (T := TX3) (N := 5) hx hb hts hin3 hown hK hP rfl 0 (by decide) (hts (.fieldLink RX3 9 "QuorumLock$Wires" "ends" "I") (by decide +kernel)) rfl dX3_wireOf_2 ?_
  refine lv_imul hx hb dX3_wireOf_5 ?_
  refine q_ti (y := nI (f * n)) (pk_mul _ _) ?_
  refine lv_iload_n hx hb dX3_wireOf_6 rfl (lv_at hl 2 rfl) ?_
  refine lv_iadd hx hb dX3_wireOf_7 ?_
  refine q_ti (y := nI (f * n + t)) (nI_add _ _) ?_
  exact q_iret hx hb hr hlocks hS rfl dX3_wireOf_8
set_option maxHeartbeats 4000000 in
set_option maxRecDepth 100000 in
/-- X3_slotOf -/
theorem c_X3_slotOf (l : Launch) (dd : va_G) (ga : Nat → ClassId) (n h0 h1 h2 h3 h4 : Nat) (O : Nat → Int32) (w9 m9 o : Nat) (hn : n ≤ 16) (hw : w9 < n * n) (ho : o < 8) (hm : m9 ≤ 8) (eo : O w9 = nI o) : Met l yX3_slotOf wsX3_slotOf ({ frames := 0, cells := 0, slots := 0, locals := 0 }) (qPc dd ga [.ref h0, .int (nI w9), .int (nI m9)] (fun H => va_at dd vwCl (h0, .inr (3, [.int (nI n), .ref h1, .ref h2, .ref h3, .ref h4])) H ∧ va_at dd vwCl (h2, .inl (ga 0, n * n, .inl O)) H)) (qQi (fun v _ => v = nI ((w9 * 8 + (o + m9) % 8) * 3)) (fun _ => False)) 0 0 (fun _ => False) := by
  refine Met.ofW (cc := cX3_slotOf) (maxL := 3) (ret := (some .int)) (by decide) rfl ?_
  intro p e s m args below meth c s₁ B hml hv
  obtain ⟨rfl, ⟨hP, hPo⟩, hK⟩ := hv
  have hx := B.exec
  have hb := B.bytes
  have hr := B.returns
  have hts := atoms_spec (ws := wsX3_slotOf) B.pre
  have hown : s.vm.findClass RX3 = some m.cls := findClass_of_methodNamed B.named
  have hlocks := B.notSynchronized
  have hS : qS (fun _ => False) s.heap s.heap [] := qS.rf
  have hl := lv_entry ([.ref h0, .int (nI w9), .int (nI m9)]) (n := 3) (Nat.le_of_ble_eq_true rfl)
  rw [lg_entry_eq]
  generalize (lg_sl ([.ref h0, .int (nI w9), .int (nI m9)]) ++ List.replicate (3 - (lg_sl ([.ref h0, .int (nI w9), .int (nI m9)])).length) Slot.unset).toArray = ls at hl ⊢
  have hin3 : ∀ w ∈ wsX30, w ∈ wsX3_slotOf := by decide +kernel
  have hn2 := q_n2 hn
  refine lv_iload_n hx hb dX3_slotOf_0 rfl (lv_at hl 1 rfl) ?_
  refine lv_bipush (v := nI 8) hx hb dX3_slotOf_1 (by decide) ?_
  refine lv_imul hx hb dX3_slotOf_3 ?_
  refine q_ti (y := nI (w9 * 8)) (pk_mul _ _) ?_
  refine lv_aload_n hx hb dX3_slotOf_4 rfl (lv_at hl 0 rfl) ?_
  refine qr_get (ci := 3) (C := RX3) (T := TX3) (N := 5) hx hb hts hin3 hown hK hP rfl 2 (by decide) (hts (.fieldLink RX3 19 "QuorumLock$Wires" "oldest" "[I") (by decide +kernel)) rfl dX3_slotOf_5 ?_
  refine lv_iload_n hx hb dX3_slotOf_8 rfl (lv_at hl 1 rfl) ?_
  refine qr_iald (v := (nI o)) hx hb hK hPo w9 (by omega) (by omega) rfl eo dX3_slotOf_9 ?_
  refine lv_iload_n hx hb dX3_slotOf_10 rfl (lv_at hl 2 rfl) ?_
  refine lv_iadd hx hb dX3_slotOf_11 ?_
  refine q_ti (y := nI (o + m9)) (nI_add _ _) ?_
  refine lv_bipush (v := nI 8) hx hb dX3_slotOf_12 (by decide) ?_
  refine lv_irem hx hb dX3_slotOf_14 (by decide) ?_
  refine q_ti (y := nI ((o + m9) % 8)) (pk_rem (by omega) (by decide) (by decide)) ?_
  refine lv_iadd hx hb dX3_slotOf_15 ?_
  refine q_ti (y := nI (w9 * 8 + (o + m9) % 8)) (nI_add _ _) ?_
  refine lv_iconst (v := nI 3) hx hb dX3_slotOf_16 (by decide) ?_
  refine lv_imul hx hb dX3_slotOf_17 ?_
  refine q_ti (y := nI ((w9 * 8 + (o + m9) % 8) * 3)) (pk_mul _ _) ?_
  exact q_iret hx hb hr hlocks hS rfl dX3_slotOf_18
set_option maxHeartbeats 4000000 in
set_option maxRecDepth 100000 in
/-- X3_count -/
theorem c_X3_count (l : Launch) (dd : va_G) (ga : Nat → ClassId) (n h0 h1 h2 h3 h4 : Nat) (w : Nat → Nat → List qM) (f t : Nat) (hn : n ≤ 16) (hf : f < n) (ht : t < n) : Met l yX3_count wsX3_count ({ frames := 1, cells := 0, slots := 0, locals := 22 }) (qPc dd ga [.ref h0, .int (nI f), .int (nI t)] (fun H => qWir dd ga n h0 h1 h2 h3 h4 w H)) (qQi (fun v _ => v = nI (w f t).length) (fun _ => False)) 0 0 (fun _ => False) := by
  refine Met.ofW (cc := cX3_count) (maxL := 3) (ret := (some .int)) (by decide) rfl ?_
  intro p e s m args below meth c s₁ B hml hv
  obtain ⟨rfl, ⟨P, O, Y, F, hP, hPp, hPo, hPy, hPf, hJ, hJf⟩, hK⟩ := hv
  have hx := B.exec
  have hb := B.bytes
  have hr := B.returns
  have hts := atoms_spec (ws := wsX3_count) B.pre
  have hown : s.vm.findClass RX3 = some m.cls := findClass_of_methodNamed B.named
  have hlocks := B.notSynchronized
  have hS : qS (fun _ => False) s.heap s.heap [] := qS.rf
  have hl := lv_entry ([.ref h0, .int (nI f), .int (nI t)]) (n := 3) (Nat.le_of_ble_eq_true rfl)
  rw [lg_entry_eq]
  generalize (lg_sl ([.ref h0, .int (nI f), .int (nI t)]) ++ List.replicate (3 - (lg_sl ([.ref h0, .int (nI f), .int (nI t)])).length) Slot.unset).toArray = ls at hl ⊢
  have hin3 : ∀ w ∈ wsX30, w ∈ wsX3_count := by decide +kernel
  have hn2 := q_n2 hn
  have hwl := q_wlt hf ht
  obtain ⟨o, ho, eo, ey, hl8, hm⟩ := hJ f t hf ht
  refine lv_aload_n hx hb dX3_count_0 rfl (lv_at hl 0 rfl) ?_
  refine qr_get (ci := 3) (C := RX3) (T := TX3) (N := 5) hx hb hts hin3 hown hK hP rfl 3 (by decide) (hts (.fieldLink RX3 22 "QuorumLock$Wires" "lying" "[I") (by decide +kernel)) rfl dX3_count_1 ?_
  refine lv_aload_n hx hb dX3_count_4 rfl (lv_at hl 0 rfl) ?_
  refine lv_iload_n hx hb dX3_count_5 rfl (lv_at hl 1 rfl) ?_
  refine lv_iload_n hx hb dX3_count_6 rfl (lv_at hl 2 rfl) ?_
  refine qc_i (va_runV (As := [.int (nI f), .int (nI t)]) (rest := [.ref h3]) ⟨hx, hb, hml, hown, hts⟩ (c_X3_wireOf l dd ga n h0 h1 h2 h3 h4 f t) (cwV 2 hts gX3_count_X3_wireOf rfl rfl rfl (by decide +kernel) ⟨Nat.le_of_ble_eq_true rfl, Nat.le_of_ble_eq_true rfl⟩) (qpreV hK hP hP rfl) rfl rfl hl.1 rfl (lv_room (Nat.le_of_ble_eq_true rfl)) dX3_count_7 ⟨Nat.zero_le _, Nat.zero_le _⟩) hS (fun q h => h.elim) (fun v3 H locs hp9 hz9 ho9 hS => ?_)
  subst hp9
  have hP := qa_kept hP (ho9 _ (fun h => h))
  have hPp := qa_kept hPp (ho9 _ (fun h => h))
  have hPo := qa_kept hPo (ho9 _ (fun h => h))
  have hPy := qa_kept hPy (ho9 _ (fun h => h))
  have hPf := qa_kept hPf (ho9 _ (fun h => h))
  refine qr_iald (v := (nI (w f t).length)) hx hb hK hPy (f * n + t) (by omega) (by omega) rfl ey dX3_count_10 ?_
  exact q_iret hx hb hr hlocks hS rfl dX3_count_11
theorem q_part_n {w : List qM} {m what : Int32} (h : m < 0 ∨ nI w.length ≤ m) : q_part w m what = -1 := by unfold q_part; rw [if_pos h]
theorem q_part_w {w : List qM} {m what : Int32} (h : what < 0 ∨ ¬ what < 3) : q_part w m what = -1 := by
  unfold q_part
  split
  · rfl
  · rw [if_neg, if_neg, if_neg]
    · rintro rfl; exact absurd h (by decide)
    · rintro rfl; exact absurd h (by decide)
    · rintro rfl; exact absurd h (by decide)
set_option maxHeartbeats 4000000 in
set_option maxRecDepth 100000 in
/-- X3_part -/
theorem c_X3_part (l : Launch) (dd : va_G) (ga : Nat → ClassId) (n h0 h1 h2 h3 h4 : Nat) (w : Nat → Nat → List qM) (f t : Nat) (hn : n ≤ 16) (hf : f < n) (ht : t < n) (x z : Int32) : Met l yX3_part wsX3_part ({ frames := 1, cells := 0, slots := 0, locals := 22 }) (qPc dd ga [.ref h0, .int (nI f), .int (nI t), .int x, .int z] (fun H => qWir dd ga n h0 h1 h2 h3 h4 w H)) (qQi (fun v _ => v = q_part (w f t) x z) (fun _ => False)) 0 0 (fun _ => False) := by
  refine Met.ofW (cc := cX3_part) (maxL := 6) (ret := (some .int)) (by decide) rfl ?_
  intro p e s m args below meth c s₁ B hml hv
  obtain ⟨rfl, ⟨P, O, Y, F, hP, hPp, hPo, hPy, hPf, hJ, hJf⟩, hK⟩ := hv
  have hx := B.exec
  have hb := B.bytes
  have hr := B.returns
  have hts := atoms_spec (ws := wsX3_part) B.pre
  have hown : s.vm.findClass RX3 = some m.cls := findClass_of_methodNamed B.named
  have hlocks := B.notSynchronized
  have hS : qS (fun _ => False) s.heap s.heap [] := qS.rf
  have hl := lv_entry ([.ref h0, .int (nI f), .int (nI t), .int x, .int z]) (n := 6) (Nat.le_of_ble_eq_true rfl)
  rw [lg_entry_eq]
  generalize (lg_sl ([.ref h0, .int (nI f), .int (nI t), .int x, .int z]) ++ List.replicate (6 - (lg_sl ([.ref h0, .int (nI f), .int (nI t), .int x, .int z])).length) Slot.unset).toArray = ls at hl ⊢
  have hin3 : ∀ w ∈ wsX30, w ∈ wsX3_part := by decide +kernel
  have hn2 := q_n2 hn
  have hwl := q_wlt hf ht
  obtain ⟨o, ho, eo, ey, hl8, hm⟩ := hJ f t hf ht
  refine lv_aload_n hx hb dX3_part_0 rfl (lv_at hl 0 rfl) ?_
  refine lv_iload_n hx hb dX3_part_1 rfl (lv_at hl 1 rfl) ?_
  refine lv_iload_n hx hb dX3_part_2 rfl (lv_at hl 2 rfl) ?_
  refine qc_i (va_runV (As := [.int (nI f), .int (nI t)]) (rest := []) ⟨hx, hb, hml, hown, hts⟩ (c_X3_wireOf l dd ga n h0 h1 h2 h3 h4 f t) (cwV 2 hts gX3_part_X3_wireOf rfl rfl rfl (by decide +kernel) ⟨Nat.le_of_ble_eq_true rfl, Nat.le_of_ble_eq_true rfl⟩) (qpreV hK hP hP rfl) rfl rfl hl.1 rfl (lv_room (Nat.le_of_ble_eq_true rfl)) dX3_part_3 ⟨Nat.zero_le _, Nat.zero_le _⟩) hS (fun q h => h.elim) (fun v3 H locs hp9 hz9 ho9 hS => ?_)
  subst hp9
  have hP := qa_kept hP (ho9 _ (fun h => h))
  have hPp := qa_kept hPp (ho9 _ (fun h => h))
  have hPo := qa_kept hPo (ho9 _ (fun h => h))
  have hPy := qa_kept hPy (ho9 _ (fun h => h))
  have hPf := qa_kept hPf (ho9 _ (fun h => h))
  refine lv_istore (lv' := [(5, .int (nI (f * n + t))), (0, .ref h0), (1, .int (nI f)), (2, .int (nI t)), (3, .int x), (4, .int z)]) hx hb dX3_part_6 hl (by decide) rfl (fun ls hl => ?_)
  refine lv_iload_n hx hb dX3_part_8 rfl (lv_at hl 4 rfl) ?_
  refine lv_if_lt (tgt := 34) hx hb dX3_part_9 (by decide) (fun c_9 => ?_) (fun c_9 => ?_)
  · refine lv_iconst (v := (-1)) hx hb dX3_part_34 (by decide) ?_
    exact q_iret hx hb hr hlocks hS (by first | exact (q_part_n (by first | exact Or.inl c_9 | exact Or.inr c_20)).symm | exact (q_part_w (by first | exact Or.inl c_25 | exact Or.inr c_31)).symm) dX3_part_35
  · refine lv_iload_n hx hb dX3_part_12 rfl (lv_at hl 4 rfl) ?_
    refine lv_aload_n hx hb dX3_part_13 rfl (lv_at hl 1 rfl) ?_
    refine qr_get (ci := 3) (C := RX3) (T := TX3) (N := 5) hx hb hts hin3 hown hK hP rfl 3 (by decide) (hts (.fieldLink RX3 22 "QuorumLock$Wires" "lying" "[I") (by decide +kernel)) rfl dX3_part_14 ?_
    refine lv_iload hx hb dX3_part_17 (lv_at hl 0 rfl) ?_
    refine qr_iald (v := (nI (w f t).length)) hx hb hK hPy (f * n + t) (by omega) (by omega) rfl ey dX3_part_19 ?_
    refine lv_icmp_ge (tgt := 34) hx hb dX3_part_20 (by decide) (fun c_20 => ?_) (fun c_20 => ?_)
    · refine lv_iconst (v := (-1)) hx hb dX3_part_34 (by decide) ?_
      exact q_iret hx hb hr hlocks hS (by first | exact (q_part_n (by first | exact Or.inl c_9 | exact Or.inr c_20)).symm | exact (q_part_w (by first | exact Or.inl c_25 | exact Or.inr c_31)).symm) dX3_part_35
    · refine lv_iload hx hb dX3_part_23 (lv_at hl 5 rfl) ?_
      refine lv_if_lt (tgt := 34) hx hb dX3_part_25 (by decide) (fun c_25 => ?_) (fun c_25 => ?_)
      · refine lv_iconst (v := (-1)) hx hb dX3_part_34 (by decide) ?_
        exact q_iret hx hb hr hlocks hS (by first | exact (q_part_n (by first | exact Or.inl c_9 | exact Or.inr c_20)).symm | exact (q_part_w (by first | exact Or.inl c_25 | exact Or.inr c_31)).symm) dX3_part_35
      · refine lv_iload hx hb dX3_part_28 (lv_at hl 5 rfl) ?_
        refine lv_iconst (v := 3) hx hb dX3_part_30 (by decide) ?_
        refine lv_icmp_lt (tgt := 36) hx hb dX3_part_31 (by decide) (fun c_31 => ?_) (fun c_31 => ?_)
        · refine lv_aload_n hx hb dX3_part_36 rfl (lv_at hl 1 rfl) ?_
          refine qr_get (ci := 3) (C := RX3) (T := TX3) (N := 5) hx hb hts hin3 hown hK hP rfl 1 (by decide) (hts (.fieldLink RX3 15 "QuorumLock$Wires" "parts" "[I") (by decide +kernel)) rfl dX3_part_37 ?_
          refine lv_aload_n hx hb dX3_part_40 rfl (lv_at hl 1 rfl) ?_
          refine lv_iload hx hb dX3_part_41 (lv_at hl 0 rfl) ?_
          refine lv_iload_n hx hb dX3_part_43 rfl (lv_at hl 4 rfl) ?_
          obtain ⟨j, hj, ej⟩ : ∃ j : Nat, j < (w f t).length ∧ x = nI j := by
            rcases pk_ix x (n := (w f t).length) (by omega) with h | h | h
            · exact absurd h c_9
            · exact absurd h c_20
            · exact h
          obtain ⟨j2, hj2, ej2⟩ : ∃ j : Nat, j < 3 ∧ z = nI j := by
            rcases pk_ix z (n := 3) (by omega) with h | h | h
            · exact absurd h c_25
            · exact absurd c_31 (Int32.not_lt.mpr h)
            · exact h
          subst ej ej2
          refine qc_i (va_runV (As := [.int (nI (f * n + t)), .int (nI j)]) (rest := [.ref h1]) ⟨hx, hb, hml, hown, hts⟩ (c_X3_slotOf l dd ga n h0 h1 h2 h3 h4 O (f * n + t) j o hn hwl ho (by omega) eo) (cwV 2 hts gX3_part_X3_slotOf rfl rfl rfl (by decide +kernel) ⟨Nat.le_of_ble_eq_true rfl, Nat.le_of_ble_eq_true rfl⟩) (qpreV hK (⟨hP, hPo⟩) hP rfl) rfl rfl hl.1 rfl (lv_room (Nat.le_of_ble_eq_true rfl)) dX3_part_44 ⟨Nat.zero_le _, Nat.zero_le _⟩) hS (fun q h => h.elim) (fun v44 H locs hp9 hz9 ho9 hS => ?_)
          subst hp9
          have hP := qa_kept hP (ho9 _ (fun h => h))
          have hPp := qa_kept hPp (ho9 _ (fun h => h))
          have hPo := qa_kept hPo (ho9 _ (fun h => h))
          have hPy := qa_kept hPy (ho9 _ (fun h => h))
          have hPf := qa_kept hPf (ho9 _ (fun h => h))
          refine lv_iload hx hb dX3_part_47 (lv_at hl 5 rfl) ?_
          refine lv_iadd hx hb dX3_part_49 ?_
          refine q_ti (y := nI (((f * n + t) * 8 + (o + j) % 8) * 3 + j2)) (nI_add _ _) ?_
          have hm3 := hm j _ (q_gd (d := (0, 0, 0)) hj)
          have hfin : P (((f * n + t) * 8 + (o + j) % 8) * 3 + j2) = q_part (w f t) (nI j) (nI j2) := by
            unfold q_part
            rw [if_neg (fun h => h.elim c_9 c_20), nI_clamp (by omega)]
            rcases (show j2 = 0 ∨ j2 = 1 ∨ j2 = 2 by omega) with h | h | h <;> subst h
            · rw [if_pos (by decide)]; exact hm3.1
            · rw [if_neg (by decide), if_pos (by decide)]; exact hm3.2.1
            · rw [if_neg (by decide), if_neg (by decide), if_pos (by decide)]; exact hm3.2.2
          refine qr_iald (v := (P (((f * n + t) * 8 + (o + j) % 8) * 3 + j2))) hx hb hK hPp (((f * n + t) * 8 + (o + j) % 8) * 3 + j2) (by omega) (by omega) rfl rfl dX3_part_50 ?_
          exact q_iret hx hb hr hlocks hS hfin dX3_part_51
        · refine lv_iconst (v := (-1)) hx hb dX3_part_34 (by decide) ?_
          exact q_iret hx hb hr hlocks hS (by first | exact (q_part_n (by first | exact Or.inl c_9 | exact Or.inr c_20)).symm | exact (q_part_w (by first | exact Or.inl c_25 | exact Or.inr c_31)).symm) dX3_part_35
set_option maxHeartbeats 4000000 in
set_option maxRecDepth 100000 in
/-- X3_add -/
theorem c_X3_add (l : Launch) (dd : va_G) (ga : Nat → ClassId) (n h0 h1 h2 h3 h4 : Nat) (d01 : h0 ≠ h1) (d02 : h0 ≠ h2) (d03 : h0 ≠ h3) (d04 : h0 ≠ h4) (d12 : h1 ≠ h2) (d13 : h1 ≠ h3) (d14 : h1 ≠ h4) (d23 : h2 ≠ h3) (d24 : h2 ≠ h4) (d34 : h3 ≠ h4) (w : Nat → Nat → List qM) (f t : Nat) (hn : n ≤ 16) (hf : f < n) (ht : t < n) (x y z : Int32) (hl9 : (w f t).length < 8) : Met l yX3_add wsX3_add ({ frames := 1, cells := 0, slots := 0, locals := 22 }) (qPc dd ga [.ref h0, .int (nI f), .int (nI t), .int x, .int y, .int z] (fun H => qWir dd ga n h0 h1 h2 h3 h4 w H)) (qQv (fun H => qWir dd ga n h0 h1 h2 h3 h4 (q2 w f t (w f t ++ [(x, y, z)])) H) (fun q => q = h0 ∨ q = h1 ∨ q = h2 ∨ q = h3 ∨ q = h4)) 0 0 (fun q => q = h0 ∨ q = h1 ∨ q = h2 ∨ q = h3 ∨ q = h4) := by
  refine Met.ofW (cc := cX3_add) (maxL := 8) (ret := none) (by decide) rfl ?_
  intro p e s m args below meth c s₁ B hml hv
  obtain ⟨rfl, ⟨P, O, Y, F, hP, hPp, hPo, hPy, hPf, hJ, hJf⟩, hK⟩ := hv
  have hx := B.exec
  have hb := B.bytes
  have hr := B.returns
  have hts := atoms_spec (ws := wsX3_add) B.pre
  have hown : s.vm.findClass RX3 = some m.cls := findClass_of_methodNamed B.named
  have hlocks := B.notSynchronized
  have hS : qS (fun q => q = h0 ∨ q = h1 ∨ q = h2 ∨ q = h3 ∨ q = h4) s.heap s.heap [] := qS.rf
  have hl := lv_entry ([.ref h0, .int (nI f), .int (nI t), .int x, .int y, .int z]) (n := 8) (Nat.le_of_ble_eq_true rfl)
  rw [lg_entry_eq]
  generalize (lg_sl ([.ref h0, .int (nI f), .int (nI t), .int x, .int y, .int z]) ++ List.replicate (8 - (lg_sl ([.ref h0, .int (nI f), .int (nI t), .int x, .int y, .int z])).length) Slot.unset).toArray = ls at hl ⊢
  have hin3 : ∀ w ∈ wsX30, w ∈ wsX3_add := by decide +kernel
  have hn2 := q_n2 hn
  have hwl := q_wlt hf ht
  obtain ⟨o, ho, eo, ey, hl8, hm⟩ := hJ f t hf ht
  refine lv_aload_n hx hb dX3_add_0 rfl (lv_at hl 0 rfl) ?_
  refine lv_iload_n hx hb dX3_add_1 rfl (lv_at hl 1 rfl) ?_
  refine lv_iload_n hx hb dX3_add_2 rfl (lv_at hl 2 rfl) ?_
  refine qc_i (va_runV (As := [.int (nI f), .int (nI t)]) (rest := []) ⟨hx, hb, hml, hown, hts⟩ (c_X3_wireOf l dd ga n h0 h1 h2 h3 h4 f t) (cwV 2 hts gX3_add_X3_wireOf rfl rfl rfl (by decide +kernel) ⟨Nat.le_of_ble_eq_true rfl, Nat.le_of_ble_eq_true rfl⟩) (qpreV hK hP hP rfl) rfl rfl hl.1 rfl (lv_room (Nat.le_of_ble_eq_true rfl)) dX3_add_3 ⟨Nat.zero_le _, Nat.zero_le _⟩) hS (fun q h => h.elim) (fun v3 H locs hp9 hz9 ho9 hS => ?_)
  subst hp9
  have hP := qa_kept hP (ho9 _ (fun h => h))
  have hPp := qa_kept hPp (ho9 _ (fun h => h))
  have hPo := qa_kept hPo (ho9 _ (fun h => h))
  have hPy := qa_kept hPy (ho9 _ (fun h => h))
  have hPf := qa_kept hPf (ho9 _ (fun h => h))
  refine lv_istore (lv' := [(6, .int (nI (f * n + t))), (0, .ref h0), (1, .int (nI f)), (2, .int (nI t)), (3, .int x), (4, .int y), (5, .int z)]) hx hb dX3_add_6 hl (by decide) rfl (fun ls hl => ?_)
  refine lv_aload_n hx hb dX3_add_8 rfl (lv_at hl 1 rfl) ?_
  refine qr_get (ci := 3) (C := RX3) (T := TX3) (N := 5) hx hb hts hin3 hown hK hP rfl 3 (by decide) (hts (.fieldLink RX3 22 "QuorumLock$Wires" "lying" "[I") (by decide +kernel)) rfl dX3_add_9 ?_
  refine lv_iload hx hb dX3_add_12 (lv_at hl 0 rfl) ?_
  refine qr_iald (v := (nI (w f t).length)) hx hb hK hPy (f * n + t) (by omega) (by omega) rfl ey dX3_add_14 ?_
  refine lv_bipush (v := nI 8) hx hb dX3_add_15 (by decide) ?_
  refine lv_icmp_lt (tgt := 21) hx hb dX3_add_17 (by decide) (fun c_17 => ?_) (fun c_17 => absurd (nI_lt hl9 (by decide)) c_17)
  refine lv_aload_n hx hb dX3_add_21 rfl (lv_at hl 1 rfl) ?_
  refine lv_iload hx hb dX3_add_22 (lv_at hl 0 rfl) ?_
  refine lv_aload_n hx hb dX3_add_24 rfl (lv_at hl 1 rfl) ?_
  refine qr_get (ci := 3) (C := RX3) (T := TX3) (N := 5) hx hb hts hin3 hown hK hP rfl 3 (by decide) (hts (.fieldLink RX3 22 "QuorumLock$Wires" "lying" "[I") (by decide +kernel)) rfl dX3_add_25 ?_
  refine lv_iload hx hb dX3_add_28 (lv_at hl 0 rfl) ?_
  refine qr_iald (v := (nI (w f t).length)) hx hb hK hPy (f * n + t) (by omega) (by omega) rfl ey dX3_add_30 ?_
  refine qc_i (va_runV (As := [.int (nI (f * n + t)), .int (nI (w f t).length)]) (rest := []) ⟨hx, hb, hml, hown, hts⟩ (c_X3_slotOf l dd ga n h0 h1 h2 h3 h4 O (f * n + t) (w f t).length o hn hwl ho (by omega) eo) (cwV 2 hts gX3_add_X3_slotOf rfl rfl rfl (by decide +kernel) ⟨Nat.le_of_ble_eq_true rfl, Nat.le_of_ble_eq_true rfl⟩) (qpreV hK (⟨hP, hPo⟩) hP rfl) rfl rfl hl.1 rfl (lv_room (Nat.le_of_ble_eq_true rfl)) dX3_add_31 ⟨Nat.zero_le _, Nat.zero_le _⟩) hS (fun q h => h.elim) (fun v31 H locs hp9 hz9 ho9 hS => ?_)
  subst hp9
  have hP := qa_kept hP (ho9 _ (fun h => h))
  have hPp := qa_kept hPp (ho9 _ (fun h => h))
  have hPo := qa_kept hPo (ho9 _ (fun h => h))
  have hPy := qa_kept hPy (ho9 _ (fun h => h))
  have hPf := qa_kept hPf (ho9 _ (fun h => h))
  refine lv_istore (lv' := [(7, .int (nI (((f * n + t) * 8 + (o + (w f t).length) % 8) * 3))), (6, .int (nI (f * n + t))), (0, .ref h0), (1, .int (nI f)), (2, .int (nI t)), (3, .int x), (4, .int y), (5, .int z)]) hx hb dX3_add_34 hl (by decide) rfl (fun ls hl => ?_)
  refine lv_aload_n hx hb dX3_add_36 rfl (lv_at hl 2 rfl) ?_
  refine qr_get (ci := 3) (C := RX3) (T := TX3) (N := 5) hx hb hts hin3 hown hK hP rfl 1 (by decide) (hts (.fieldLink RX3 15 "QuorumLock$Wires" "parts" "[I") (by decide +kernel)) rfl dX3_add_37 ?_
  refine lv_iload hx hb dX3_add_40 (lv_at hl 0 rfl) ?_
  refine lv_iconst (v := nI 0) hx hb dX3_add_42 (by decide) ?_
  refine lv_iadd hx hb dX3_add_43 ?_
  refine q_ti (y := nI (((f * n + t) * 8 + (o + (w f t).length) % 8) * 3)) (nI_add _ 0) ?_
  refine lv_iload_n hx hb dX3_add_44 rfl (lv_at hl 5 rfl) ?_
  refine qr_iast hx hb hK hPp hS (Or.inr (Or.inl rfl)) (((f * n + t) * 8 + (o + (w f t).length) % 8) * 3) (by omega) (by omega) rfl dX3_add_45 (fun H locs hz9 ho9 hat9 hS => ?_)
  have hPp := hat9
  have hP := qa_kept hP (ho9 _ d01)
  have hPo := qa_kept hPo (ho9 _ d12.symm)
  have hPy := qa_kept hPy (ho9 _ d13.symm)
  have hPf := qa_kept hPf (ho9 _ d14.symm)
  refine lv_aload_n hx hb dX3_add_46 rfl (lv_at hl 2 rfl) ?_
  refine qr_get (ci := 3) (C := RX3) (T := TX3) (N := 5) hx hb hts hin3 hown hK hP rfl 1 (by decide) (hts (.fieldLink RX3 15 "QuorumLock$Wires" "parts" "[I") (by decide +kernel)) rfl dX3_add_47 ?_
  refine lv_iload hx hb dX3_add_50 (lv_at hl 0 rfl) ?_
  refine lv_iconst (v := nI 1) hx hb dX3_add_52 (by decide) ?_
  refine lv_iadd hx hb dX3_add_53 ?_
  refine q_ti (y := nI (((f * n + t) * 8 + (o + (w f t).length) % 8) * 3 + 1)) (nI_add _ _) ?_
  refine lv_iload hx hb dX3_add_54 (lv_at hl 6 rfl) ?_
  refine qr_iast hx hb hK hPp hS (Or.inr (Or.inl rfl)) (((f * n + t) * 8 + (o + (w f t).length) % 8) * 3 + 1) (by omega) (by omega) rfl dX3_add_56 (fun H locs hz9 ho9 hat9 hS => ?_)
  have hPp := hat9
  have hP := qa_kept hP (ho9 _ d01)
  have hPo := qa_kept hPo (ho9 _ d12.symm)
  have hPy := qa_kept hPy (ho9 _ d13.symm)
  have hPf := qa_kept hPf (ho9 _ d14.symm)
  refine lv_aload_n hx hb dX3_add_57 rfl (lv_at hl 2 rfl) ?_
  refine qr_get (ci := 3) (C := RX3) (T := TX3) (N := 5) hx hb hts hin3 hown hK hP rfl 1 (by decide) (hts (.fieldLink RX3 15 "QuorumLock$Wires" "parts" "[I") (by decide +kernel)) rfl dX3_add_58 ?_
  refine lv_iload hx hb dX3_add_61 (lv_at hl 0 rfl) ?_
  refine lv_iconst (v := nI 2) hx hb dX3_add_63 (by decide) ?_
  refine lv_iadd hx hb dX3_add_64 ?_
  refine q_ti (y := nI (((f * n + t) * 8 + (o + (w f t).length) % 8) * 3 + 2)) (nI_add _ _) ?_
  refine lv_iload hx hb dX3_add_65 (lv_at hl 7 rfl) ?_
  refine qr_iast hx hb hK hPp hS (Or.inr (Or.inl rfl)) (((f * n + t) * 8 + (o + (w f t).length) % 8) * 3 + 2) (by omega) (by omega) rfl dX3_add_67 (fun H locs hz9 ho9 hat9 hS => ?_)
  have hPp := hat9
  have hP := qa_kept hP (ho9 _ d01)
  have hPo := qa_kept hPo (ho9 _ d12.symm)
  have hPy := qa_kept hPy (ho9 _ d13.symm)
  have hPf := qa_kept hPf (ho9 _ d14.symm)
  refine lv_aload_n hx hb dX3_add_68 rfl (lv_at hl 2 rfl) ?_
  refine qr_get (ci := 3) (C := RX3) (T := TX3) (N := 5) hx hb hts hin3 hown hK hP rfl 3 (by decide) (hts (.fieldLink RX3 22 "QuorumLock$Wires" "lying" "[I") (by decide +kernel)) rfl dX3_add_69 ?_
  refine lv_iload hx hb dX3_add_72 (lv_at hl 1 rfl) ?_
  refine lv_dup2_11 hx hb dX3_add_74 rfl rfl ?_
  refine qr_iald (v := (nI (w f t).length)) hx hb hK hPy (f * n + t) (by omega) (by omega) rfl ey dX3_add_75 ?_
  refine lv_iconst (v := nI 1) hx hb dX3_add_76 (by decide) ?_
  refine lv_iadd hx hb dX3_add_77 ?_
  refine q_ti (y := nI ((w f t).length + 1)) (nI_add _ _) ?_
  refine qr_iast hx hb hK hPy hS (Or.inr (Or.inr (Or.inr (Or.inl rfl)))) (f * n + t) (by omega) (by omega) rfl dX3_add_78 (fun H locs hz9 ho9 hat9 hS => ?_)
  have hPy := hat9
  have hP := qa_kept hP (ho9 _ d03)
  have hPp := qa_kept hPp (ho9 _ d13)
  have hPo := qa_kept hPo (ho9 _ d23)
  have hPf := qa_kept hPf (ho9 _ d34.symm)
  refine lv_aload_n hx hb dX3_add_79 rfl (lv_at hl 2 rfl) ?_
  refine qr_get (ci := 3) (C := RX3) (T := TX3) (N := 5) hx hb hts hin3 hown hK hP rfl 4 (by decide) (hts (.fieldLink RX3 25 "QuorumLock$Wires" "lyingFrom" "[I") (by decide +kernel)) rfl dX3_add_80 ?_
  refine lv_iload_n hx hb dX3_add_83 rfl (lv_at hl 3 rfl) ?_
  refine lv_dup2_11 hx hb dX3_add_84 rfl rfl ?_
  refine qr_iald (v := (nI (q_sum w f n))) hx hb hK hPf f (by omega) (by omega) rfl (hJf f hf) dX3_add_85 ?_
  refine lv_iconst (v := nI 1) hx hb dX3_add_86 (by decide) ?_
  refine lv_iadd hx hb dX3_add_87 ?_
  refine q_ti (y := nI (q_sum w f n + 1)) (nI_add _ _) ?_
  refine qr_iast hx hb hK hPf hS (Or.inr (Or.inr (Or.inr (Or.inr rfl)))) f (by omega) (by omega) rfl dX3_add_88 (fun H locs hz9 ho9 hat9 hS => ?_)
  have hPf := hat9
  have hP := qa_kept hP (ho9 _ d04)
  have hPp := qa_kept hPp (ho9 _ d14)
  have hPo := qa_kept hPo (ho9 _ d24)
  have hPy := qa_kept hPy (ho9 _ d34)
  refine q_vret hx hb hr hlocks hS ⟨(upd (upd (upd P (((f * n + t) * 8 + (o + (w f t).length) % 8) * 3) x) (((f * n + t) * 8 + (o + (w f t).length) % 8) * 3 + 1) y) (((f * n + t) * 8 + (o + (w f t).length) % 8) * 3 + 2) z), O, (upd Y (f * n + t) (nI ((w f t).length + 1))), (upd F f (nI (q_sum w f n + 1))), hP, hPp, hPo, hPy, hPf, ?_, ?_⟩ dX3_add_89
  · intro f9 t9 hf9 ht9
    obtain ⟨o9, ho9, eo9, ey9, hl89, hm9⟩ := hJ f9 t9 hf9 ht9
    by_cases hft : f9 = f ∧ t9 = t
    · obtain ⟨rfl, rfl⟩ := hft
      have e9 : o9 = o := by
        have := eo9.symm.trans eo
        exact (nI_eq (by omega) (by omega)).mp this
      subst e9
      refine ⟨o9, ho, eo, ?_, ?_, fun m x9 hm0 => ?_⟩
      · rw [q2_s]; simp [upd, List.length_append]
      · rw [q2_s, List.length_append]; simp; omega
      · rw [q2_s] at hm0
        rcases Nat.lt_or_ge m (w f9 t9).length with h | h
        · rw [List.getElem?_append_left h] at hm0
          have h3 := hm m x9 hm0
          refine ⟨?_, ?_, ?_⟩ <;> simp only [upd] <;> rw [if_neg (by omega), if_neg (by omega), if_neg (by omega)]
          · exact h3.1
          · exact h3.2.1
          · exact h3.2.2
        · rw [List.getElem?_append_right h] at hm0
          have h4 := (List.getElem?_eq_some_iff.mp hm0).1
          have h5 : m = (w f9 t9).length := by simp at h4; omega
          subst h5
          rw [Nat.sub_self] at hm0
          have h6 : (x, y, z) = x9 := Option.some.inj hm0
          subst h6
          refine ⟨?_, ?_, ?_⟩ <;> simp [upd]
    · have hne : f9 * n + t9 ≠ f * n + t := fun h => hft (q_winj ht9 ht h)
      refine ⟨o9, ho9, eo9, ?_, ?_, fun m x9 hm0 => ?_⟩
      · rw [q2_n hft]; simp only [upd]; rw [if_neg hne]; exact ey9
      · rw [q2_n hft]; exact hl89
      · rw [q2_n hft] at hm0
        have h3 := hm9 m x9 hm0
        refine ⟨?_, ?_, ?_⟩ <;> simp only [upd] <;> rw [if_neg (by omega), if_neg (by omega), if_neg (by omega)]
        · exact h3.1
        · exact h3.2.1
        · exact h3.2.2
  · intro f9 hf9
    have h7 := q_sum_q2 w f t f9 (w f t ++ [(x, y, z)]) n
    simp only [upd]
    by_cases h8 : f9 = f
    · subst h8
      rw [if_pos rfl]
      simp only [ht, and_self, if_true, List.length_append, List.length_cons, List.length_nil] at h7
      congr 1; omega
    · rw [if_neg h8, hJf f9 hf9]
      simp only [h8, false_and, if_false, Nat.add_zero] at h7
      rw [h7]
set_option maxHeartbeats 4000000 in
set_option maxRecDepth 100000 in
/-- X3_dropOldest -/
theorem c_X3_dropOldest (l : Launch) (dd : va_G) (ga : Nat → ClassId) (n h0 h1 h2 h3 h4 : Nat) (d01 : h0 ≠ h1) (d02 : h0 ≠ h2) (d03 : h0 ≠ h3) (d04 : h0 ≠ h4) (d12 : h1 ≠ h2) (d13 : h1 ≠ h3) (d14 : h1 ≠ h4) (d23 : h2 ≠ h3) (d24 : h2 ≠ h4) (d34 : h3 ≠ h4) (w : Nat → Nat → List qM) (f t : Nat) (hn : n ≤ 16) (hf : f < n) (ht : t < n) (x9 : qM) (w9 : List qM) (ew : w f t = x9 :: w9) : Met l yX3_dropOldest wsX3_dropOldest ({ frames := 1, cells := 0, slots := 0, locals := 22 }) (qPc dd ga [.ref h0, .int (nI f), .int (nI t)] (fun H => qWir dd ga n h0 h1 h2 h3 h4 w H)) (qQv (fun H => qWir dd ga n h0 h1 h2 h3 h4 (q2 w f t w9) H) (fun q => q = h0 ∨ q = h1 ∨ q = h2 ∨ q = h3 ∨ q = h4)) 0 0 (fun q => q = h0 ∨ q = h1 ∨ q = h2 ∨ q = h3 ∨ q = h4) := by
  refine Met.ofW (cc := cX3_dropOldest) (maxL := 4) (ret := none) (by decide) rfl ?_
  intro p e s m args below meth c s₁ B hml hv
  obtain ⟨rfl, ⟨P, O, Y, F, hP, hPp, hPo, hPy, hPf, hJ, hJf⟩, hK⟩ := hv
  have hx := B.exec
  have hb := B.bytes
  have hr := B.returns
  have hts := atoms_spec (ws := wsX3_dropOldest) B.pre
  have hown : s.vm.findClass RX3 = some m.cls := findClass_of_methodNamed B.named
  have hlocks := B.notSynchronized
  have hS : qS (fun q => q = h0 ∨ q = h1 ∨ q = h2 ∨ q = h3 ∨ q = h4) s.heap s.heap [] := qS.rf
  have hl := lv_entry ([.ref h0, .int (nI f), .int (nI t)]) (n := 4) (Nat.le_of_ble_eq_true rfl)
  rw [lg_entry_eq]
  generalize (lg_sl ([.ref h0, .int (nI f), .int (nI t)]) ++ List.replicate (4 - (lg_sl ([.ref h0, .int (nI f), .int (nI t)])).length) Slot.unset).toArray = ls at hl ⊢
  have hin3 : ∀ w ∈ wsX30, w ∈ wsX3_dropOldest := by decide +kernel
  have hn2 := q_n2 hn
  have hwl := q_wlt hf ht
  obtain ⟨o, ho, eo, ey, hl8, hm⟩ := hJ f t hf ht
  have el : (w f t).length = w9.length + 1 := by rw [ew]; rfl
  rw [el] at ey hl8
  have hsp := q_sum_p (w := w) (f := f) (t := t) (by rw [ew]; simp) ht
  obtain ⟨u9, eu⟩ : ∃ u9, q_sum w f n = u9 + 1 := ⟨q_sum w f n - 1, by omega⟩
  refine lv_aload_n hx hb dX3_dropOldest_0 rfl (lv_at hl 0 rfl) ?_
  refine lv_iload_n hx hb dX3_dropOldest_1 rfl (lv_at hl 1 rfl) ?_
  refine lv_iload_n hx hb dX3_dropOldest_2 rfl (lv_at hl 2 rfl) ?_
  refine qc_i (va_runV (As := [.int (nI f), .int (nI t)]) (rest := []) ⟨hx, hb, hml, hown, hts⟩ (c_X3_wireOf l dd ga n h0 h1 h2 h3 h4 f t) (cwV 2 hts gX3_dropOldest_X3_wireOf rfl rfl rfl (by decide +kernel) ⟨Nat.le_of_ble_eq_true rfl, Nat.le_of_ble_eq_true rfl⟩) (qpreV hK hP hP rfl) rfl rfl hl.1 rfl (lv_room (Nat.le_of_ble_eq_true rfl)) dX3_dropOldest_3 ⟨Nat.zero_le _, Nat.zero_le _⟩) hS (fun q h => h.elim) (fun v3 H locs hp9 hz9 ho9 hS => ?_)
  subst hp9
  have hP := qa_kept hP (ho9 _ (fun h => h))
  have hPp := qa_kept hPp (ho9 _ (fun h => h))
  have hPo := qa_kept hPo (ho9 _ (fun h => h))
  have hPy := qa_kept hPy (ho9 _ (fun h => h))
  have hPf := qa_kept hPf (ho9 _ (fun h => h))
  refine lv_istore_n (lv' := [(3, .int (nI (f * n + t))), (0, .ref h0), (1, .int (nI f)), (2, .int (nI t))]) hx hb dX3_dropOldest_6 rfl hl (by decide) rfl (fun ls hl => ?_)
  refine lv_aload_n hx hb dX3_dropOldest_7 rfl (lv_at hl 1 rfl) ?_
  refine qr_get (ci := 3) (C := RX3) (T := TX3) (N := 5) hx hb hts hin3 hown hK hP rfl 3 (by decide) (hts (.fieldLink RX3 22 "QuorumLock$Wires" "lying" "[I") (by decide +kernel)) rfl dX3_dropOldest_8 ?_
  refine lv_iload_n hx hb dX3_dropOldest_11 rfl (lv_at hl 0 rfl) ?_
  refine qr_iald (v := (nI (w9.length + 1))) hx hb hK hPy (f * n + t) (by omega) (by omega) rfl ey dX3_dropOldest_12 ?_
  refine lv_if_le (tgt := 53) hx hb dX3_dropOldest_13 (by decide) (fun c_13 => absurd c_13 (nI_nle (by omega) (by omega))) (fun c_13 => ?_)
  refine lv_aload_n hx hb dX3_dropOldest_16 rfl (lv_at hl 1 rfl) ?_
  refine qr_get (ci := 3) (C := RX3) (T := TX3) (N := 5) hx hb hts hin3 hown hK hP rfl 2 (by decide) (hts (.fieldLink RX3 19 "QuorumLock$Wires" "oldest" "[I") (by decide +kernel)) rfl dX3_dropOldest_17 ?_
  refine lv_iload_n hx hb dX3_dropOldest_20 rfl (lv_at hl 0 rfl) ?_
  refine lv_aload_n hx hb dX3_dropOldest_21 rfl (lv_at hl 1 rfl) ?_
  refine qr_get (ci := 3) (C := RX3) (T := TX3) (N := 5) hx hb hts hin3 hown hK hP rfl 2 (by decide) (hts (.fieldLink RX3 19 "QuorumLock$Wires" "oldest" "[I") (by decide +kernel)) rfl dX3_dropOldest_22 ?_
  refine lv_iload_n hx hb dX3_dropOldest_25 rfl (lv_at hl 0 rfl) ?_
  refine qr_iald (v := (nI o)) hx hb hK hPo (f * n + t) (by omega) (by omega) rfl eo dX3_dropOldest_26 ?_
  refine lv_iconst (v := nI 1) hx hb dX3_dropOldest_27 (by decide) ?_
  refine lv_iadd hx hb dX3_dropOldest_28 ?_
  refine q_ti (y := nI (o + 1)) (nI_add _ _) ?_
  refine lv_bipush (v := nI 8) hx hb dX3_dropOldest_29 (by decide) ?_
  refine lv_irem hx hb dX3_dropOldest_31 (by decide) ?_
  refine q_ti (y := nI ((o + 1) % 8)) (pk_rem (by omega) (by decide) (by decide)) ?_
  refine qr_iast hx hb hK hPo hS (Or.inr (Or.inr (Or.inl rfl))) (f * n + t) (by omega) (by omega) rfl dX3_dropOldest_32 (fun H locs hz9 ho9 hat9 hS => ?_)
  have hPo := hat9
  have hP := qa_kept hP (ho9 _ d02)
  have hPp := qa_kept hPp (ho9 _ d12)
  have hPy := qa_kept hPy (ho9 _ d23.symm)
  have hPf := qa_kept hPf (ho9 _ d24.symm)
  refine lv_aload_n hx hb dX3_dropOldest_33 rfl (lv_at hl 1 rfl) ?_
  refine qr_get (ci := 3) (C := RX3) (T := TX3) (N := 5) hx hb hts hin3 hown hK hP rfl 3 (by decide) (hts (.fieldLink RX3 22 "QuorumLock$Wires" "lying" "[I") (by decide +kernel)) rfl dX3_dropOldest_34 ?_
  refine lv_iload_n hx hb dX3_dropOldest_37 rfl (lv_at hl 0 rfl) ?_
  refine lv_dup2_11 hx hb dX3_dropOldest_38 rfl rfl ?_
  refine qr_iald (v := (nI (w9.length + 1))) hx hb hK hPy (f * n + t) (by omega) (by omega) rfl ey dX3_dropOldest_39 ?_
  refine lv_iconst (v := 1) hx hb dX3_dropOldest_40 (by decide) ?_
  refine lv_isub hx hb dX3_dropOldest_41 ?_
  refine q_ti (y := nI w9.length) (nI_pred _) ?_
  refine qr_iast hx hb hK hPy hS (Or.inr (Or.inr (Or.inr (Or.inl rfl)))) (f * n + t) (by omega) (by omega) rfl dX3_dropOldest_42 (fun H locs hz9 ho9 hat9 hS => ?_)
  have hPy := hat9
  have hP := qa_kept hP (ho9 _ d03)
  have hPp := qa_kept hPp (ho9 _ d13)
  have hPo := qa_kept hPo (ho9 _ d23)
  have hPf := qa_kept hPf (ho9 _ d34.symm)
  refine lv_aload_n hx hb dX3_dropOldest_43 rfl (lv_at hl 1 rfl) ?_
  refine qr_get (ci := 3) (C := RX3) (T := TX3) (N := 5) hx hb hts hin3 hown hK hP rfl 4 (by decide) (hts (.fieldLink RX3 25 "QuorumLock$Wires" "lyingFrom" "[I") (by decide +kernel)) rfl dX3_dropOldest_44 ?_
  refine lv_iload_n hx hb dX3_dropOldest_47 rfl (lv_at hl 2 rfl) ?_
  refine lv_dup2_11 hx hb dX3_dropOldest_48 rfl rfl ?_
  refine qr_iald (v := (nI (u9 + 1))) hx hb hK hPf f (by omega) (by omega) rfl (by rw [hJf f hf, eu]) dX3_dropOldest_49 ?_
  refine lv_iconst (v := 1) hx hb dX3_dropOldest_50 (by decide) ?_
  refine lv_isub hx hb dX3_dropOldest_51 ?_
  refine q_ti (y := nI u9) (nI_pred _) ?_
  refine qr_iast hx hb hK hPf hS (Or.inr (Or.inr (Or.inr (Or.inr rfl)))) f (by omega) (by omega) rfl dX3_dropOldest_52 (fun H locs hz9 ho9 hat9 hS => ?_)
  have hPf := hat9
  have hP := qa_kept hP (ho9 _ d04)
  have hPp := qa_kept hPp (ho9 _ d14)
  have hPo := qa_kept hPo (ho9 _ d24)
  have hPy := qa_kept hPy (ho9 _ d34)
  refine q_vret hx hb hr hlocks hS ⟨P, (upd O (f * n + t) (nI ((o + 1) % 8))), (upd Y (f * n + t) (nI w9.length)), (upd F f (nI u9)), hP, hPp, hPo, hPy, hPf, ?_, ?_⟩ dX3_dropOldest_53
  · intro f9 t9 hf9 ht9
    by_cases hft : f9 = f ∧ t9 = t
    · obtain ⟨rfl, rfl⟩ := hft
      refine ⟨(o + 1) % 8, by omega, by simp [upd], by rw [q2_s]; simp [upd], by rw [q2_s]; omega, fun m0 x0 hm0 => ?_⟩
      rw [q2_s] at hm0
      have h3 := hm (m0 + 1) x0 (by rw [ew, List.getElem?_cons_succ]; exact hm0)
      have h4 : ((o + 1) % 8 + m0) % 8 = (o + (m0 + 1)) % 8 := by omega
      rw [h4]
      exact h3
    · have hne : f9 * n + t9 ≠ f * n + t := fun h => hft (q_winj ht9 ht h)
      obtain ⟨o9, ho9, eo9, ey9, hl89, hm9⟩ := hJ f9 t9 hf9 ht9
      refine ⟨o9, ho9, ?_, ?_, ?_, fun m0 x0 hm0 => ?_⟩
      · simp only [upd]; rw [if_neg hne]; exact eo9
      · rw [q2_n hft]; simp only [upd]; rw [if_neg hne]; exact ey9
      · rw [q2_n hft]; exact hl89
      · rw [q2_n hft] at hm0
        exact hm9 m0 x0 hm0
  · intro f9 hf9
    have h7 := q_sum_q2 w f t f9 w9 n
    simp only [upd]
    by_cases h8 : f9 = f
    · subst h8
      rw [if_pos rfl]
      simp only [ht, and_self, if_true] at h7
      congr 1; omega
    · rw [if_neg h8, hJf f9 hf9]
      simp only [h8, false_and, if_false, Nat.add_zero] at h7
      rw [h7]
def q_lf (w : Nat → Nat → List qM) (n : Nat) : Nat → Nat → Int32
  | 0, _ => -1
  | c + 1, f => if q_sum w f n = 0 then q_lf w n c (f + 1) else nI f
def q_lt (w : Nat → Nat → List qM) (f : Nat) : Nat → Nat → Int32
  | 0, _ => -1
  | c + 1, t => if w f t = [] then q_lt w f c (t + 1) else nI t
theorem q_sum_le2 {w : Nat → Nat → List qM} {f n : Nat} (h : ∀ t, t < n → (w f t).length ≤ 8) : ∀ m : Nat, m ≤ n → q_sum w f m ≤ 8 * m
  | 0, _ => Nat.le_refl 0
  | m + 1, hm => by
    have := q_sum_le2 h m (by omega)
    have := h m (by omega)
    unfold q_sum
    omega
set_option maxHeartbeats 4000000 in
set_option maxRecDepth 100000 in
/-- X3_leastFrom -/
theorem c_X3_leastFrom (l : Launch) (dd : va_G) (ga : Nat → ClassId) (n h0 h1 h2 h3 h4 : Nat) (w : Nat → Nat → List qM) (hn : n ≤ 16) : Met l yX3_leastFrom wsX3_leastFrom ({ frames := 0, cells := 0, slots := 0, locals := 0 }) (qPc dd ga [.ref h0] (fun H => qWir dd ga n h0 h1 h2 h3 h4 w H)) (qQi (fun v _ => v = q_lf w n n 0) (fun _ => False)) 0 0 (fun _ => False) := by
  refine Met.ofW (cc := cX3_leastFrom) (maxL := 2) (ret := (some .int)) (by decide) rfl ?_
  intro p e s m args below meth c s₁ B hml hv
  obtain ⟨rfl, ⟨P, O, Y, F, hP, hPp, hPo, hPy, hPf, hJ, hJf⟩, hK⟩ := hv
  have hx := B.exec
  have hb := B.bytes
  have hr := B.returns
  have hts := atoms_spec (ws := wsX3_leastFrom) B.pre
  have hown : s.vm.findClass RX3 = some m.cls := findClass_of_methodNamed B.named
  have hlocks := B.notSynchronized
  have hS : qS (fun _ => False) s.heap s.heap [] := qS.rf
  have hl := lv_entry ([.ref h0]) (n := 2) (Nat.le_of_ble_eq_true rfl)
  rw [lg_entry_eq]
  generalize (lg_sl ([.ref h0]) ++ List.replicate (2 - (lg_sl ([.ref h0])).length) Slot.unset).toArray = ls at hl ⊢
  have hin3 : ∀ w ∈ wsX30, w ∈ wsX3_leastFrom := by decide +kernel
  have hsl : ∀ f : Nat, f < n → q_sum w f n ≤ 8 * n := fun f hf => q_sum_le2 (fun t ht => by obtain ⟨o, ho, eo, ey, hl8, hm⟩ := hJ f t hf ht; exact hl8) n (Nat.le_refl n)
  have hloop : ∀ (c9 i9 : Nat) (ls : Array Slot), i9 + c9 = n → q_lf w n n 0 = q_lf w n c9 i9 → lv_has ls 2 [(1, .int (nI i9)), (0, .ref h0)] → W p l e (headSpec wsX3_leastFrom ({ frames := 0, cells := 0, slots := 0, locals := 0 })).room s m (([.ref h0] : List Value).toArray) below meth c s.heap [] 0 0 (MQ below (qQi (fun v _ => v = q_lf w n n 0) (fun _ => False)) (([.ref h0] : List Value).toArray) s 0 0 (fun _ => False)) (F0 m 2 ls []) := by
    intro c9
    induction c9 with
    | zero =>
      intro i9 ls hc he hl
      refine lv_iload_n hx hb dX3_leastFrom_2 rfl (lv_at hl 0 rfl) ?_
      refine lv_aload_n hx hb dX3_leastFrom_3 rfl (lv_at hl 1 rfl) ?_
      refine qr_get (ci := 3) (C := RX3) (T := TX3) (N := 5) hx hb hts hin3 hown hK hP rfl 0 (by decide) (hts (.fieldLink RX3 9 "QuorumLock$Wires" "ends" "I") (by decide +kernel)) rfl dX3_leastFrom_4 ?_
      refine lv_icmp_ge (tgt := 27) hx hb dX3_leastFrom_7 (by decide) (fun c_7 => ?_) (fun c_7 => absurd (nI_le (show n ≤ i9 by omega) (by omega)) c_7)
      refine lv_iconst (v := (-1)) hx hb dX3_leastFrom_27 (by decide) ?_
      exact q_iret hx hb hr hlocks hS he.symm dX3_leastFrom_28
    | succ c9 ih =>
      intro i9 ls hc he hl
      have hs9 := hsl i9 (by omega)
      refine lv_iload_n hx hb dX3_leastFrom_2 rfl (lv_at hl 0 rfl) ?_
      refine lv_aload_n hx hb dX3_leastFrom_3 rfl (lv_at hl 1 rfl) ?_
      refine qr_get (ci := 3) (C := RX3) (T := TX3) (N := 5) hx hb hts hin3 hown hK hP rfl 0 (by decide) (hts (.fieldLink RX3 9 "QuorumLock$Wires" "ends" "I") (by decide +kernel)) rfl dX3_leastFrom_4 ?_
      refine lv_icmp_ge (tgt := 27) hx hb dX3_leastFrom_7 (by decide) (fun c_7 => absurd c_7 (nI_ge (by omega) (by omega))) (fun c_7 => ?_)
      refine lv_aload_n hx hb dX3_leastFrom_10 rfl (lv_at hl 1 rfl) ?_
      refine qr_get (ci := 3) (C := RX3) (T := TX3) (N := 5) hx hb hts hin3 hown hK hP rfl 4 (by decide) (hts (.fieldLink RX3 25 "QuorumLock$Wires" "lyingFrom" "[I") (by decide +kernel)) rfl dX3_leastFrom_11 ?_
      refine lv_iload_n hx hb dX3_leastFrom_14 rfl (lv_at hl 0 rfl) ?_
      refine qr_iald (v := (nI (q_sum w i9 n))) hx hb hK hPf i9 (by omega) (by omega) rfl (hJf i9 (by omega)) dX3_leastFrom_15 ?_
      refine lv_if_le (tgt := 21) hx hb dX3_leastFrom_16 (by decide) (fun c_16 => ?_) (fun c_16 => ?_)
      · refine lv_iinc (v := nI (i9 + 1)) (lv' := [(1, .int (nI (i9 + 1))), (0, .ref h0)]) hx hb dX3_leastFrom_21 hl (k := 0) rfl (nI_1 _) (by decide) rfl (fun ls hl => ?_)
        refine lv_goto (tgt := 2) hx hb dX3_leastFrom_24 (by decide) ?_
        exact ih (i9 + 1) ls (by omega) (by rw [he, q_lf, if_pos (Classical.byContradiction fun h => absurd c_16 (nI_nle (by omega) (by omega)))]) (lv_sub hl [0, 1] rfl)
      · refine lv_iload_n hx hb dX3_leastFrom_19 rfl (lv_at hl 0 rfl) ?_
        exact q_iret hx hb hr hlocks hS (by rw [he, q_lf, if_neg (fun h => c_16 (by rw [h]; decide))]) dX3_leastFrom_20
  refine lv_iconst (v := nI 0) hx hb dX3_leastFrom_0 (by decide) ?_
  refine lv_istore_n (lv' := [(1, .int (nI 0)), (0, .ref h0)]) hx hb dX3_leastFrom_1 rfl hl (by decide) rfl (fun ls hl => ?_)
  exact hloop n 0 ls (by omega) rfl (lv_sub hl [0, 1] rfl)
set_option maxHeartbeats 4000000 in
set_option maxRecDepth 100000 in
/-- X3_leastTo -/
theorem c_X3_leastTon (l : Launch) (dd : va_G) (ga : Nat → ClassId) (n h0 h1 h2 h3 h4 : Nat) (w : Nat → Nat → List qM) (hn : n ≤ 16) : Met l yX3_leastTo wsX3_leastTo ({ frames := 2, cells := 0, slots := 0, locals := 44 }) (qPc dd ga [.ref h0, .int (-1)] (fun H => qWir dd ga n h0 h1 h2 h3 h4 w H)) (qQi (fun v _ => v = -1) (fun _ => False)) 0 0 (fun _ => False) := by
  refine Met.ofW (cc := cX3_leastTo) (maxL := 3) (ret := (some .int)) (by decide) rfl ?_
  intro p e s m args below meth c s₁ B hml hv
  obtain ⟨rfl, ⟨P, O, Y, F, hP, hPp, hPo, hPy, hPf, hJ, hJf⟩, hK⟩ := hv
  have hx := B.exec
  have hb := B.bytes
  have hr := B.returns
  have hts := atoms_spec (ws := wsX3_leastTo) B.pre
  have hown : s.vm.findClass RX3 = some m.cls := findClass_of_methodNamed B.named
  have hlocks := B.notSynchronized
  have hS : qS (fun _ => False) s.heap s.heap [] := qS.rf
  have hl := lv_entry ([.ref h0, .int (-1)]) (n := 3) (Nat.le_of_ble_eq_true rfl)
  rw [lg_entry_eq]
  generalize (lg_sl ([.ref h0, .int (-1)]) ++ List.replicate (3 - (lg_sl ([.ref h0, .int (-1)])).length) Slot.unset).toArray = ls at hl ⊢
  have hin3 : ∀ w ∈ wsX30, w ∈ wsX3_leastTo := by decide +kernel
  refine lv_iload_n hx hb dX3_leastTo_0 rfl (lv_at hl 1 rfl) ?_
  refine lv_if_lt (tgt := 12) hx hb dX3_leastTo_1 (by decide) (fun c_1 => ?_) (fun c_1 => absurd (by decide) c_1)
  refine lv_iconst (v := (-1)) hx hb dX3_leastTo_12 (by decide) ?_
  exact q_iret hx hb hr hlocks hS rfl dX3_leastTo_13
set_option maxHeartbeats 4000000 in
set_option maxRecDepth 100000 in
/-- X3_leastTo -/
theorem c_X3_leastTo (l : Launch) (dd : va_G) (ga : Nat → ClassId) (n h0 h1 h2 h3 h4 : Nat) (w : Nat → Nat → List qM) (hn : n ≤ 16) (f : Nat) (hf : f < n) : Met l yX3_leastTo wsX3_leastTo ({ frames := 2, cells := 0, slots := 0, locals := 44 }) (qPc dd ga [.ref h0, .int (nI f)] (fun H => qWir dd ga n h0 h1 h2 h3 h4 w H)) (qQi (fun v _ => v = q_lt w f n 0) (fun _ => False)) 0 0 (fun _ => False) := by
  refine Met.ofW (cc := cX3_leastTo) (maxL := 3) (ret := (some .int)) (by decide) rfl ?_
  intro p e s m args below meth c s₁ B hml hv
  obtain ⟨rfl, ⟨P, O, Y, F, hP, hPp, hPo, hPy, hPf, hJ, hJf⟩, hK⟩ := hv
  have hx := B.exec
  have hb := B.bytes
  have hr := B.returns
  have hts := atoms_spec (ws := wsX3_leastTo) B.pre
  have hown : s.vm.findClass RX3 = some m.cls := findClass_of_methodNamed B.named
  have hlocks := B.notSynchronized
  have hS : qS (fun _ => False) s.heap s.heap [] := qS.rf
  have hl := lv_entry ([.ref h0, .int (nI f)]) (n := 3) (Nat.le_of_ble_eq_true rfl)
  rw [lg_entry_eq]
  generalize (lg_sl ([.ref h0, .int (nI f)]) ++ List.replicate (3 - (lg_sl ([.ref h0, .int (nI f)])).length) Slot.unset).toArray = ls at hl ⊢
  have hin3 : ∀ w ∈ wsX30, w ∈ wsX3_leastTo := by decide +kernel
  have hloop : ∀ (c9 i9 : Nat) (ls : Array Slot) (H : Heap) (locs : List Loc), i9 + c9 = n → q_lt w f n 0 = q_lt w f c9 i9 → va_at dd vwCl (h0, .inr (3, [.int (nI n), .ref h1, .ref h2, .ref h3, .ref h4])) H → va_at dd vwCl (h1, .inl (ga 0, n * n * 8 * 3, .inl P)) H → va_at dd vwCl (h2, .inl (ga 0, n * n, .inl O)) H → va_at dd vwCl (h3, .inl (ga 0, n * n, .inl Y)) H → va_at dd vwCl (h4, .inl (ga 0, n, .inl F)) H → qS (fun _ => False) s.heap H locs → lv_has ls 3 [(2, .int (nI i9)), (0, .ref h0), (1, .int (nI f))] → W p l e (headSpec wsX3_leastTo ({ frames := 2, cells := 0, slots := 0, locals := 44 })).room s m (([.ref h0, .int (nI f)] : List Value).toArray) below meth c H locs 0 0 (MQ below (qQi (fun v _ => v = q_lt w f n 0) (fun _ => False)) (([.ref h0, .int (nI f)] : List Value).toArray) s 0 0 (fun _ => False)) (F0 m 16 ls []) := by
    intro c9
    induction c9 with
    | zero =>
      intro i9 ls H locs hc he hP hPp hPo hPy hPf hS hl
      refine lv_iload_n hx hb dX3_leastTo_16 rfl (lv_at hl 0 rfl) ?_
      refine lv_aload_n hx hb dX3_leastTo_17 rfl (lv_at hl 1 rfl) ?_
      refine qr_get (ci := 3) (C := RX3) (T := TX3) (N := 5) hx hb hts hin3 hown hK hP rfl 0 (by decide) (hts (.fieldLink RX3 9 "QuorumLock$Wires" "ends" "I") (by decide +kernel)) rfl dX3_leastTo_18 ?_
      refine lv_icmp_ge (tgt := 41) hx hb dX3_leastTo_21 (by decide) (fun c_21 => ?_) (fun c_21 => absurd (nI_le (show n ≤ i9 by omega) (by omega)) c_21)
      refine lv_iconst (v := (-1)) hx hb dX3_leastTo_41 (by decide) ?_
      exact q_iret hx hb hr hlocks hS he.symm dX3_leastTo_42
    | succ c9 ih =>
      intro i9 ls H locs hc he hP hPp hPo hPy hPf hS hl
      have hi9 : i9 < n := by omega
      obtain ⟨o, ho, eo, ey, hl8, hm⟩ := hJ f i9 hf hi9
      refine lv_iload_n hx hb dX3_leastTo_16 rfl (lv_at hl 0 rfl) ?_
      refine lv_aload_n hx hb dX3_leastTo_17 rfl (lv_at hl 1 rfl) ?_
      refine qr_get (ci := 3) (C := RX3) (T := TX3) (N := 5) hx hb hts hin3 hown hK hP rfl 0 (by decide) (hts (.fieldLink RX3 9 "QuorumLock$Wires" "ends" "I") (by decide +kernel)) rfl dX3_leastTo_18 ?_
      refine lv_icmp_ge (tgt := 41) hx hb dX3_leastTo_21 (by decide) (fun c_21 => absurd c_21 (nI_ge (by omega) (by omega))) (fun c_21 => ?_)
      refine lv_aload_n hx hb dX3_leastTo_24 rfl (lv_at hl 1 rfl) ?_
      refine lv_iload_n hx hb dX3_leastTo_25 rfl (lv_at hl 2 rfl) ?_
      refine lv_iload_n hx hb dX3_leastTo_26 rfl (lv_at hl 0 rfl) ?_
      refine qc_i (va_runV (As := [.int (nI f), .int (nI i9)]) (rest := []) ⟨hx, hb, hml, hown, hts⟩ (c_X3_count l dd ga n h0 h1 h2 h3 h4 w f i9 hn hf hi9) (cwV 2 hts gX3_leastTo_X3_count rfl rfl rfl (by decide +kernel) ⟨Nat.le_of_ble_eq_true rfl, Nat.le_of_ble_eq_true rfl⟩) (qpreV hK (⟨P, O, Y, F, hP, hPp, hPo, hPy, hPf, hJ, hJf⟩) hP rfl) rfl rfl hl.1 rfl (lv_room (Nat.le_of_ble_eq_true rfl)) dX3_leastTo_27 ⟨Nat.zero_le _, Nat.zero_le _⟩) hS (fun q h => h.elim) (fun v27 H locs hp9 hz9 ho9 hS => ?_)
      subst hp9
      have hP := qa_kept hP (ho9 _ (fun h => h))
      have hPp := qa_kept hPp (ho9 _ (fun h => h))
      have hPo := qa_kept hPo (ho9 _ (fun h => h))
      have hPy := qa_kept hPy (ho9 _ (fun h => h))
      have hPf := qa_kept hPf (ho9 _ (fun h => h))
      refine lv_if_le (tgt := 35) hx hb dX3_leastTo_30 (by decide) (fun c_30 => ?_) (fun c_30 => ?_)
      · refine lv_iinc (v := nI (i9 + 1)) (lv' := [(2, .int (nI (i9 + 1))), (0, .ref h0), (1, .int (nI f))]) hx hb dX3_leastTo_35 hl (k := 0) rfl (nI_1 _) (by decide) rfl (fun ls hl => ?_)
        refine lv_goto (tgt := 16) hx hb dX3_leastTo_38 (by decide) ?_
        exact ih (i9 + 1) ls _ _ (by omega) (by rw [he, q_lt, if_pos (List.length_eq_zero_iff.mp (Classical.byContradiction fun h => absurd c_30 (nI_nle (by omega) (by omega))))]) hP hPp hPo hPy hPf hS (lv_sub hl [0, 1, 2] rfl)
      · refine lv_iload_n hx hb dX3_leastTo_33 rfl (lv_at hl 0 rfl) ?_
        exact q_iret hx hb hr hlocks hS (by rw [he, q_lt, if_neg (fun h => c_30 (by rw [h]; decide))]) dX3_leastTo_34
  refine lv_iload_n hx hb dX3_leastTo_0 rfl (lv_at hl 1 rfl) ?_
  refine lv_if_lt (tgt := 12) hx hb dX3_leastTo_1 (by decide) (fun c_1 => absurd c_1 (nI_pos (by omega))) (fun c_1 => ?_)
  refine lv_iload_n hx hb dX3_leastTo_4 rfl (lv_at hl 1 rfl) ?_
  refine lv_aload_n hx hb dX3_leastTo_5 rfl (lv_at hl 0 rfl) ?_
  refine qr_get (ci := 3) (C := RX3) (T := TX3) (N := 5) hx hb hts hin3 hown hK hP rfl 0 (by decide) (hts (.fieldLink RX3 9 "QuorumLock$Wires" "ends" "I") (by decide +kernel)) rfl dX3_leastTo_6 ?_
  refine lv_icmp_lt (tgt := 14) hx hb dX3_leastTo_9 (by decide) (fun c_9 => ?_) (fun c_9 => absurd (nI_lt hf (by omega)) c_9)
  refine lv_iconst (v := nI 0) hx hb dX3_leastTo_14 (by decide) ?_
  refine lv_istore_n (lv' := [(2, .int (nI 0)), (0, .ref h0), (1, .int (nI f))]) hx hb dX3_leastTo_15 rfl hl (by decide) rfl (fun ls hl => ?_)
  exact hloop n 0 ls _ _ (by omega) rfl hP hPp hPo hPy hPf hS (lv_sub hl [0, 1, 2] rfl)
theorem q_sum_e (f : Nat) : ∀ m : Nat, q_sum (fun _ _ => []) f m = 0
  | 0 => rfl
  | m + 1 => by unfold q_sum; rw [q_sum_e f m]; rfl
set_option maxHeartbeats 4000000 in
set_option maxRecDepth 100000 in
/-- emptyAll, of wires that hold anything -/
theorem c_X3_emptyAll (l : Launch) (dd : va_G) (ga : Nat → ClassId) (n h0 h1 h2 h3 h4 : Nat) (d01 : h0 ≠ h1) (d02 : h0 ≠ h2) (d03 : h0 ≠ h3) (d04 : h0 ≠ h4) (d12 : h1 ≠ h2) (d13 : h1 ≠ h3) (d14 : h1 ≠ h4) (d23 : h2 ≠ h3) (d24 : h2 ≠ h4) (d34 : h3 ≠ h4) (hn : n ≤ 16) : Met l yX3_emptyAll wsX3_emptyAll ({ frames := 0, cells := 0, slots := 0, locals := 0 }) (qPc dd ga [.ref h0] (fun H => (∃ P O Y F : Nat → Int32, va_at dd vwCl (h0, .inr (3, [.int (nI n), .ref h1, .ref h2, .ref h3, .ref h4])) H ∧ va_at dd vwCl (h1, .inl (ga 0, n * n * 8 * 3, .inl P)) H ∧ va_at dd vwCl (h2, .inl (ga 0, n * n, .inl O)) H ∧ va_at dd vwCl (h3, .inl (ga 0, n * n, .inl Y)) H ∧ va_at dd vwCl (h4, .inl (ga 0, n, .inl F)) H))) (qQv (fun H => qWir dd ga n h0 h1 h2 h3 h4 (fun _ _ => []) H) (fun q => q = h0 ∨ q = h1 ∨ q = h2 ∨ q = h3 ∨ q = h4)) 0 0 (fun q => q = h0 ∨ q = h1 ∨ q = h2 ∨ q = h3 ∨ q = h4) := by
  refine Met.ofW (cc := cX3_emptyAll) (maxL := 2) (ret := none) (by decide) rfl ?_
  intro p e s m args below meth c s₁ B hml hv
  obtain ⟨rfl, ⟨P, O, Y, F, hP, hPp, hPo, hPy, hPf⟩, hK⟩ := hv
  have hx := B.exec
  have hb := B.bytes
  have hr := B.returns
  have hts := atoms_spec (ws := wsX3_emptyAll) B.pre
  have hown : s.vm.findClass RX3 = some m.cls := findClass_of_methodNamed B.named
  have hlocks := B.notSynchronized
  have hS : qS (fun q => q = h0 ∨ q = h1 ∨ q = h2 ∨ q = h3 ∨ q = h4) s.heap s.heap [] := qS.rf
  have hl := lv_entry ([.ref h0]) (n := 2) (Nat.le_of_ble_eq_true rfl)
  rw [lg_entry_eq]
  generalize (lg_sl ([.ref h0]) ++ List.replicate (2 - (lg_sl ([.ref h0])).length) Slot.unset).toArray = ls at hl ⊢
  have hin3 : ∀ w ∈ wsX30, w ∈ wsX3_emptyAll := by decide +kernel
  have hn2 := q_n2 hn
  have hloop2 : ∀ (c9 i9 : Nat) (F O Y : Nat → Int32) (ls : Array Slot) (H : Heap) (locs : List Loc), i9 + c9 = n → (∀ j : Nat, j < n * n → O j = 0 ∧ Y j = 0) → (∀ j : Nat, j < i9 → F j = 0) → va_at dd vwCl (h0, .inr (3, [.int (nI n), .ref h1, .ref h2, .ref h3, .ref h4])) H → va_at dd vwCl (h1, .inl (ga 0, n * n * 8 * 3, .inl P)) H → va_at dd vwCl (h2, .inl (ga 0, n * n, .inl O)) H → va_at dd vwCl (h3, .inl (ga 0, n * n, .inl Y)) H → va_at dd vwCl (h4, .inl (ga 0, n, .inl F)) H → qS (fun q => q = h0 ∨ q = h1 ∨ q = h2 ∨ q = h3 ∨ q = h4) s.heap H locs → lv_has ls 2 [(1, .int (nI i9)), (0, .ref h0)] → W p l e (headSpec wsX3_emptyAll ({ frames := 0, cells := 0, slots := 0, locals := 0 })).room s m (([.ref h0] : List Value).toArray) below meth c H locs 0 0 (MQ below (qQv (fun H => qWir dd ga n h0 h1 h2 h3 h4 (fun _ _ => []) H) (fun q => q = h0 ∨ q = h1 ∨ q = h2 ∨ q = h3 ∨ q = h4)) (([.ref h0] : List Value).toArray) s 0 0 (fun q => q = h0 ∨ q = h1 ∨ q = h2 ∨ q = h3 ∨ q = h4)) (F0 m 33 ls []) := by
    intro c9
    induction c9 with
    | zero =>
      intro i9 F O Y ls H locs hc hOY hF9 hP hPp hPo hPy hPf hS hl
      refine lv_iload_n hx hb dX3_emptyAll_33 rfl (lv_at hl 0 rfl) ?_
      refine lv_aload_n hx hb dX3_emptyAll_34 rfl (lv_at hl 1 rfl) ?_
      refine qr_get (ci := 3) (C := RX3) (T := TX3) (N := 5) hx hb hts hin3 hown hK hP rfl 0 (by decide) (hts (.fieldLink RX3 9 "QuorumLock$Wires" "ends" "I") (by decide +kernel)) rfl dX3_emptyAll_35 ?_
      refine lv_icmp_ge (tgt := 54) hx hb dX3_emptyAll_38 (by decide) (fun c_38 => ?_) (fun c_38 => absurd (nI_le (show n ≤ i9 by omega) (by omega)) c_38)
      refine q_vret hx hb hr hlocks hS ⟨P, O, Y, F, hP, hPp, hPo, hPy, hPf, fun f t hf ht => ⟨0, by decide, (hOY _ (q_wlt hf ht)).1, (hOY _ (q_wlt hf ht)).2, by simp, fun m0 x0 hm0 => by simp at hm0⟩, fun f hf => ?_⟩ dX3_emptyAll_54
      rw [hF9 f (by omega), q_sum_e]; rfl
    | succ c9 ih =>
      intro i9 F O Y ls H locs hc hOY hF9 hP hPp hPo hPy hPf hS hl
      refine lv_iload_n hx hb dX3_emptyAll_33 rfl (lv_at hl 0 rfl) ?_
      refine lv_aload_n hx hb dX3_emptyAll_34 rfl (lv_at hl 1 rfl) ?_
      refine qr_get (ci := 3) (C := RX3) (T := TX3) (N := 5) hx hb hts hin3 hown hK hP rfl 0 (by decide) (hts (.fieldLink RX3 9 "QuorumLock$Wires" "ends" "I") (by decide +kernel)) rfl dX3_emptyAll_35 ?_
      refine lv_icmp_ge (tgt := 54) hx hb dX3_emptyAll_38 (by decide) (fun c_38 => absurd c_38 (nI_ge (by omega) (by omega))) (fun c_38 => ?_)
      refine lv_aload_n hx hb dX3_emptyAll_41 rfl (lv_at hl 1 rfl) ?_
      refine qr_get (ci := 3) (C := RX3) (T := TX3) (N := 5) hx hb hts hin3 hown hK hP rfl 4 (by decide) (hts (.fieldLink RX3 25 "QuorumLock$Wires" "lyingFrom" "[I") (by decide +kernel)) rfl dX3_emptyAll_42 ?_
      refine lv_iload_n hx hb dX3_emptyAll_45 rfl (lv_at hl 0 rfl) ?_
      refine lv_iconst (v := 0) hx hb dX3_emptyAll_46 (by decide) ?_
      refine qr_iast hx hb hK hPf hS (Or.inr (Or.inr (Or.inr (Or.inr rfl)))) i9 (by omega) (by omega) rfl dX3_emptyAll_47 (fun H locs hz9 ho9 hat9 hS => ?_)
      have hPf := hat9
      have hP := qa_kept hP (ho9 _ d04)
      have hPp := qa_kept hPp (ho9 _ d14)
      have hPo := qa_kept hPo (ho9 _ d24)
      have hPy := qa_kept hPy (ho9 _ d34)
      refine lv_iinc (v := nI (i9 + 1)) (lv' := [(1, .int (nI (i9 + 1))), (0, .ref h0)]) hx hb dX3_emptyAll_48 hl (k := 0) rfl (nI_1 _) (by decide) rfl (fun ls hl => ?_)
      refine lv_goto (tgt := 33) hx hb dX3_emptyAll_51 (by decide) ?_
      exact ih (i9 + 1) (upd F i9 0) O Y ls _ _ (by omega) hOY (fun j hj => by simp only [upd]; split; rfl; exact hF9 j (by omega)) hP hPp hPo hPy hPf hS (lv_sub hl [0, 1] rfl)
  have hloop1 : ∀ (c9 i9 : Nat) (O Y : Nat → Int32) (ls : Array Slot) (H : Heap) (locs : List Loc), i9 + c9 = n * n → (∀ j : Nat, j < i9 → O j = 0 ∧ Y j = 0) → va_at dd vwCl (h0, .inr (3, [.int (nI n), .ref h1, .ref h2, .ref h3, .ref h4])) H → va_at dd vwCl (h1, .inl (ga 0, n * n * 8 * 3, .inl P)) H → va_at dd vwCl (h2, .inl (ga 0, n * n, .inl O)) H → va_at dd vwCl (h3, .inl (ga 0, n * n, .inl Y)) H → va_at dd vwCl (h4, .inl (ga 0, n, .inl F)) H → qS (fun q => q = h0 ∨ q = h1 ∨ q = h2 ∨ q = h3 ∨ q = h4) s.heap H locs → lv_has ls 2 [(1, .int (nI i9)), (0, .ref h0)] → W p l e (headSpec wsX3_emptyAll ({ frames := 0, cells := 0, slots := 0, locals := 0 })).room s m (([.ref h0] : List Value).toArray) below meth c H locs 0 0 (MQ below (qQv (fun H => qWir dd ga n h0 h1 h2 h3 h4 (fun _ _ => []) H) (fun q => q = h0 ∨ q = h1 ∨ q = h2 ∨ q = h3 ∨ q = h4)) (([.ref h0] : List Value).toArray) s 0 0 (fun q => q = h0 ∨ q = h1 ∨ q = h2 ∨ q = h3 ∨ q = h4)) (F0 m 2 ls []) := by
    intro c9
    induction c9 with
    | zero =>
      intro i9 O Y ls H locs hc hOY hP hPp hPo hPy hPf hS hl
      refine lv_iload_n hx hb dX3_emptyAll_2 rfl (lv_at hl 0 rfl) ?_
      refine lv_aload_n hx hb dX3_emptyAll_3 rfl (lv_at hl 1 rfl) ?_
      refine qr_get (ci := 3) (C := RX3) (T := TX3) (N := 5) hx hb hts hin3 hown hK hP rfl 3 (by decide) (hts (.fieldLink RX3 22 "QuorumLock$Wires" "lying" "[I") (by decide +kernel)) rfl dX3_emptyAll_4 ?_
      refine qr_alen hx hb hK hPy dX3_emptyAll_7 ?_
      refine lv_icmp_ge (tgt := 31) hx hb dX3_emptyAll_8 (by decide) (fun c_8 => ?_) (fun c_8 => absurd (nI_le (show n * n ≤ i9 by omega) (by omega)) c_8)
      refine lv_iconst (v := nI 0) hx hb dX3_emptyAll_31 (by decide) ?_
      refine lv_istore_n (lv' := [(1, .int (nI 0)), (0, .ref h0)]) hx hb dX3_emptyAll_32 rfl hl (by decide) rfl (fun ls hl => ?_)
      exact hloop2 n 0 F O Y ls _ _ (by omega) (fun j hj => hOY j (by omega)) (fun j hj => by omega) hP hPp hPo hPy hPf hS (lv_sub hl [0, 1] rfl)
    | succ c9 ih =>
      intro i9 O Y ls H locs hc hOY hP hPp hPo hPy hPf hS hl
      refine lv_iload_n hx hb dX3_emptyAll_2 rfl (lv_at hl 0 rfl) ?_
      refine lv_aload_n hx hb dX3_emptyAll_3 rfl (lv_at hl 1 rfl) ?_
      refine qr_get (ci := 3) (C := RX3) (T := TX3) (N := 5) hx hb hts hin3 hown hK hP rfl 3 (by decide) (hts (.fieldLink RX3 22 "QuorumLock$Wires" "lying" "[I") (by decide +kernel)) rfl dX3_emptyAll_4 ?_
      refine qr_alen hx hb hK hPy dX3_emptyAll_7 ?_
      refine lv_icmp_ge (tgt := 31) hx hb dX3_emptyAll_8 (by decide) (fun c_8 => absurd c_8 (nI_ge (by omega) (by omega))) (fun c_8 => ?_)
      refine lv_aload_n hx hb dX3_emptyAll_11 rfl (lv_at hl 1 rfl) ?_
      refine qr_get (ci := 3) (C := RX3) (T := TX3) (N := 5) hx hb hts hin3 hown hK hP rfl 2 (by decide) (hts (.fieldLink RX3 19 "QuorumLock$Wires" "oldest" "[I") (by decide +kernel)) rfl dX3_emptyAll_12 ?_
      refine lv_iload_n hx hb dX3_emptyAll_15 rfl (lv_at hl 0 rfl) ?_
      refine lv_iconst (v := 0) hx hb dX3_emptyAll_16 (by decide) ?_
      refine qr_iast hx hb hK hPo hS (Or.inr (Or.inr (Or.inl rfl))) i9 (by omega) (by omega) rfl dX3_emptyAll_17 (fun H locs hz9 ho9 hat9 hS => ?_)
      have hPo := hat9
      have hP := qa_kept hP (ho9 _ d02)
      have hPp := qa_kept hPp (ho9 _ d12)
      have hPy := qa_kept hPy (ho9 _ d23.symm)
      have hPf := qa_kept hPf (ho9 _ d24.symm)
      refine lv_aload_n hx hb dX3_emptyAll_18 rfl (lv_at hl 1 rfl) ?_
      refine qr_get (ci := 3) (C := RX3) (T := TX3) (N := 5) hx hb hts hin3 hown hK hP rfl 3 (by decide) (hts (.fieldLink RX3 22 "QuorumLock$Wires" "lying" "[I") (by decide +kernel)) rfl dX3_emptyAll_19 ?_
      refine lv_iload_n hx hb dX3_emptyAll_22 rfl (lv_at hl 0 rfl) ?_
      refine lv_iconst (v := 0) hx hb dX3_emptyAll_23 (by decide) ?_
      refine qr_iast hx hb hK hPy hS (Or.inr (Or.inr (Or.inr (Or.inl rfl)))) i9 (by omega) (by omega) rfl dX3_emptyAll_24 (fun H locs hz9 ho9 hat9 hS => ?_)
      have hPy := hat9
      have hP := qa_kept hP (ho9 _ d03)
      have hPp := qa_kept hPp (ho9 _ d13)
      have hPo := qa_kept hPo (ho9 _ d23)
      have hPf := qa_kept hPf (ho9 _ d34.symm)
      refine lv_iinc (v := nI (i9 + 1)) (lv' := [(1, .int (nI (i9 + 1))), (0, .ref h0)]) hx hb dX3_emptyAll_25 hl (k := 0) rfl (nI_1 _) (by decide) rfl (fun ls hl => ?_)
      refine lv_goto (tgt := 2) hx hb dX3_emptyAll_28 (by decide) ?_
      exact ih (i9 + 1) (upd O i9 0) (upd Y i9 0) ls _ _ (by omega) (fun j hj => by simp only [upd]; split; exact ⟨rfl, rfl⟩; exact hOY j (by omega)) hP hPp hPo hPy hPf hS (lv_sub hl [0, 1] rfl)
  refine lv_iconst (v := nI 0) hx hb dX3_emptyAll_0 (by decide) ?_
  refine lv_istore_n (lv' := [(1, .int (nI 0)), (0, .ref h0)]) hx hb dX3_emptyAll_1 rfl hl (by decide) rfl (fun ls hl => ?_)
  exact hloop1 (n * n) 0 O Y ls _ _ (by omega) (fun j hj => by omega) hP hPp hPo hPy hPf hS (lv_sub hl [0, 1] rfl)
end
section
/-! THE CLASS'S WORLD: where its cells lie (kind, number), and what they hold of a state -/
def qd (n a b : Nat) : Prop := (a < 10 ∧ b = 0) ∨ (10 ≤ a ∧ a < 15 ∧ b < n)
def qL (n : Nat) (ad : Nat → Nat → Nat) : Prop := ∀ a b a' b' : Nat, qd n a b → qd n a' b' → ad a b = ad a' b' → a = a' ∧ b = b'
def qA (n : Nat) (ad : Nat → Nat → Nat) : Nat → Prop := fun q => ∃ a b : Nat, qd n a b ∧ q = ad a b
abbrev q_refs (f : Nat → Option Nat) : ((Nat → Int32) ⊕ (Nat → Int64) ⊕ (Nat → UInt32) ⊕ (Nat → UInt64) ⊕ (Nat → Option Nat)) := .inr (.inr (.inr (.inr f)))
def qC (dd : va_G) (ga : Nat → ClassId) (n k : Nat) (ad : Nat → Nat → Nat) (σ : qSt) (H : Heap) : Prop :=
  va_at dd vwCl (ad 0 0, .inr (4, [.int (nI n), .ref (ad 1 0), .ref (ad 2 0), .ref (ad 3 0), .ref (ad 4 0), .ref (ad 5 0), .int σ.2.2.2.2])) H ∧
  va_at dd vwCl (ad 1 0, .inl (ga 0, n, .inl (fun j => q_quo k j n))) H ∧
  va_at dd vwCl (ad 2 0, .inl (ga 0, n, .inl (σ.1 0))) H ∧
  va_at dd vwCl (ad 3 0, .inl (ga 2, n, q_refs (fun j => some (ad 10 j)))) H ∧
  va_at dd vwCl (ad 4 0, .inl (ga 3, n, q_refs (fun j => some (ad 11 j)))) H ∧
  qWir dd ga n (ad 5 0) (ad 6 0) (ad 7 0) (ad 8 0) (ad 9 0) σ.2.2.2.1 H ∧
  (∀ i : Nat, i < n → va_at dd vwCl (ad 10 i, .inr (0, [.int (σ.1 1 i), .int (σ.1 2 i), .int (σ.1 3 i), .int (σ.1 4 i), .int (σ.1 5 i)])) H) ∧
  (∀ i : Nat, i < n → qVot dd (ad 11 i) (ad 12 i) (σ.2.1 i) (σ.1 6 i) H) ∧
  (∀ i : Nat, i < n → qRow dd ga (2 * k - 1) (ad 12 i) (ad 13 i) (ad 14 i) (σ.2.2.1 i) H)
/-- what a step leans on: room on the wires and in the rows, nodes that are there -/
def qCap (n k : Nat) (σ : qSt) : Prop :=
  (∀ f t : Nat, f < n → t < n → (σ.2.2.2.1 f t).length ≤ 6) ∧ (∀ i : Nat, i < n → (σ.2.2.1 i).length < 2 * k - 1) ∧
  (∀ i : Nat, i < n → ∀ x ∈ σ.2.2.1 i, x.1 < n) ∧ (∀ i : Nat, i < n → ∀ x : Nat × Int32, σ.2.1 i = some x → x.1 < n) ∧ (∀ i : Nat, i < n → σ.1 6 i = 0 ∨ σ.1 6 i = 1)
/-- the square: n nodes, a side of k -/
def qSq (n k : Nat) : Prop := n = k * k ∧ 1 ≤ k ∧ k ≤ 4
theorem qSq.n {n k : Nat} (h : qSq n k) : 1 ≤ n ∧ n ≤ 16 := by
  obtain ⟨rfl, h1, h2⟩ := h
  exact ⟨Nat.mul_le_mul h1 h1, Nat.mul_le_mul h2 h2⟩
section QC
variable {dd : va_G} {ga : Nat → ClassId} {n k : Nat} {ad : Nat → Nat → Nat} {σ σ' : qSt} {H H1 : Heap}
theorem qC.self (h : qC dd ga n k ad σ H) : va_at dd vwCl (ad 0 0, .inr (4, [.int (nI n), .ref (ad 1 0), .ref (ad 2 0), .ref (ad 3 0), .ref (ad 4 0), .ref (ad 5 0), .int σ.2.2.2.2])) H := h.1
theorem qC.quo (h : qC dd ga n k ad σ H) : va_at dd vwCl (ad 1 0, .inl (ga 0, n, .inl (fun j => q_quo k j n))) H := h.2.1
theorem qC.clk (h : qC dd ga n k ad σ H) : va_at dd vwCl (ad 2 0, .inl (ga 0, n, .inl (σ.1 0))) H := h.2.2.1
theorem qC.arA (h : qC dd ga n k ad σ H) : va_at dd vwCl (ad 3 0, .inl (ga 2, n, q_refs (fun j => some (ad 10 j)))) H := h.2.2.2.1
theorem qC.arV (h : qC dd ga n k ad σ H) : va_at dd vwCl (ad 4 0, .inl (ga 3, n, q_refs (fun j => some (ad 11 j)))) H := h.2.2.2.2.1
theorem qC.wir (h : qC dd ga n k ad σ H) : qWir dd ga n (ad 5 0) (ad 6 0) (ad 7 0) (ad 8 0) (ad 9 0) σ.2.2.2.1 H := h.2.2.2.2.2.1
theorem qC.ask (h : qC dd ga n k ad σ H) (i : Nat) (hi : i < n) : va_at dd vwCl (ad 10 i, .inr (0, [.int (σ.1 1 i), .int (σ.1 2 i), .int (σ.1 3 i), .int (σ.1 4 i), .int (σ.1 5 i)])) H := h.2.2.2.2.2.2.1 i hi
theorem qC.vot (h : qC dd ga n k ad σ H) (i : Nat) (hi : i < n) : va_at dd vwCl (ad 11 i, .inr (2, [.ref (ad 12 i), .int (q_on (σ.2.1 i)), .int (q_ot (σ.2.1 i)), .int (σ.1 6 i)])) H := h.2.2.2.2.2.2.2.1 i hi
theorem qC.row (h : qC dd ga n k ad σ H) (i : Nat) (hi : i < n) : qRow dd ga (2 * k - 1) (ad 12 i) (ad 13 i) (ad 14 i) (σ.2.2.1 i) H := h.2.2.2.2.2.2.2.2 i hi
theorem qRow.obj {q h0 h1 h2 : Nat} {r : List (Nat × Int32)} (h : qRow dd ga q h0 h1 h2 r H) : va_at dd vwCl (h0, .inr (1, [.ref h1, .ref h2, .int (nI r.length)])) H := by obtain ⟨f, g, h, -⟩ := h; exact h
theorem qWir.obj {h0 h1 h2 h3 h4 : Nat} {w : Nat → Nat → List qM} (h : qWir dd ga n h0 h1 h2 h3 h4 w H) : va_at dd vwCl (h0, .inr (3, [.int (nI n), .ref h1, .ref h2, .ref h3, .ref h4])) H := by obtain ⟨P, O, Y, F, h, -⟩ := h; exact h
theorem qRow.kept {q h0 h1 h2 : Nat} {r : List (Nat × Int32)} (h : qRow dd ga q h0 h1 h2 r H) (e0 : H1[h0]? = H[h0]?) (e1 : H1[h1]? = H[h1]?) (e2 : H1[h2]? = H[h2]?) : qRow dd ga q h0 h1 h2 r H1 := by
  obtain ⟨f, g, a, b, c, d⟩ := h
  exact ⟨f, g, qa_kept a e0, qa_kept b e1, qa_kept c e2, d⟩
theorem qWir.kept {h0 h1 h2 h3 h4 : Nat} {w : Nat → Nat → List qM} (h : qWir dd ga n h0 h1 h2 h3 h4 w H) (e0 : H1[h0]? = H[h0]?) (e1 : H1[h1]? = H[h1]?) (e2 : H1[h2]? = H[h2]?) (e3 : H1[h3]? = H[h3]?) (e4 : H1[h4]? = H[h4]?) : qWir dd ga n h0 h1 h2 h3 h4 w H1 := by
  obtain ⟨P, O, Y, F, a, b, c, d, e, f⟩ := h
  exact ⟨P, O, Y, F, qa_kept a e0, qa_kept b e1, qa_kept c e2, qa_kept d e3, qa_kept e e4, f⟩
theorem qd.z {a : Nat} (h : a < 10) : qd n a 0 := Or.inl ⟨h, rfl⟩
theorem qd.i {a i : Nat} (h1 : 10 ≤ a) (h2 : a < 15) (hi : i < n) : qd n a i := Or.inr ⟨h1, h2, hi⟩
theorem qL.ne (hL : qL n ad) {a b a' b' : Nat} (h : qd n a b) (h' : qd n a' b') (hn : ¬ (a = a' ∧ b = b')) : ad a b ≠ ad a' b' := fun e => hn (hL a b a' b' h h' e)
/-- the same heap where it matters -/
theorem qC.same (h : qC dd ga n k ad σ H) (hO : ∀ q : Nat, H1[q]? = H[q]?) : qC dd ga n k ad σ H1 :=
  ⟨qa_kept h.self (hO _), qa_kept h.quo (hO _), qa_kept h.clk (hO _), qa_kept h.arA (hO _), qa_kept h.arV (hO _), h.wir.kept (hO _) (hO _) (hO _) (hO _) (hO _), fun i hi => qa_kept (h.ask i hi) (hO _), fun i hi => qa_kept (h.vot i hi) (hO _), fun i hi => (h.row i hi).kept (hO _) (hO _) (hO _)⟩
theorem qC.putAsk (hL : qL n ad) (h : qC dd ga n k ad σ H) {i : Nat} (hi : i < n) (hO : ∀ q : Nat, q ≠ ad 10 i → H1[q]? = H[q]?) (hn : va_at dd vwCl (ad 10 i, .inr (0, [.int (σ'.1 1 i), .int (σ'.1 2 i), .int (σ'.1 3 i), .int (σ'.1 4 i), .int (σ'.1 5 i)])) H1)
    (e1 : ∀ f j : Nat, ¬ ((1 ≤ f ∧ f ≤ 5) ∧ j = i) → σ'.1 f j = σ.1 f j) (e2 : σ'.2 = σ.2) : qC dd ga n k ad σ' H1 := by
  have hd := qd.i (n := n) (a := 10) (by decide) (by decide) hi
  have hz : ∀ a : Nat, a < 10 → H1[ad a 0]? = H[ad a 0]? := fun a ha => hO _ (hL.ne (qd.z ha) hd (by omega))
  have hj : ∀ a j : Nat, 10 < a → a < 15 → j < n → H1[ad a j]? = H[ad a j]? := fun a j h1 h2 h3 => hO _ (hL.ne (qd.i (by omega) h2 h3) hd (by omega))
  refine ⟨?_, qa_kept h.quo (hz 1 (by decide)), ?_, qa_kept h.arA (hz 3 (by decide)), qa_kept h.arV (hz 4 (by decide)), ?_, fun j hjn => ?_, fun j hjn => ?_, fun j hjn => ?_⟩
  · rw [e2]; exact qa_kept h.self (hz 0 (by decide))
  · rw [show σ'.1 0 = σ.1 0 from funext fun j => e1 0 j (by omega)]; exact qa_kept h.clk (hz 2 (by decide))
  · rw [e2]; exact h.wir.kept (hz 5 (by decide)) (hz 6 (by decide)) (hz 7 (by decide)) (hz 8 (by decide)) (hz 9 (by decide))
  · by_cases hji : j = i
    · subst hji; exact hn
    · rw [e1 1 j (by omega), e1 2 j (by omega), e1 3 j (by omega), e1 4 j (by omega), e1 5 j (by omega)]
      exact qa_kept (h.ask j hjn) (hO _ (hL.ne (qd.i (by decide) (by decide) hjn) hd (by omega)))
  · rw [e1 6 j (by omega), e2]; exact qa_kept (h.vot j hjn) (hj 11 j (by decide) (by decide) hjn)
  · rw [e2]; exact (h.row j hjn).kept (hj 12 j (by decide) (by decide) hjn) (hj 13 j (by decide) (by decide) hjn) (hj 14 j (by decide) (by decide) hjn)
theorem qC.putVot (hL : qL n ad) (h : qC dd ga n k ad σ H) {i : Nat} (hi : i < n) (hO : ∀ q : Nat, q ≠ ad 11 i → H1[q]? = H[q]?) (hn : qVot dd (ad 11 i) (ad 12 i) (σ'.2.1 i) (σ'.1 6 i) H1)
    (e1 : ∀ f j : Nat, ¬ (f = 6 ∧ j = i) → σ'.1 f j = σ.1 f j) (e2 : ∀ j : Nat, j ≠ i → σ'.2.1 j = σ.2.1 j) (e3 : σ'.2.2 = σ.2.2) : qC dd ga n k ad σ' H1 := by
  have hd := qd.i (n := n) (a := 11) (by decide) (by decide) hi
  have hz : ∀ a : Nat, a < 10 → H1[ad a 0]? = H[ad a 0]? := fun a ha => hO _ (hL.ne (qd.z ha) hd (by omega))
  have hj : ∀ a j : Nat, 10 ≤ a → a ≠ 11 → a < 15 → j < n → H1[ad a j]? = H[ad a j]? := fun a j h1 h0 h2 h3 => hO _ (hL.ne (qd.i (by omega) h2 h3) hd (by omega))
  refine ⟨?_, qa_kept h.quo (hz 1 (by decide)), ?_, qa_kept h.arA (hz 3 (by decide)), qa_kept h.arV (hz 4 (by decide)), ?_, fun j hjn => ?_, fun j hjn => ?_, fun j hjn => ?_⟩
  · rw [e3]; exact qa_kept h.self (hz 0 (by decide))
  · rw [show σ'.1 0 = σ.1 0 from funext fun j => e1 0 j (by omega)]; exact qa_kept h.clk (hz 2 (by decide))
  · rw [e3]; exact h.wir.kept (hz 5 (by decide)) (hz 6 (by decide)) (hz 7 (by decide)) (hz 8 (by decide)) (hz 9 (by decide))
  · rw [e1 1 j (by omega), e1 2 j (by omega), e1 3 j (by omega), e1 4 j (by omega), e1 5 j (by omega)]
    exact qa_kept (h.ask j hjn) (hj 10 j (by decide) (by decide) (by decide) hjn)
  · by_cases hji : j = i
    · subst hji; exact hn
    · rw [e1 6 j (by omega), e2 j hji]; exact qa_kept (h.vot j hjn) (hO _ (hL.ne (qd.i (by decide) (by decide) hjn) hd (by omega)))
  · rw [e3]; exact (h.row j hjn).kept (hj 12 j (by decide) (by decide) (by decide) hjn) (hj 13 j (by decide) (by decide) (by decide) hjn) (hj 14 j (by decide) (by decide) (by decide) hjn)
theorem qC.putRow (hL : qL n ad) (h : qC dd ga n k ad σ H) {i : Nat} (hi : i < n) (hO : ∀ q : Nat, ¬ (q = ad 12 i ∨ q = ad 13 i ∨ q = ad 14 i) → H1[q]? = H[q]?) (hn : qRow dd ga (2 * k - 1) (ad 12 i) (ad 13 i) (ad 14 i) (σ'.2.2.1 i) H1)
    (e1 : σ'.1 = σ.1) (e2 : σ'.2.1 = σ.2.1) (e3 : ∀ j : Nat, j ≠ i → σ'.2.2.1 j = σ.2.2.1 j) (e4 : σ'.2.2.2 = σ.2.2.2) : qC dd ga n k ad σ' H1 := by
  have hd : ∀ a : Nat, 12 ≤ a → a < 15 → qd n a i := fun a h1 h2 => qd.i (by omega) h2 hi
  have hx : ∀ a b : Nat, qd n a b → ¬ (12 ≤ a ∧ b = i) → H1[ad a b]? = H[ad a b]? := fun a b h1 h2 => hO _ (fun h3 => by
    rcases h3 with h3 | h3 | h3
    · have := hL _ _ _ _ h1 (hd 12 (by decide) (by decide)) h3; omega
    · have := hL _ _ _ _ h1 (hd 13 (by decide) (by decide)) h3; omega
    · have := hL _ _ _ _ h1 (hd 14 (by decide) (by decide)) h3; omega)
  have hz : ∀ a : Nat, a < 10 → H1[ad a 0]? = H[ad a 0]? := fun a ha => hx a 0 (qd.z ha) (by omega)
  refine ⟨?_, qa_kept h.quo (hz 1 (by decide)), ?_, qa_kept h.arA (hz 3 (by decide)), qa_kept h.arV (hz 4 (by decide)), ?_, fun j hjn => ?_, fun j hjn => ?_, fun j hjn => ?_⟩
  · rw [e4]; exact qa_kept h.self (hz 0 (by decide))
  · rw [e1]; exact qa_kept h.clk (hz 2 (by decide))
  · rw [e4]; exact h.wir.kept (hz 5 (by decide)) (hz 6 (by decide)) (hz 7 (by decide)) (hz 8 (by decide)) (hz 9 (by decide))
  · rw [e1]; exact qa_kept (h.ask j hjn) (hx 10 j (qd.i (by decide) (by decide) hjn) (by omega))
  · rw [e1, e2]; exact qa_kept (h.vot j hjn) (hx 11 j (qd.i (by decide) (by decide) hjn) (by omega))
  · by_cases hji : j = i
    · subst hji; exact hn
    · rw [e3 j hji]; exact (h.row j hjn).kept (hx 12 j (qd.i (by decide) (by decide) hjn) (by omega)) (hx 13 j (qd.i (by decide) (by decide) hjn) (by omega)) (hx 14 j (qd.i (by decide) (by decide) hjn) (by omega))
theorem qC.putWir (hL : qL n ad) (h : qC dd ga n k ad σ H) (hO : ∀ q : Nat, ¬ (q = ad 5 0 ∨ q = ad 6 0 ∨ q = ad 7 0 ∨ q = ad 8 0 ∨ q = ad 9 0) → H1[q]? = H[q]?) (hn : qWir dd ga n (ad 5 0) (ad 6 0) (ad 7 0) (ad 8 0) (ad 9 0) σ'.2.2.2.1 H1)
    (e1 : σ'.1 = σ.1) (e2 : σ'.2.1 = σ.2.1) (e3 : σ'.2.2.1 = σ.2.2.1) (e4 : σ'.2.2.2.2 = σ.2.2.2.2) : qC dd ga n k ad σ' H1 := by
  have hx : ∀ a b : Nat, qd n a b → ¬ (5 ≤ a ∧ a ≤ 9) → H1[ad a b]? = H[ad a b]? := fun a b h1 h2 => hO _ (fun h3 => by
    rcases h3 with h3 | h3 | h3 | h3 | h3
    · have := hL _ _ _ _ h1 (qd.z (by decide)) h3; omega
    · have := hL _ _ _ _ h1 (qd.z (by decide)) h3; omega
    · have := hL _ _ _ _ h1 (qd.z (by decide)) h3; omega
    · have := hL _ _ _ _ h1 (qd.z (by decide)) h3; omega
    · have := hL _ _ _ _ h1 (qd.z (by decide)) h3; omega)
  have hz : ∀ a : Nat, a < 5 → H1[ad a 0]? = H[ad a 0]? := fun a ha => hx a 0 (qd.z (by omega)) (by omega)
  refine ⟨?_, qa_kept h.quo (hz 1 (by decide)), ?_, qa_kept h.arA (hz 3 (by decide)), qa_kept h.arV (hz 4 (by decide)), hn, fun j hjn => ?_, fun j hjn => ?_, fun j hjn => ?_⟩
  · rw [e4]; exact qa_kept h.self (hz 0 (by decide))
  · rw [e1]; exact qa_kept h.clk (hz 2 (by decide))
  · rw [e1]; exact qa_kept (h.ask j hjn) (hx 10 j (qd.i (by decide) (by decide) hjn) (by omega))
  · rw [e1, e2]; exact qa_kept (h.vot j hjn) (hx 11 j (qd.i (by decide) (by decide) hjn) (by omega))
  · rw [e3]; exact (h.row j hjn).kept (hx 12 j (qd.i (by decide) (by decide) hjn) (by omega)) (hx 13 j (qd.i (by decide) (by decide) hjn) (by omega)) (hx 14 j (qd.i (by decide) (by decide) hjn) (by omega))
theorem qC.putClk (hL : qL n ad) (h : qC dd ga n k ad σ H) (hO : ∀ q : Nat, q ≠ ad 2 0 → H1[q]? = H[q]?) (hn : va_at dd vwCl (ad 2 0, .inl (ga 0, n, .inl (σ'.1 0))) H1)
    (e1 : ∀ f j : Nat, f ≠ 0 → σ'.1 f j = σ.1 f j) (e2 : σ'.2 = σ.2) : qC dd ga n k ad σ' H1 := by
  have hx : ∀ a b : Nat, qd n a b → a ≠ 2 → H1[ad a b]? = H[ad a b]? := fun a b h1 h2 => hO _ (hL.ne h1 (qd.z (by decide)) (by omega))
  have hz : ∀ a : Nat, a < 10 → a ≠ 2 → H1[ad a 0]? = H[ad a 0]? := fun a ha h2 => hx a 0 (qd.z (by omega)) h2
  refine ⟨?_, qa_kept h.quo (hz 1 (by decide) (by decide)), hn, qa_kept h.arA (hz 3 (by decide) (by decide)), qa_kept h.arV (hz 4 (by decide) (by decide)), ?_, fun j hjn => ?_, fun j hjn => ?_, fun j hjn => ?_⟩
  · rw [e2]; exact qa_kept h.self (hz 0 (by decide) (by decide))
  · rw [e2]; exact h.wir.kept (hz 5 (by decide) (by decide)) (hz 6 (by decide) (by decide)) (hz 7 (by decide) (by decide)) (hz 8 (by decide) (by decide)) (hz 9 (by decide) (by decide))
  · rw [e1 1 j (by omega), e1 2 j (by omega), e1 3 j (by omega), e1 4 j (by omega), e1 5 j (by omega)]
    exact qa_kept (h.ask j hjn) (hx 10 j (qd.i (by decide) (by decide) hjn) (by omega))
  · rw [e1 6 j (by omega), e2]; exact qa_kept (h.vot j hjn) (hx 11 j (qd.i (by decide) (by decide) hjn) (by omega))
  · rw [e2]; exact (h.row j hjn).kept (hx 12 j (qd.i (by decide) (by decide) hjn) (by omega)) (hx 13 j (qd.i (by decide) (by decide) hjn) (by omega)) (hx 14 j (qd.i (by decide) (by decide) hjn) (by omega))
theorem qC.putEn (hL : qL n ad) (h : qC dd ga n k ad σ H) (hO : ∀ q : Nat, q ≠ ad 0 0 → H1[q]? = H[q]?) {v : Int32} (hn : va_at dd vwCl (ad 0 0, .inr (4, [.int (nI n), .ref (ad 1 0), .ref (ad 2 0), .ref (ad 3 0), .ref (ad 4 0), .ref (ad 5 0), .int v])) H1) : qC dd ga n k ad (s_en σ v) H1 := by
  have hx : ∀ a b : Nat, qd n a b → a ≠ 0 → H1[ad a b]? = H[ad a b]? := fun a b h1 h2 => hO _ (hL.ne h1 (qd.z (by decide)) (by omega))
  have hz : ∀ a : Nat, a < 10 → a ≠ 0 → H1[ad a 0]? = H[ad a 0]? := fun a ha h2 => hx a 0 (qd.z (by omega)) h2
  exact ⟨hn, qa_kept h.quo (hz 1 (by decide) (by decide)), qa_kept h.clk (hz 2 (by decide) (by decide)), qa_kept h.arA (hz 3 (by decide) (by decide)), qa_kept h.arV (hz 4 (by decide) (by decide)), h.wir.kept (hz 5 (by decide) (by decide)) (hz 6 (by decide) (by decide)) (hz 7 (by decide) (by decide)) (hz 8 (by decide) (by decide)) (hz 9 (by decide) (by decide)), fun j hjn => qa_kept (h.ask j hjn) (hx 10 j (qd.i (by decide) (by decide) hjn) (by omega)), fun j hjn => qa_kept (h.vot j hjn) (hx 11 j (qd.i (by decide) (by decide) hjn) (by omega)), fun j hjn => (h.row j hjn).kept (hx 12 j (qd.i (by decide) (by decide) hjn) (by omega)) (hx 13 j (qd.i (by decide) (by decide) hjn) (by omega)) (hx 14 j (qd.i (by decide) (by decide) hjn) (by omega))⟩
end QC
end
section
/-! the class's own small methods -/
theorem qA.wir {n : Nat} {ad : Nat → Nat → Nat} {q : Nat} (h : q = ad 5 0 ∨ q = ad 6 0 ∨ q = ad 7 0 ∨ q = ad 8 0 ∨ q = ad 9 0) : qA n ad q := by
  rcases h with h | h | h | h | h
  · exact ⟨5, 0, qd.z (by decide), h⟩
  · exact ⟨6, 0, qd.z (by decide), h⟩
  · exact ⟨7, 0, qd.z (by decide), h⟩
  · exact ⟨8, 0, qd.z (by decide), h⟩
  · exact ⟨9, 0, qd.z (by decide), h⟩
theorem qA.at {n : Nat} {ad : Nat → Nat → Nat} {q a i : Nat} (h1 : 10 ≤ a) (h2 : a < 15) (hi : i < n) (h : q = ad a i) : qA n ad q := ⟨a, i, qd.i h1 h2 hi, h⟩
theorem qA.row {n : Nat} {ad : Nat → Nat → Nat} {q i : Nat} (hi : i < n) (h : q = ad 12 i ∨ q = ad 13 i ∨ q = ad 14 i) : qA n ad q := by
  rcases h with h | h | h
  · exact ⟨12, i, qd.i (by decide) (by decide) hi, h⟩
  · exact ⟨13, i, qd.i (by decide) (by decide) hi, h⟩
  · exact ⟨14, i, qd.i (by decide) (by decide) hi, h⟩
def q_node (n : Nat) (x : Int32) : Bool := decide (¬ (x < 0 ∨ nI n ≤ x))
theorem q_nodeC {n : Nat} (hn : n ≤ 16) (x : Int32) : (q_node n x = true ∧ ∃ j : Nat, j < n ∧ x = nI j) ∨ q_node n x = false := by
  rcases pk_ix x (n := n) (by omega) with h | h | h
  · right; simp [q_node, h]
  · right; simp [q_node, h]
  · obtain ⟨j, hj, rfl⟩ := h
    left
    refine ⟨?_, j, hj, rfl⟩
    simp only [q_node, decide_eq_true_eq]
    rintro (h | h)
    · exact absurd h (nI_pos (by omega))
    · exact absurd h (nI_ge hj (by omega))
theorem q_nodeY {n j : Nat} (hn : n ≤ 16) (hj : j < n) : q_node n (nI j) = true := by
  simp only [q_node, decide_eq_true_eq]
  rintro (h | h)
  · exact absurd h (nI_pos (by omega))
  · exact absurd h (nI_ge hj (by omega))
set_option maxHeartbeats 4000000 in
set_option maxRecDepth 100000 in
/-- X4_has -/
theorem c_X4_has (l : Launch) (dd : va_G) (ga : Nat → ClassId) (x : Int32) (j : Nat) : Met l yX4_has wsX4_has ({ frames := 0, cells := 0, slots := 0, locals := 0 }) (qPc dd ga [.int x, .int (nI j)] (fun H => True)) (qQi (fun v _ => v = if q_has x j = true then 1 else 0) (fun _ => False)) 0 0 (fun _ => False) := by
  refine Met.ofW (cc := cX4_has) (maxL := 2) (ret := (some .boolean)) (by decide) rfl ?_
  intro p e s m args below meth c s₁ B hml hv
  obtain ⟨rfl, hP, hK⟩ := hv
  have hx := B.exec
  have hb := B.bytes
  have hr := B.returns
  have hts := atoms_spec (ws := wsX4_has) B.pre
  have hown : s.vm.findClass RX4 = some m.cls := findClass_of_methodNamed B.named
  have hlocks := B.notSynchronized
  have hS : qS (fun _ => False) s.heap s.heap [] := qS.rf
  have hl := lv_entry ([.int x, .int (nI j)]) (n := 2) (Nat.le_of_ble_eq_true rfl)
  rw [lg_entry_eq]
  generalize (lg_sl ([.int x, .int (nI j)]) ++ List.replicate (2 - (lg_sl ([.int x, .int (nI j)])).length) Slot.unset).toArray = ls at hl ⊢
  refine lv_iload_n hx hb dX4_has_0 rfl (lv_at hl 0 rfl) ?_
  refine lv_iload_n hx hb dX4_has_1 rfl (lv_at hl 1 rfl) ?_
  refine lv_ishr hx hb dX4_has_2 ?_
  refine lv_iconst (v := 1) hx hb dX4_has_3 (by decide) ?_
  refine lv_iand hx hb dX4_has_4 ?_
  refine lv_iconst (v := 1) hx hb dX4_has_5 (by decide) ?_
  refine lv_icmp_ne (tgt := 13) hx hb dX4_has_6 (by decide) (fun c_6 => ?_) (fun c_6 => ?_)
  · refine lv_iconst (v := 0) hx hb dX4_has_13 (by decide) ?_
    exact q_zret hx hb hr hlocks rfl hS (by simp [q_has, c_6]) dX4_has_14
  · refine lv_iconst (v := 1) hx hb dX4_has_9 (by decide) ?_
    refine lv_goto (tgt := 14) hx hb dX4_has_10 (by decide) ?_
    exact q_zret hx hb hr hlocks rfl hS (by simp [q_has, c_6]) dX4_has_14
set_option maxHeartbeats 4000000 in
set_option maxRecDepth 100000 in
/-- X4_isNode -/
theorem c_X4_isNode (l : Launch) (dd : va_G) (ga : Nat → ClassId) (n k : Nat) (ad : Nat → Nat → Nat) (σ : qSt) (hsq : qSq n k) (hL : qL n ad) (x : Int32) : Met l yX4_isNode wsX4_isNode ({ frames := 0, cells := 0, slots := 0, locals := 0 }) (qPc dd ga [.ref (ad 0 0), .int x] (fun H => qC dd ga n k ad σ H)) (qQi (fun v _ => v = if q_node n x = true then 1 else 0) (fun _ => False)) 0 0 (fun _ => False) := by
  refine Met.ofW (cc := cX4_isNode) (maxL := 2) (ret := (some .boolean)) (by decide) rfl ?_
  intro p e s m args below meth c s₁ B hml hv
  obtain ⟨rfl, hC, hK⟩ := hv
  have hx := B.exec
  have hb := B.bytes
  have hr := B.returns
  have hts := atoms_spec (ws := wsX4_isNode) B.pre
  have hown : s.vm.findClass RX4 = some m.cls := findClass_of_methodNamed B.named
  have hlocks := B.notSynchronized
  have hS : qS (fun _ => False) s.heap s.heap [] := qS.rf
  have hl := lv_entry ([.ref (ad 0 0), .int x]) (n := 2) (Nat.le_of_ble_eq_true rfl)
  rw [lg_entry_eq]
  generalize (lg_sl ([.ref (ad 0 0), .int x]) ++ List.replicate (2 - (lg_sl ([.ref (ad 0 0), .int x])).length) Slot.unset).toArray = ls at hl ⊢
  have hin4 : ∀ w ∈ wsX40, w ∈ wsX4_isNode := by decide +kernel
  have hn1 := hsq.n.1
  have hn16 := hsq.n.2
  refine lv_iload_n hx hb dX4_isNode_0 rfl (lv_at hl 1 rfl) ?_
  refine lv_if_lt (tgt := 16) hx hb dX4_isNode_1 (by decide) (fun c_1 => ?_) (fun c_1 => ?_)
  · refine lv_iconst (v := 0) hx hb dX4_isNode_16 (by decide) ?_
    exact q_zret hx hb hr hlocks rfl hS (by simp_all [q_node]) dX4_isNode_17
  · refine lv_iload_n hx hb dX4_isNode_4 rfl (lv_at hl 1 rfl) ?_
    refine lv_aload_n hx hb dX4_isNode_5 rfl (lv_at hl 0 rfl) ?_
    refine qr_get (ci := 4) (C := RX4) (T := TX4) (N := 7) hx hb hts hin4 hown hK hC.self rfl 0 (by decide) (hts (.fieldLink RX4 18 "QuorumLock" "nodes" "I") (by decide +kernel)) rfl dX4_isNode_6 ?_
    refine lv_icmp_ge (tgt := 16) hx hb dX4_isNode_9 (by decide) (fun c_9 => ?_) (fun c_9 => ?_)
    · refine lv_iconst (v := 0) hx hb dX4_isNode_16 (by decide) ?_
      exact q_zret hx hb hr hlocks rfl hS (by simp_all [q_node]) dX4_isNode_17
    · refine lv_iconst (v := 1) hx hb dX4_isNode_12 (by decide) ?_
      refine lv_goto (tgt := 17) hx hb dX4_isNode_13 (by decide) ?_
      exact q_zret hx hb hr hlocks rfl hS (by simp_all [q_node]) dX4_isNode_17
set_option maxHeartbeats 4000000 in
set_option maxRecDepth 100000 in
/-- X4_isWire -/
theorem c_X4_isWire (l : Launch) (dd : va_G) (ga : Nat → ClassId) (n k : Nat) (ad : Nat → Nat → Nat) (σ : qSt) (hsq : qSq n k) (hL : qL n ad) (x y : Int32) : Met l yX4_isWire wsX4_isWire ({ frames := 1, cells := 0, slots := 0, locals := 21 }) (qPc dd ga [.ref (ad 0 0), .int x, .int y] (fun H => qC dd ga n k ad σ H)) (qQi (fun v _ => v = if q_node n x = true ∧ q_node n y = true then 1 else 0) (fun _ => False)) 0 0 (fun _ => False) := by
  refine Met.ofW (cc := cX4_isWire) (maxL := 3) (ret := (some .boolean)) (by decide) rfl ?_
  intro p e s m args below meth c s₁ B hml hv
  obtain ⟨rfl, hC, hK⟩ := hv
  have hx := B.exec
  have hb := B.bytes
  have hr := B.returns
  have hts := atoms_spec (ws := wsX4_isWire) B.pre
  have hown : s.vm.findClass RX4 = some m.cls := findClass_of_methodNamed B.named
  have hlocks := B.notSynchronized
  have hS : qS (fun _ => False) s.heap s.heap [] := qS.rf
  have hl := lv_entry ([.ref (ad 0 0), .int x, .int y]) (n := 3) (Nat.le_of_ble_eq_true rfl)
  rw [lg_entry_eq]
  generalize (lg_sl ([.ref (ad 0 0), .int x, .int y]) ++ List.replicate (3 - (lg_sl ([.ref (ad 0 0), .int x, .int y])).length) Slot.unset).toArray = ls at hl ⊢
  have hin4 : ∀ w ∈ wsX40, w ∈ wsX4_isWire := by decide +kernel
  have hn1 := hsq.n.1
  have hn16 := hsq.n.2
  refine lv_aload_n hx hb dX4_isWire_0 rfl (lv_at hl 0 rfl) ?_
  refine lv_iload_n hx hb dX4_isWire_1 rfl (lv_at hl 1 rfl) ?_
  refine qc_i (va_runV (As := [.int x]) (rest := []) ⟨hx, hb, hml, hown, hts⟩ (c_X4_isNode l dd ga n k ad σ hsq hL x) (cwV 1 hts gX4_isWire_X4_isNode rfl rfl rfl (by decide +kernel) ⟨Nat.le_of_ble_eq_true rfl, Nat.le_of_ble_eq_true rfl⟩) (qpreV hK hC hC.self rfl) rfl rfl hl.1 rfl (lv_room (Nat.le_of_ble_eq_true rfl)) dX4_isWire_2 ⟨Nat.zero_le _, Nat.zero_le _⟩) hS (fun q h => h) (fun v2 H locs hp9 hz9 ho9 hS => ?_)
  have ev2 : v2 = _ := hp9
  have hC := hC.same (fun q => ho9 q (fun h => h))
  refine lv_if_eq (tgt := 20) hx hb dX4_isWire_5 (by decide) (fun c_5 => ?_) (fun c_5 => ?_)
  · refine lv_iconst (v := 0) hx hb dX4_isWire_20 (by decide) ?_
    exact q_zret hx hb hr hlocks rfl hS (by split at ev2 <;> first | (split at ev10 <;> simp_all) | simp_all) dX4_isWire_21
  · refine lv_aload_n hx hb dX4_isWire_8 rfl (lv_at hl 0 rfl) ?_
    refine lv_iload_n hx hb dX4_isWire_9 rfl (lv_at hl 2 rfl) ?_
    refine qc_i (va_runV (As := [.int y]) (rest := []) ⟨hx, hb, hml, hown, hts⟩ (c_X4_isNode l dd ga n k ad σ hsq hL y) (cwV 1 hts gX4_isWire_X4_isNode rfl rfl rfl (by decide +kernel) ⟨Nat.le_of_ble_eq_true rfl, Nat.le_of_ble_eq_true rfl⟩) (qpreV hK hC hC.self rfl) rfl rfl hl.1 rfl (lv_room (Nat.le_of_ble_eq_true rfl)) dX4_isWire_10 ⟨Nat.zero_le _, Nat.zero_le _⟩) hS (fun q h => h) (fun v10 H locs hp9 hz9 ho9 hS => ?_)
    have ev10 : v10 = _ := hp9
    have hC := hC.same (fun q => ho9 q (fun h => h))
    refine lv_if_eq (tgt := 20) hx hb dX4_isWire_13 (by decide) (fun c_13 => ?_) (fun c_13 => ?_)
    · refine lv_iconst (v := 0) hx hb dX4_isWire_20 (by decide) ?_
      exact q_zret hx hb hr hlocks rfl hS (by split at ev2 <;> first | (split at ev10 <;> simp_all) | simp_all) dX4_isWire_21
    · refine lv_iconst (v := 1) hx hb dX4_isWire_16 (by decide) ?_
      refine lv_goto (tgt := 21) hx hb dX4_isWire_17 (by decide) ?_
      exact q_zret hx hb hr hlocks rfl hS (by split at ev2 <;> first | (split at ev10 <;> simp_all) | simp_all) dX4_isWire_21
set_option maxHeartbeats 4000000 in
set_option maxRecDepth 100000 in
/-- X4_send -/
theorem c_X4_send (l : Launch) (dd : va_G) (ga : Nat → ClassId) (n k : Nat) (ad : Nat → Nat → Nat) (σ : qSt) (hsq : qSq n k) (hL : qL n ad) (f t : Nat) (hf : f < n) (ht : t < n) (x y : Int32) (hroom : (σ.2.2.2.1 f t).length < 8) : Met l yX4_send wsX4_send ({ frames := 2, cells := 0, slots := 0, locals := 49 }) (qPc dd ga [.ref (ad 0 0), .int (nI f), .int (nI t), .int x, .int y] (fun H => qC dd ga n k ad σ H)) (qQv (fun H => qC dd ga n k ad (s_send σ f t x y) H) (qA n ad)) 0 0 (qA n ad) := by
  refine Met.ofW (cc := cX4_send) (maxL := 5) (ret := none) (by decide) rfl ?_
  intro p e s m args below meth c s₁ B hml hv
  obtain ⟨rfl, hC, hK⟩ := hv
  have hx := B.exec
  have hb := B.bytes
  have hr := B.returns
  have hts := atoms_spec (ws := wsX4_send) B.pre
  have hown : s.vm.findClass RX4 = some m.cls := findClass_of_methodNamed B.named
  have hlocks := B.notSynchronized
  have hS : qS (qA n ad) s.heap s.heap [] := qS.rf
  have hl := lv_entry ([.ref (ad 0 0), .int (nI f), .int (nI t), .int x, .int y]) (n := 5) (Nat.le_of_ble_eq_true rfl)
  rw [lg_entry_eq]
  generalize (lg_sl ([.ref (ad 0 0), .int (nI f), .int (nI t), .int x, .int y]) ++ List.replicate (5 - (lg_sl ([.ref (ad 0 0), .int (nI f), .int (nI t), .int x, .int y])).length) Slot.unset).toArray = ls at hl ⊢
  have hin3 : ∀ w ∈ wsX30, w ∈ wsX4_send := by decide +kernel
  have hin4 : ∀ w ∈ wsX40, w ∈ wsX4_send := by decide +kernel
  have hn1 := hsq.n.1
  have hn16 := hsq.n.2
  refine lv_aload_n hx hb dX4_send_0 rfl (lv_at hl 0 rfl) ?_
  refine qr_get (ci := 4) (C := RX4) (T := TX4) (N := 7) hx hb hts hin4 hown hK hC.self rfl 5 (by decide) (hts (.fieldLink RX4 46 "QuorumLock" "wires" "LQuorumLock$Wires;") (by decide +kernel)) rfl dX4_send_1 ?_
  refine lv_iload_n hx hb dX4_send_4 rfl (lv_at hl 1 rfl) ?_
  refine lv_iload_n hx hb dX4_send_5 rfl (lv_at hl 2 rfl) ?_
  refine lv_iload_n hx hb dX4_send_6 rfl (lv_at hl 3 rfl) ?_
  refine lv_iload hx hb dX4_send_7 (lv_at hl 4 rfl) ?_
  refine lv_aload_n hx hb dX4_send_9 rfl (lv_at hl 0 rfl) ?_
  refine qr_get (ci := 4) (C := RX4) (T := TX4) (N := 7) hx hb hts hin4 hown hK hC.self rfl 2 (by decide) (hts (.fieldLink RX4 26 "QuorumLock" "clocks" "[I") (by decide +kernel)) rfl dX4_send_10 ?_
  refine lv_iload_n hx hb dX4_send_13 rfl (lv_at hl 1 rfl) ?_
  refine qr_iald (v := (σ.1 0 f)) hx hb hK hC.clk f (by omega) (by omega) rfl rfl dX4_send_14 ?_
  refine qc_v (va_runV (As := [.int (nI f), .int (nI t), .int x, .int y, .int (σ.1 0 f)]) (rest := []) ⟨hx, hb, hml, hown, hts⟩ (c_X3_add l dd ga n (ad 5 0) (ad 6 0) (ad 7 0) (ad 8 0) (ad 9 0) (hL.ne (qd.z (by decide)) (qd.z (by decide)) (by decide)) (hL.ne (qd.z (by decide)) (qd.z (by decide)) (by decide)) (hL.ne (qd.z (by decide)) (qd.z (by decide)) (by decide)) (hL.ne (qd.z (by decide)) (qd.z (by decide)) (by decide)) (hL.ne (qd.z (by decide)) (qd.z (by decide)) (by decide)) (hL.ne (qd.z (by decide)) (qd.z (by decide)) (by decide)) (hL.ne (qd.z (by decide)) (qd.z (by decide)) (by decide)) (hL.ne (qd.z (by decide)) (qd.z (by decide)) (by decide)) (hL.ne (qd.z (by decide)) (qd.z (by decide)) (by decide)) (hL.ne (qd.z (by decide)) (qd.z (by decide)) (by decide)) σ.2.2.2.1 f t hn16 hf ht x y (σ.1 0 f) hroom) (cwV 5 hts gX4_send_X3_add rfl rfl rfl (by decide +kernel) ⟨Nat.le_of_ble_eq_true rfl, Nat.le_of_ble_eq_true rfl⟩) (qpreV hK hC.wir hC.wir.obj rfl) rfl rfl hl.1 rfl (lv_room (Nat.le_of_ble_eq_true rfl)) dX4_send_15 ⟨Nat.zero_le _, Nat.zero_le _⟩) hS (fun q h => qA.wir h) (fun H locs hp9 hz9 ho9 hS => ?_)
  have hC := hC.putWir (σ' := s_send σ f t x y) hL ho9 hp9 rfl rfl rfl rfl
  exact q_vret hx hb hr hlocks hS hC dX4_send_18
set_option maxHeartbeats 4000000 in
set_option maxRecDepth 100000 in
/-- X4_sendToQuorum -/
theorem c_X4_sendToQuorum (l : Launch) (dd : va_G) (ga : Nat → ClassId) (n k : Nat) (ad : Nat → Nat → Nat) (σ : qSt) (hsq : qSq n k) (hL : qL n ad) (i : Nat) (hi : i < n) (x y : Int32) (hroom : ∀ t : Nat, t < n → (σ.2.2.2.1 i t).length ≤ 6) : Met l yX4_sendToQuorum wsX4_sendToQuorum ({ frames := 3, cells := 0, slots := 0, locals := 73 }) (qPc dd ga [.ref (ad 0 0), .int (nI i), .int x, .int y] (fun H => qC dd ga n k ad σ H)) (qQv (fun H => qC dd ga n k ad (q_all i (q_quo k i n) x y n 0 σ) H) (qA n ad)) 0 0 (qA n ad) := by
  refine Met.ofW (cc := cX4_sendToQuorum) (maxL := 5) (ret := none) (by decide) rfl ?_
  intro p e s m args below meth c s₁ B hml hv
  obtain ⟨rfl, hC, hK⟩ := hv
  have hx := B.exec
  have hb := B.bytes
  have hr := B.returns
  have hts := atoms_spec (ws := wsX4_sendToQuorum) B.pre
  have hown : s.vm.findClass RX4 = some m.cls := findClass_of_methodNamed B.named
  have hlocks := B.notSynchronized
  have hS : qS (qA n ad) s.heap s.heap [] := qS.rf
  have hl := lv_entry ([.ref (ad 0 0), .int (nI i), .int x, .int y]) (n := 5) (Nat.le_of_ble_eq_true rfl)
  rw [lg_entry_eq]
  generalize (lg_sl ([.ref (ad 0 0), .int (nI i), .int x, .int y]) ++ List.replicate (5 - (lg_sl ([.ref (ad 0 0), .int (nI i), .int x, .int y])).length) Slot.unset).toArray = ls at hl ⊢
  have hin4 : ∀ w ∈ wsX40, w ∈ wsX4_sendToQuorum := by decide +kernel
  have hn1 := hsq.n.1
  have hn16 := hsq.n.2
  have hloop : ∀ (c9 j9 : Nat) (τ : qSt) (ls : Array Slot) (H : Heap) (locs : List Loc), j9 + c9 = n → q_all i (q_quo k i n) x y n 0 σ = q_all i (q_quo k i n) x y c9 j9 τ → (∀ t : Nat, j9 ≤ t → t < n → (τ.2.2.2.1 i t).length ≤ 6) → qC dd ga n k ad τ H → qS (qA n ad) s.heap H locs → lv_has ls 5 [(4, .int (nI j9)), (0, .ref (ad 0 0)), (1, .int (nI i)), (2, .int x), (3, .int y)] → W p l e (headSpec wsX4_sendToQuorum ({ frames := 3, cells := 0, slots := 0, locals := 73 })).room s m (([.ref (ad 0 0), .int (nI i), .int x, .int y] : List Value).toArray) below meth c H locs 0 0 (MQ below (qQv (fun H => qC dd ga n k ad (q_all i (q_quo k i n) x y n 0 σ) H) (qA n ad)) (([.ref (ad 0 0), .int (nI i), .int x, .int y] : List Value).toArray) s 0 0 (qA n ad)) (F0 m 3 ls []) := by
    intro c9
    induction c9 with
    | zero =>
      intro j9 τ ls H locs hc he hw hC hS hl
      refine lv_iload hx hb dX4_sendToQuorum_3 (lv_at hl 0 rfl) ?_
      refine lv_aload_n hx hb dX4_sendToQuorum_5 rfl (lv_at hl 1 rfl) ?_
      refine qr_get (ci := 4) (C := RX4) (T := TX4) (N := 7) hx hb hts hin4 hown hK hC.self rfl 0 (by decide) (hts (.fieldLink RX4 18 "QuorumLock" "nodes" "I") (by decide +kernel)) rfl dX4_sendToQuorum_6 ?_
      refine lv_icmp_ge (tgt := 41) hx hb dX4_sendToQuorum_9 (by decide) (fun c_9 => ?_) (fun c_9 => absurd (nI_le (show n ≤ j9 by omega) (by omega)) c_9)
      exact q_vret hx hb hr hlocks hS (by rw [he]; exact hC) dX4_sendToQuorum_41
    | succ c9 ih =>
      intro j9 τ ls H locs hc he hw hC hS hl
      refine lv_iload hx hb dX4_sendToQuorum_3 (lv_at hl 0 rfl) ?_
      refine lv_aload_n hx hb dX4_sendToQuorum_5 rfl (lv_at hl 1 rfl) ?_
      refine qr_get (ci := 4) (C := RX4) (T := TX4) (N := 7) hx hb hts hin4 hown hK hC.self rfl 0 (by decide) (hts (.fieldLink RX4 18 "QuorumLock" "nodes" "I") (by decide +kernel)) rfl dX4_sendToQuorum_6 ?_
      refine lv_icmp_ge (tgt := 41) hx hb dX4_sendToQuorum_9 (by decide) (fun c_9 => absurd c_9 (nI_ge (by omega) (by omega))) (fun c_9 => ?_)
      refine lv_aload_n hx hb dX4_sendToQuorum_12 rfl (lv_at hl 1 rfl) ?_
      refine qr_get (ci := 4) (C := RX4) (T := TX4) (N := 7) hx hb hts hin4 hown hK hC.self rfl 1 (by decide) (hts (.fieldLink RX4 22 "QuorumLock" "quorums" "[I") (by decide +kernel)) rfl dX4_sendToQuorum_13 ?_
      refine lv_iload_n hx hb dX4_sendToQuorum_16 rfl (lv_at hl 2 rfl) ?_
      refine qr_iald (v := (q_quo k i n)) hx hb hK hC.quo i (by omega) (by omega) rfl rfl dX4_sendToQuorum_17 ?_
      refine lv_iload hx hb dX4_sendToQuorum_18 (lv_at hl 0 rfl) ?_
      refine qc_i (va_runS (As := [.int (q_quo k i n), .int (nI j9)]) (rest := []) ⟨hx, hb, hml, hown, hts⟩ (c_X4_has l dd ga (q_quo k i n) j9) (va_cwS 2 hts gX4_sendToQuorum_X4_has rfl rfl rfl (by decide +kernel) ⟨Nat.le_of_ble_eq_true rfl, Nat.le_of_ble_eq_true rfl⟩) (qpreS hK trivial) rfl rfl hl.1 rfl (lv_room (Nat.le_of_ble_eq_true rfl)) dX4_sendToQuorum_20 ⟨Nat.zero_le _, Nat.zero_le _⟩) hS (fun q h => h.elim) (fun v20 H locs hp9 hz9 ho9 hS => ?_)
      have e20 : v20 = _ := hp9
      have hC := hC.same (fun q => ho9 q (fun h => h))
      refine lv_if_eq (tgt := 35) hx hb dX4_sendToQuorum_23 (by decide) (fun c_23 => ?_) (fun c_23 => ?_)
      · have h20 : ¬ q_has (q_quo k i n) j9 = true := fun h => by rw [if_pos h] at e20; rw [e20] at c_23; exact absurd c_23 (by decide)
        refine lv_iinc (v := nI (j9 + 1)) (lv' := [(4, .int (nI (j9 + 1))), (0, .ref (ad 0 0)), (1, .int (nI i)), (2, .int x), (3, .int y)]) hx hb dX4_sendToQuorum_35 hl (k := 0) rfl (nI_1 _) (by decide) rfl (fun ls hl => ?_)
        refine lv_goto (tgt := 3) hx hb dX4_sendToQuorum_38 (by decide) ?_
        refine ih (j9 + 1) (τ) ls _ _ (by omega) (by rw [he, q_all, if_neg h20]) (fun t h1 h2 => ?_) hC hS (lv_sub hl [0, 1, 2, 3, 4] rfl)
        exact hw t (by omega) h2
      · have h20 : q_has (q_quo k i n) j9 = true := Classical.byContradiction fun h => by rw [if_neg h] at e20; exact c_23 e20
        refine lv_aload_n hx hb dX4_sendToQuorum_26 rfl (lv_at hl 1 rfl) ?_
        refine lv_iload_n hx hb dX4_sendToQuorum_27 rfl (lv_at hl 2 rfl) ?_
        refine lv_iload hx hb dX4_sendToQuorum_28 (lv_at hl 0 rfl) ?_
        refine lv_iload_n hx hb dX4_sendToQuorum_30 rfl (lv_at hl 3 rfl) ?_
        refine lv_iload_n hx hb dX4_sendToQuorum_31 rfl (lv_at hl 4 rfl) ?_
        refine qc_v (va_runV (As := [.int (nI i), .int (nI j9), .int x, .int y]) (rest := []) ⟨hx, hb, hml, hown, hts⟩ (c_X4_send l dd ga n k ad τ hsq hL i j9 hi (by omega) x y (by have := hw j9 (Nat.le_refl _) (by omega); omega)) (cwV 4 hts gX4_sendToQuorum_X4_send rfl rfl rfl (by decide +kernel) ⟨Nat.le_of_ble_eq_true rfl, Nat.le_of_ble_eq_true rfl⟩) (qpreV hK hC hC.self rfl) rfl rfl hl.1 rfl (lv_room (Nat.le_of_ble_eq_true rfl)) dX4_sendToQuorum_32 ⟨Nat.zero_le _, Nat.zero_le _⟩) hS (fun q h => h) (fun H locs hp9 hz9 ho9 hS => ?_)
        have hC := hp9
        refine lv_iinc (v := nI (j9 + 1)) (lv' := [(4, .int (nI (j9 + 1))), (0, .ref (ad 0 0)), (1, .int (nI i)), (2, .int x), (3, .int y)]) hx hb dX4_sendToQuorum_35 hl (k := 0) rfl (nI_1 _) (by decide) rfl (fun ls hl => ?_)
        refine lv_goto (tgt := 3) hx hb dX4_sendToQuorum_38 (by decide) ?_
        refine ih (j9 + 1) (s_send τ i j9 x y) ls _ _ (by omega) (by rw [he, q_all, if_pos h20]) (fun t h1 h2 => ?_) hC hS (lv_sub hl [0, 1, 2, 3, 4] rfl)
        rw [show (s_send τ i j9 x y).2.2.2.1 i t = τ.2.2.2.1 i t from q2_n (by omega)]; exact hw t (by omega) h2
  refine lv_iconst (v := nI 0) hx hb dX4_sendToQuorum_0 (by decide) ?_
  refine lv_istore (lv' := [(4, .int (nI 0)), (0, .ref (ad 0 0)), (1, .int (nI i)), (2, .int x), (3, .int y)]) hx hb dX4_sendToQuorum_1 hl (by decide) rfl (fun ls hl => ?_)
  exact hloop n 0 σ ls _ _ (by omega) rfl (fun t _ h => hroom t h) hC hS (lv_sub hl [0, 1, 2, 3, 4] rfl)
set_option maxHeartbeats 4000000 in
set_option maxRecDepth 100000 in
/-- X4_lend -/
theorem c_X4_lend (l : Launch) (dd : va_G) (ga : Nat → ClassId) (n k : Nat) (ad : Nat → Nat → Nat) (σ : qSt) (hsq : qSq n k) (hL : qL n ad) (i a : Nat) (hi : i < n) (ha : a < n) (t : Int32) (hroom : (σ.2.2.2.1 i a).length < 8) : Met l yX4_lend wsX4_lend ({ frames := 3, cells := 0, slots := 0, locals := 73 }) (qPc dd ga [.ref (ad 0 0), .int (nI i), .int (nI a), .int t] (fun H => qC dd ga n k ad σ H)) (qQv (fun H => qC dd ga n k ad (q_lend σ i a t) H) (qA n ad)) 0 0 (qA n ad) := by
  refine Met.ofW (cc := cX4_lend) (maxL := 4) (ret := none) (by decide) rfl ?_
  intro p e s m args below meth c s₁ B hml hv
  obtain ⟨rfl, hC, hK⟩ := hv
  have hx := B.exec
  have hb := B.bytes
  have hr := B.returns
  have hts := atoms_spec (ws := wsX4_lend) B.pre
  have hown : s.vm.findClass RX4 = some m.cls := findClass_of_methodNamed B.named
  have hlocks := B.notSynchronized
  have hS : qS (qA n ad) s.heap s.heap [] := qS.rf
  have hl := lv_entry ([.ref (ad 0 0), .int (nI i), .int (nI a), .int t]) (n := 4) (Nat.le_of_ble_eq_true rfl)
  rw [lg_entry_eq]
  generalize (lg_sl ([.ref (ad 0 0), .int (nI i), .int (nI a), .int t]) ++ List.replicate (4 - (lg_sl ([.ref (ad 0 0), .int (nI i), .int (nI a), .int t])).length) Slot.unset).toArray = ls at hl ⊢
  have hin4 : ∀ w ∈ wsX40, w ∈ wsX4_lend := by decide +kernel
  have hn1 := hsq.n.1
  have hn16 := hsq.n.2
  refine lv_aload_n hx hb dX4_lend_0 rfl (lv_at hl 0 rfl) ?_
  refine qr_get (ci := 4) (C := RX4) (T := TX4) (N := 7) hx hb hts hin4 hown hK hC.self rfl 4 (by decide) (hts (.fieldLink RX4 37 "QuorumLock" "voters" "[LQuorumLock$Voter;") (by decide +kernel)) rfl dX4_lend_1 ?_
  refine lv_iload_n hx hb dX4_lend_4 rfl (lv_at hl 1 rfl) ?_
  refine qr_aald (v := ad 11 i) hx hb hK 3 hC.arV rfl i (by omega) (by omega) rfl rfl dX4_lend_5 ?_
  refine lv_iload_n hx hb dX4_lend_6 rfl (lv_at hl 2 rfl) ?_
  refine lv_iload_n hx hb dX4_lend_7 rfl (lv_at hl 3 rfl) ?_
  refine qc_v (va_runV (As := [.int (nI a), .int t]) (rest := []) ⟨hx, hb, hml, hown, hts⟩ (c_X2_lendTo l dd ga (ad 11 i) (ad 12 i) (q_on (σ.2.1 i)) (q_ot (σ.2.1 i)) (σ.1 6 i) (nI a) t) (cwV 2 hts gX4_lend_X2_lendTo rfl rfl rfl (by decide +kernel) ⟨Nat.le_of_ble_eq_true rfl, Nat.le_of_ble_eq_true rfl⟩) (qpreV hK (hC.vot i hi) (hC.vot i hi) rfl) rfl rfl hl.1 rfl (lv_room (Nat.le_of_ble_eq_true rfl)) dX4_lend_8 ⟨Nat.zero_le _, Nat.zero_le _⟩) hS (fun q h => qA.at (by decide) (by decide) hi h) (fun H locs hp9 hz9 ho9 hS => ?_)
  have hC := hC.putVot (σ' := s_tb (s_ln σ i (some (a, t))) 6 i 0) hL hi ho9 (by simpa [qVot, s_tb, s_ln, q2, va_up, q_on, q_ot] using hp9) (fun f j h => q2_n h) (fun j h => va_up_ne _ _ h) rfl
  refine lv_aload_n hx hb dX4_lend_11 rfl (lv_at hl 0 rfl) ?_
  refine lv_iload_n hx hb dX4_lend_12 rfl (lv_at hl 1 rfl) ?_
  refine lv_iload_n hx hb dX4_lend_13 rfl (lv_at hl 2 rfl) ?_
  refine lv_iconst (v := 2) hx hb dX4_lend_14 (by decide) ?_
  refine lv_iload_n hx hb dX4_lend_15 rfl (lv_at hl 3 rfl) ?_
  refine qc_v (va_runV (As := [.int (nI i), .int (nI a), .int 2, .int t]) (rest := []) ⟨hx, hb, hml, hown, hts⟩ (c_X4_send l dd ga n k ad (s_tb (s_ln σ i (some (a, t))) 6 i 0) hsq hL i a hi ha 2 t hroom) (cwV 4 hts gX4_lend_X4_send rfl rfl rfl (by decide +kernel) ⟨Nat.le_of_ble_eq_true rfl, Nat.le_of_ble_eq_true rfl⟩) (qpreV hK hC hC.self rfl) rfl rfl hl.1 rfl (lv_room (Nat.le_of_ble_eq_true rfl)) dX4_lend_16 ⟨Nat.zero_le _, Nat.zero_le _⟩) hS (fun q h => h) (fun H locs hp9 hz9 ho9 hS => ?_)
  have hC := hp9
  exact q_vret hx hb hr hlocks hS hC dX4_lend_19
set_option maxHeartbeats 4000000 in
set_option maxRecDepth 100000 in
/-- X4_inquireOnce -/
theorem c_X4_inquireOnce (l : Launch) (dd : va_G) (ga : Nat → ClassId) (n k : Nat) (ad : Nat → Nat → Nat) (σ : qSt) (hsq : qSq n k) (hL : qL n ad) (i b : Nat) (u : Int32) (hi : i < n) (hb9 : b < n) (eln : σ.2.1 i = some (b, u)) (hroom : (σ.2.2.2.1 i b).length < 8) : Met l yX4_inquireOnce wsX4_inquireOnce ({ frames := 3, cells := 0, slots := 0, locals := 73 }) (qPc dd ga [.ref (ad 0 0), .int (nI i)] (fun H => qC dd ga n k ad σ H)) (qQv (fun H => qC dd ga n k ad (if σ.1 6 i = 0 then s_tb (s_send σ i b 4 u) 6 i 1 else σ) H) (qA n ad)) 0 0 (qA n ad) := by
  refine Met.ofW (cc := cX4_inquireOnce) (maxL := 3) (ret := none) (by decide) rfl ?_
  intro p e s m args below meth c s₁ B hml hv
  obtain ⟨rfl, hC, hK⟩ := hv
  have hx := B.exec
  have hb := B.bytes
  have hr := B.returns
  have hts := atoms_spec (ws := wsX4_inquireOnce) B.pre
  have hown : s.vm.findClass RX4 = some m.cls := findClass_of_methodNamed B.named
  have hlocks := B.notSynchronized
  have hS : qS (qA n ad) s.heap s.heap [] := qS.rf
  have hl := lv_entry ([.ref (ad 0 0), .int (nI i)]) (n := 3) (Nat.le_of_ble_eq_true rfl)
  rw [lg_entry_eq]
  generalize (lg_sl ([.ref (ad 0 0), .int (nI i)]) ++ List.replicate (3 - (lg_sl ([.ref (ad 0 0), .int (nI i)])).length) Slot.unset).toArray = ls at hl ⊢
  have hin2 : ∀ w ∈ wsX20, w ∈ wsX4_inquireOnce := by decide +kernel
  have hin4 : ∀ w ∈ wsX40, w ∈ wsX4_inquireOnce := by decide +kernel
  have hn1 := hsq.n.1
  have hn16 := hsq.n.2
  have eon : q_on (σ.2.1 i) = nI b := by rw [eln]; rfl
  have eot : q_ot (σ.2.1 i) = u := by rw [eln]; rfl
  refine lv_aload_n hx hb dX4_inquireOnce_0 rfl (lv_at hl 0 rfl) ?_
  refine qr_get (ci := 4) (C := RX4) (T := TX4) (N := 7) hx hb hts hin4 hown hK hC.self rfl 4 (by decide) (hts (.fieldLink RX4 37 "QuorumLock" "voters" "[LQuorumLock$Voter;") (by decide +kernel)) rfl dX4_inquireOnce_1 ?_
  refine lv_iload_n hx hb dX4_inquireOnce_4 rfl (lv_at hl 1 rfl) ?_
  refine qr_aald (v := ad 11 i) hx hb hK 3 hC.arV rfl i (by omega) (by omega) rfl rfl dX4_inquireOnce_5 ?_
  refine lv_astore_n (lv' := [(2, .ref (ad 11 i)), (0, .ref (ad 0 0)), (1, .int (nI i))]) hx hb dX4_inquireOnce_6 rfl hl (by decide) rfl (fun ls hl => ?_)
  refine lv_aload_n hx hb dX4_inquireOnce_7 rfl (lv_at hl 0 rfl) ?_
  refine qr_get (ci := 2) (C := RX2) (T := TX2) (N := 4) hx hb hts hin2 hown hK (hC.vot i hi) rfl 3 (by decide) (hts (.fieldLink RX4 126 "QuorumLock$Voter" "inquired" "Z") (by decide +kernel)) rfl dX4_inquireOnce_8 ?_
  refine lv_if_ne (tgt := 33) hx hb dX4_inquireOnce_11 (by decide) (fun c_11 => ?_) (fun c_11 => ?_)
  · exact q_vret hx hb hr hlocks hS (by first | (rw [if_pos c_11]; exact hC) | (rw [if_neg c_11]; exact hC)) dX4_inquireOnce_33
  · refine lv_aload_n hx hb dX4_inquireOnce_14 rfl (lv_at hl 1 rfl) ?_
    refine lv_iload_n hx hb dX4_inquireOnce_15 rfl (lv_at hl 2 rfl) ?_
    refine lv_aload_n hx hb dX4_inquireOnce_16 rfl (lv_at hl 0 rfl) ?_
    refine qr_get (ci := 2) (C := RX2) (T := TX2) (N := 4) hx hb hts hin2 hown hK (hC.vot i hi) rfl 1 (by decide) (hts (.fieldLink RX4 103 "QuorumLock$Voter" "lentTo" "I") (by decide +kernel)) rfl dX4_inquireOnce_17 ?_
    rw [eon]
    refine lv_iconst (v := 4) hx hb dX4_inquireOnce_20 (by decide) ?_
    refine lv_aload_n hx hb dX4_inquireOnce_21 rfl (lv_at hl 0 rfl) ?_
    refine qr_get (ci := 2) (C := RX2) (T := TX2) (N := 4) hx hb hts hin2 hown hK (hC.vot i hi) rfl 2 (by decide) (hts (.fieldLink RX4 201 "QuorumLock$Voter" "lentTime" "I") (by decide +kernel)) rfl dX4_inquireOnce_22 ?_
    rw [eot]
    refine qc_v (va_runV (As := [.int (nI i), .int (nI b), .int 4, .int u]) (rest := []) ⟨hx, hb, hml, hown, hts⟩ (c_X4_send l dd ga n k ad σ hsq hL i b hi hb9 4 u hroom) (cwV 4 hts gX4_inquireOnce_X4_send rfl rfl rfl (by decide +kernel) ⟨Nat.le_of_ble_eq_true rfl, Nat.le_of_ble_eq_true rfl⟩) (qpreV hK hC hC.self rfl) rfl rfl hl.1 rfl (lv_room (Nat.le_of_ble_eq_true rfl)) dX4_inquireOnce_25 ⟨Nat.zero_le _, Nat.zero_le _⟩) hS (fun q h => h) (fun H locs hp9 hz9 ho9 hS => ?_)
    have hC := hp9
    refine lv_aload_n hx hb dX4_inquireOnce_28 rfl (lv_at hl 0 rfl) ?_
    refine lv_iconst (v := 1) hx hb dX4_inquireOnce_29 (by decide) ?_
    refine qr_put (ci := 2) (C := RX2) (T := TX2) (N := 4) hx hb hts hin2 tyX2 tyX2_ok nmX2 hown hK (hC.vot i hi) hS (⟨11, i, qd.i (by decide) (by decide) hi, rfl⟩) rfl 3 (by decide) (hts (.fieldLink RX4 126 "QuorumLock$Voter" "inquired" "Z") (by decide +kernel)) rfl rfl rfl (Nat.le_of_ble_eq_true rfl) dX4_inquireOnce_30 (fun H locs hz9 ho9 hat9 hS => ?_)
    have hC := hC.putVot (σ' := s_tb (s_send σ i b 4 u) 6 i 1) hL hi ho9 (by simpa [qVot, s_tb, s_send, s_wr, q2] using hat9) (fun f j h => q2_n h) (fun j h => rfl) rfl
    exact q_vret hx hb hr hlocks hS (by first | (rw [if_pos c_11]; exact hC) | (rw [if_neg c_11]; exact hC)) dX4_inquireOnce_33
set_option maxHeartbeats 4000000 in
set_option maxRecDepth 100000 in
/-- X4_giveUp -/
theorem c_X4_giveUp (l : Launch) (dd : va_G) (ga : Nat → ClassId) (n k : Nat) (ad : Nat → Nat → Nat) (σ : qSt) (hsq : qSq n k) (hL : qL n ad) (i j : Nat) (hi : i < n) (hj : j < n) (hroom : (σ.2.2.2.1 i j).length < 8) : Met l yX4_giveUp wsX4_giveUp ({ frames := 3, cells := 0, slots := 0, locals := 73 }) (qPc dd ga [.ref (ad 0 0), .int (nI i), .int (nI j)] (fun H => qC dd ga n k ad σ H)) (qQv (fun H => qC dd ga n k ad (q_giveUp σ i j) H) (qA n ad)) 0 0 (qA n ad) := by
  refine Met.ofW (cc := cX4_giveUp) (maxL := 4) (ret := none) (by decide) rfl ?_
  intro p e s m args below meth c s₁ B hml hv
  obtain ⟨rfl, hC, hK⟩ := hv
  have hx := B.exec
  have hb := B.bytes
  have hr := B.returns
  have hts := atoms_spec (ws := wsX4_giveUp) B.pre
  have hown : s.vm.findClass RX4 = some m.cls := findClass_of_methodNamed B.named
  have hlocks := B.notSynchronized
  have hS : qS (qA n ad) s.heap s.heap [] := qS.rf
  have hl := lv_entry ([.ref (ad 0 0), .int (nI i), .int (nI j)]) (n := 4) (Nat.le_of_ble_eq_true rfl)
  rw [lg_entry_eq]
  generalize (lg_sl ([.ref (ad 0 0), .int (nI i), .int (nI j)]) ++ List.replicate (4 - (lg_sl ([.ref (ad 0 0), .int (nI i), .int (nI j)])).length) Slot.unset).toArray = ls at hl ⊢
  have hin0 : ∀ w ∈ wsX00, w ∈ wsX4_giveUp := by decide +kernel
  have hin4 : ∀ w ∈ wsX40, w ∈ wsX4_giveUp := by decide +kernel
  have hn1 := hsq.n.1
  have hn16 := hsq.n.2
  refine lv_aload_n hx hb dX4_giveUp_0 rfl (lv_at hl 0 rfl) ?_
  refine qr_get (ci := 4) (C := RX4) (T := TX4) (N := 7) hx hb hts hin4 hown hK hC.self rfl 3 (by decide) (hts (.fieldLink RX4 31 "QuorumLock" "askers" "[LQuorumLock$Asker;") (by decide +kernel)) rfl dX4_giveUp_1 ?_
  refine lv_iload_n hx hb dX4_giveUp_4 rfl (lv_at hl 1 rfl) ?_
  refine qr_aald (v := ad 10 i) hx hb hK 2 hC.arA rfl i (by omega) (by omega) rfl rfl dX4_giveUp_5 ?_
  refine lv_astore_n (lv' := [(3, .ref (ad 10 i)), (0, .ref (ad 0 0)), (1, .int (nI i)), (2, .int (nI j))]) hx hb dX4_giveUp_6 rfl hl (by decide) rfl (fun ls hl => ?_)
  refine lv_aload_n hx hb dX4_giveUp_7 rfl (lv_at hl 1 rfl) ?_
  refine lv_iload_n hx hb dX4_giveUp_8 rfl (lv_at hl 2 rfl) ?_
  refine lv_iload_n hx hb dX4_giveUp_9 rfl (lv_at hl 3 rfl) ?_
  refine lv_iconst (v := 5) hx hb dX4_giveUp_10 (by decide) ?_
  refine lv_aload_n hx hb dX4_giveUp_11 rfl (lv_at hl 0 rfl) ?_
  refine qr_get (ci := 0) (C := RX0) (T := TX0) (N := 5) hx hb hts hin0 hown hK (hC.ask i hi) rfl 1 (by decide) (hts (.fieldLink RX4 80 "QuorumLock$Asker" "time" "I") (by decide +kernel)) rfl dX4_giveUp_12 ?_
  refine qc_v (va_runV (As := [.int (nI i), .int (nI j), .int 5, .int (σ.1 2 i)]) (rest := []) ⟨hx, hb, hml, hown, hts⟩ (c_X4_send l dd ga n k ad σ hsq hL i j hi hj 5 (σ.1 2 i) hroom) (cwV 4 hts gX4_giveUp_X4_send rfl rfl rfl (by decide +kernel) ⟨Nat.le_of_ble_eq_true rfl, Nat.le_of_ble_eq_true rfl⟩) (qpreV hK hC hC.self rfl) rfl rfl hl.1 rfl (lv_room (Nat.le_of_ble_eq_true rfl)) dX4_giveUp_15 ⟨Nat.zero_le _, Nat.zero_le _⟩) hS (fun q h => h) (fun H locs hp9 hz9 ho9 hS => ?_)
  have hC := hp9
  refine lv_aload_n hx hb dX4_giveUp_18 rfl (lv_at hl 0 rfl) ?_
  refine lv_iload_n hx hb dX4_giveUp_19 rfl (lv_at hl 3 rfl) ?_
  refine qc_v (va_runV (As := [.int (nI j)]) (rest := []) ⟨hx, hb, hml, hown, hts⟩ (c_X0_loseVote l dd ga (ad 10 i) (σ.1 1 i) (σ.1 2 i) (σ.1 3 i) (σ.1 4 i) (σ.1 5 i) (nI j)) (cwV 1 hts gX4_giveUp_X0_loseVote rfl rfl rfl (by decide +kernel) ⟨Nat.le_of_ble_eq_true rfl, Nat.le_of_ble_eq_true rfl⟩) (qpreV hK (hC.ask i hi) (hC.ask i hi) rfl) rfl rfl hl.1 rfl (lv_room (Nat.le_of_ble_eq_true rfl)) dX4_giveUp_20 ⟨Nat.zero_le _, Nat.zero_le _⟩) hS (fun q h => qA.at (by decide) (by decide) hi h) (fun H locs hp9 hz9 ho9 hS => ?_)
  have hC := hC.putAsk (σ' := q_giveUp σ i j) hL hi ho9 (by simpa [q_giveUp, s_tb, s_send, s_wr, q2, q_bit, q_nbit] using hp9) (fun f j h => by simp only [q_giveUp, s_tb, s_send, s_wr, q2]; repeat rw [if_neg (by omega)]) rfl
  exact q_vret hx hb hr hlocks hS hC dX4_giveUp_23
end
section
/-! what messages do in the class -/
theorem q_send_len (σ : qSt) (f t : Nat) (x y : Int32) (f' t' : Nat) : ((s_send σ f t x y).2.2.2.1 f' t').length ≤ (σ.2.2.2.1 f' t').length + 1 := by
  show (q2 σ.2.2.2.1 f t _ f' t').length ≤ _
  by_cases h : f' = f ∧ t' = t
  · obtain ⟨rfl, rfl⟩ := h
    rw [q2_s, List.length_append]; exact Nat.le_refl _
  · rw [q2_n h]; omega
theorem q_asked_none {σ : qSt} {i a : Nat} {t : Int32} (h : σ.2.1 i = none) : q_asked σ i a t = q_lend σ i a t := by simp [q_asked, h]
theorem q_asked_no {σ : qSt} {i a b : Nat} {t u : Int32} (h : σ.2.1 i = some (b, u)) (hc : ¬ (q_pl (σ.2.2.1 i) a t (σ.2.2.1 i).length = 0 ∧ q_bef t a u b = true)) : q_asked σ i a t = s_send (s_rw σ i (q_ins (σ.2.2.1 i) a t)) i a 6 t := by
  unfold q_asked
  rw [h]
  simp only
  rw [if_neg hc]
theorem q_asked_yes0 {σ : qSt} {i a b : Nat} {t u : Int32} (h : σ.2.1 i = some (b, u)) (h1 : q_pl (σ.2.2.1 i) a t (σ.2.2.1 i).length = 0) (h2 : q_bef t a u b = true) (h3 : ¬ q_press (σ.2.2.1 i) u b = true) : q_asked σ i a t = if σ.1 6 i = 0 then s_tb (s_send (s_rw σ i (q_ins (σ.2.2.1 i) a t)) i b 4 u) 6 i 1 else s_rw σ i (q_ins (σ.2.2.1 i) a t) := by
  unfold q_asked
  rw [h]
  simp only
  rw [if_pos ⟨h1, h2⟩]
  cases hr : σ.2.2.1 i with
  | nil => rfl
  | cons x r =>
    rw [hr] at h3
    simp only
    rw [if_neg (show ¬ q_bef x.2 x.1 u b = true from h3)]
theorem q_asked_yes1 {σ : qSt} {i a b : Nat} {t u : Int32} {x : Nat × Int32} {r : List (Nat × Int32)} (h : σ.2.1 i = some (b, u)) (h1 : q_pl (σ.2.2.1 i) a t (σ.2.2.1 i).length = 0) (h2 : q_bef t a u b = true) (hr : σ.2.2.1 i = x :: r) (h3 : q_press (σ.2.2.1 i) u b = true) : q_asked σ i a t = if σ.1 6 i = 0 then s_tb (s_send (s_send (s_rw σ i (q_ins (σ.2.2.1 i) a t)) i x.1 6 x.2) i b 4 u) 6 i 1 else s_send (s_rw σ i (q_ins (σ.2.2.1 i) a t)) i x.1 6 x.2 := by
  unfold q_asked
  rw [h]
  simp only
  rw [if_pos ⟨h1, h2⟩, hr]
  rw [hr] at h3
  simp only
  rw [if_pos (show q_bef x.2 x.1 u b = true from h3)]
theorem q_ins0 {r : List (Nat × Int32)} {a : Nat} {t : Int32} (h : q_pl r a t r.length = 0) : q_ins r a t = (a, t) :: r := by simp [q_ins, h]
theorem q_ins_mem {r : List (Nat × Int32)} {a : Nat} {t : Int32} {x : Nat × Int32} (h : x ∈ q_ins r a t) : x = (a, t) ∨ x ∈ r := by
  unfold q_ins at h
  rcases List.mem_append.mp h with h | h
  · exact Or.inr (List.mem_of_mem_take h)
  · rcases List.mem_cons.mp h with h | h
    · exact Or.inl h
    · exact Or.inr (List.mem_of_mem_drop h)
theorem q_nI_m1 {a : Nat} (h : a < 2 ^ 31) : nI a ≠ -1 := fun e => absurd (show nI a < 0 by rw [e]; decide) (nI_pos h)
theorem q_ln_eq {o : Option (Nat × Int32)} {a : Nat} {t : Int32} (ha : a < 2 ^ 31) (ho : ∀ x, o = some x → x.1 < 2 ^ 31) (h1 : q_on o = nI a) (h2 : q_ot o = t) : o = some (a, t) := by
  cases o with
  | none => exact absurd h1.symm (q_nI_m1 ha)
  | some x =>
    have := ho x rfl
    have h3 : x.1 = a := (nI_eq this ha).mp h1
    have h4 : x.2 = t := h2
    obtain ⟨x1, x2⟩ := x
    subst h3 h4
    rfl
theorem q_at0 {x : Nat × Int32} {r : List (Nat × Int32)} (h : r.length + 1 < 2 ^ 31) : q_at (x :: r) 0 = nI x.1 ∧ q_att (x :: r) 0 = x.2 := by
  have h0 : ¬ ((0 : Int32) < 0 ∨ nI (x :: r).length ≤ 0) := by
    rintro (h9 | h9)
    · exact absurd h9 (by decide)
    · exact absurd h9 (nI_nle (by simp) (by simpa using h))
  constructor
  · unfold q_at; rw [if_neg h0]; rfl
  · unfold q_att; rw [if_neg h0]; rfl
theorem q_at1 {y x : Nat × Int32} {r : List (Nat × Int32)} (h : r.length + 2 < 2 ^ 31) : q_at (y :: x :: r) 1 = nI x.1 ∧ q_att (y :: x :: r) 1 = x.2 := by
  have h0 : ¬ ((1 : Int32) < 0 ∨ nI (y :: x :: r).length ≤ 1) := by
    rintro (h9 | h9)
    · exact absurd h9 (by decide)
    · exact absurd h9 (show ¬ nI (y :: x :: r).length ≤ nI 1 from nI_ge (by simp) (by simpa using h))
  constructor
  · unfold q_at; rw [if_neg h0]; rfl
  · unfold q_att; rw [if_neg h0]; rfl
theorem q_sw {x : Int32} (h1 : x ≠ 1) (h2 : x ≠ 2) (h3 : x ≠ 3) (h4 : x ≠ 4) (h5 : x ≠ 5) : x.toInt < 1 ∨ 5 < x.toInt := by
  apply Classical.byContradiction
  intro h
  have h6 : x.toInt = 1 ∨ x.toInt = 2 ∨ x.toInt = 3 ∨ x.toInt = 4 ∨ x.toInt = 5 := by omega
  rcases h6 with h6 | h6 | h6 | h6 | h6
  · exact h1 (Int32.toInt_inj.mp (h6.trans (by decide)))
  · exact h2 (Int32.toInt_inj.mp (h6.trans (by decide)))
  · exact h3 (Int32.toInt_inj.mp (h6.trans (by decide)))
  · exact h4 (Int32.toInt_inj.mp (h6.trans (by decide)))
  · exact h5 (Int32.toInt_inj.mp (h6.trans (by decide)))
theorem qCap.pop {n k : Nat} {σ : qSt} (h : qCap n k σ) {f t : Nat} {x : qM} {w : List qM} (hw : σ.2.2.2.1 f t = x :: w) (v : Int32) : qCap n k (s_wr (s_tb σ 0 t v) f t w) := by
  refine ⟨fun f' t' hf ht => ?_, h.2.1, h.2.2.1, h.2.2.2.1, fun i hi => ?_⟩
  · show (q2 σ.2.2.2.1 f t w f' t').length ≤ 6
    by_cases h9 : f' = f ∧ t' = t
    · obtain ⟨rfl, rfl⟩ := h9
      have := h.1 f' t' hf ht
      rw [hw] at this
      rw [q2_s]
      simp at this
      omega
    · rw [q2_n h9]; exact h.1 f' t' hf ht
  · show q2 σ.1 0 t v 6 i = 0 ∨ q2 σ.1 0 t v 6 i = 1
    rw [q2_n (by omega)]
    exact h.2.2.2.2 i hi
set_option maxHeartbeats 4000000 in
set_option maxRecDepth 100000 in
/-- X4_hearLocked -/
theorem c_X4_hearLocked (l : Launch) (dd : va_G) (ga : Nat → ClassId) (n k : Nat) (ad : Nat → Nat → Nat) (σ : qSt) (hsq : qSq n k) (hL : qL n ad) (i j : Nat) (hi : i < n) (hj : j < n) (t : Int32) : Met l yX4_hearLocked wsX4_hearLocked ({ frames := 1, cells := 0, slots := 0, locals := 21 }) (qPc dd ga [.ref (ad 0 0), .int (nI i), .int (nI j), .int t] (fun H => qC dd ga n k ad σ H)) (qQv (fun H => qC dd ga n k ad (q_locked σ i j t) H) (qA n ad)) 0 0 (qA n ad) := by
  refine Met.ofW (cc := cX4_hearLocked) (maxL := 5) (ret := none) (by decide) rfl ?_
  intro p e s m args below meth c s₁ B hml hv
  obtain ⟨rfl, hC, hK⟩ := hv
  have hx := B.exec
  have hb := B.bytes
  have hr := B.returns
  have hts := atoms_spec (ws := wsX4_hearLocked) B.pre
  have hown : s.vm.findClass RX4 = some m.cls := findClass_of_methodNamed B.named
  have hlocks := B.notSynchronized
  have hS : qS (qA n ad) s.heap s.heap [] := qS.rf
  have hl := lv_entry ([.ref (ad 0 0), .int (nI i), .int (nI j), .int t]) (n := 5) (Nat.le_of_ble_eq_true rfl)
  rw [lg_entry_eq]
  generalize (lg_sl ([.ref (ad 0 0), .int (nI i), .int (nI j), .int t]) ++ List.replicate (5 - (lg_sl ([.ref (ad 0 0), .int (nI i), .int (nI j), .int t])).length) Slot.unset).toArray = ls at hl ⊢
  have hin0 : ∀ w ∈ wsX00, w ∈ wsX4_hearLocked := by decide +kernel
  have hin4 : ∀ w ∈ wsX40, w ∈ wsX4_hearLocked := by decide +kernel
  have hn1 := hsq.n.1
  have hn16 := hsq.n.2
  refine lv_aload_n hx hb dX4_hearLocked_0 rfl (lv_at hl 0 rfl) ?_
  refine qr_get (ci := 4) (C := RX4) (T := TX4) (N := 7) hx hb hts hin4 hown hK hC.self rfl 3 (by decide) (hts (.fieldLink RX4 31 "QuorumLock" "askers" "[LQuorumLock$Asker;") (by decide +kernel)) rfl dX4_hearLocked_1 ?_
  refine lv_iload_n hx hb dX4_hearLocked_4 rfl (lv_at hl 1 rfl) ?_
  refine qr_aald (v := ad 10 i) hx hb hK 2 hC.arA rfl i (by omega) (by omega) rfl rfl dX4_hearLocked_5 ?_
  refine lv_astore (lv' := [(4, .ref (ad 10 i)), (0, .ref (ad 0 0)), (1, .int (nI i)), (2, .int (nI j)), (3, .int t)]) hx hb dX4_hearLocked_6 hl (by decide) rfl (fun ls hl => ?_)
  refine lv_aload hx hb dX4_hearLocked_8 (lv_at hl 0 rfl) ?_
  refine qr_get (ci := 0) (C := RX0) (T := TX0) (N := 5) hx hb hts hin0 hown hK (hC.ask i hi) rfl 0 (by decide) (hts (.fieldLink RX4 74 "QuorumLock$Asker" "state" "I") (by decide +kernel)) rfl dX4_hearLocked_10 ?_
  refine lv_if_eq (tgt := 31) hx hb dX4_hearLocked_13 (by decide) (fun c_13 => ?_) (fun c_13 => ?_)
  · have hfin : qC dd ga n k ad (q_locked σ i j t) s.heap := by rw [q_locked, if_neg (fun h => h.1 c_13)]; exact hC
    exact q_vret hx hb hr hlocks hS hfin dX4_hearLocked_31
  · refine lv_aload hx hb dX4_hearLocked_16 (lv_at hl 0 rfl) ?_
    refine qr_get (ci := 0) (C := RX0) (T := TX0) (N := 5) hx hb hts hin0 hown hK (hC.ask i hi) rfl 1 (by decide) (hts (.fieldLink RX4 80 "QuorumLock$Asker" "time" "I") (by decide +kernel)) rfl dX4_hearLocked_18 ?_
    refine lv_iload_n hx hb dX4_hearLocked_21 rfl (lv_at hl 4 rfl) ?_
    refine lv_icmp_ne (tgt := 31) hx hb dX4_hearLocked_22 (by decide) (fun c_22 => ?_) (fun c_22 => ?_)
    · have hfin : qC dd ga n k ad (q_locked σ i j t) s.heap := by rw [q_locked, if_neg (fun h => c_22 h.2)]; exact hC
      exact q_vret hx hb hr hlocks hS hfin dX4_hearLocked_31
    · refine lv_aload hx hb dX4_hearLocked_25 (lv_at hl 0 rfl) ?_
      refine lv_iload_n hx hb dX4_hearLocked_27 rfl (lv_at hl 3 rfl) ?_
      refine qc_v (va_runV (As := [.int (nI j)]) (rest := []) ⟨hx, hb, hml, hown, hts⟩ (c_X0_gainVote l dd ga (ad 10 i) (σ.1 1 i) (σ.1 2 i) (σ.1 3 i) (σ.1 4 i) (σ.1 5 i) (nI j)) (cwV 1 hts gX4_hearLocked_X0_gainVote rfl rfl rfl (by decide +kernel) ⟨Nat.le_of_ble_eq_true rfl, Nat.le_of_ble_eq_true rfl⟩) (qpreV hK (hC.ask i hi) (hC.ask i hi) rfl) rfl rfl hl.1 rfl (lv_room (Nat.le_of_ble_eq_true rfl)) dX4_hearLocked_28 ⟨Nat.zero_le _, Nat.zero_le _⟩) hS (fun q h => qA.at (by decide) (by decide) hi h) (fun H locs hp9 hz9 ho9 hS => ?_)
      have hC := hC.putAsk (σ' := q_locked σ i j t) hL hi ho9 (by rw [q_locked, if_pos ⟨c_13, c_22⟩]; simpa [s_tb, q2, q_bit, q_nbit] using hp9) (fun f j h => by rw [q_locked, if_pos ⟨c_13, c_22⟩]; simp only [s_tb, q2]; repeat rw [if_neg (by omega)]) (by rw [q_locked, if_pos ⟨c_13, c_22⟩]; rfl)
      have hfin := hC
      exact q_vret hx hb hr hlocks hS hfin dX4_hearLocked_31
set_option maxHeartbeats 4000000 in
set_option maxRecDepth 100000 in
/-- X4_hearFailed -/
theorem c_X4_hearFailed (l : Launch) (dd : va_G) (ga : Nat → ClassId) (n k : Nat) (ad : Nat → Nat → Nat) (σ : qSt) (hsq : qSq n k) (hL : qL n ad) (i j : Nat) (hi : i < n) (hj : j < n) (t : Int32) (hroom : ∀ t : Nat, t < n → (σ.2.2.2.1 i t).length ≤ 6) : Met l yX4_hearFailed wsX4_hearFailed ({ frames := 4, cells := 0, slots := 0, locals := 96 }) (qPc dd ga [.ref (ad 0 0), .int (nI i), .int (nI j), .int t] (fun H => qC dd ga n k ad σ H)) (qQv (fun H => qC dd ga n k ad (q_failed n σ i j t) H) (qA n ad)) 0 0 (qA n ad) := by
  refine Met.ofW (cc := cX4_hearFailed) (maxL := 6) (ret := none) (by decide) rfl ?_
  intro p e s m args below meth c s₁ B hml hv
  obtain ⟨rfl, hC, hK⟩ := hv
  have hx := B.exec
  have hb := B.bytes
  have hr := B.returns
  have hts := atoms_spec (ws := wsX4_hearFailed) B.pre
  have hown : s.vm.findClass RX4 = some m.cls := findClass_of_methodNamed B.named
  have hlocks := B.notSynchronized
  have hS : qS (qA n ad) s.heap s.heap [] := qS.rf
  have hl := lv_entry ([.ref (ad 0 0), .int (nI i), .int (nI j), .int t]) (n := 6) (Nat.le_of_ble_eq_true rfl)
  rw [lg_entry_eq]
  generalize (lg_sl ([.ref (ad 0 0), .int (nI i), .int (nI j), .int t]) ++ List.replicate (6 - (lg_sl ([.ref (ad 0 0), .int (nI i), .int (nI j), .int t])).length) Slot.unset).toArray = ls at hl ⊢
  have hin0 : ∀ w ∈ wsX00, w ∈ wsX4_hearFailed := by decide +kernel
  have hin4 : ∀ w ∈ wsX40, w ∈ wsX4_hearFailed := by decide +kernel
  have hn1 := hsq.n.1
  have hn16 := hsq.n.2
  have hloop : ∀ (c9 j9 : Nat) (τ : qSt) (ls : Array Slot) (H : Heap) (locs : List Loc), j9 + c9 = n → q_failed n σ i j t = q_gives i c9 j9 τ → (∀ t : Nat, j9 ≤ t → t < n → (τ.2.2.2.1 i t).length ≤ 6) → qC dd ga n k ad τ H → qS (qA n ad) s.heap H locs → lv_has ls 6 [(5, .int (nI j9)), (0, .ref (ad 0 0)), (1, .int (nI i)), (4, .ref (ad 10 i))] → W p l e (headSpec wsX4_hearFailed ({ frames := 4, cells := 0, slots := 0, locals := 96 })).room s m (([.ref (ad 0 0), .int (nI i), .int (nI j), .int t] : List Value).toArray) below meth c H locs 0 0 (MQ below (qQv (fun H => qC dd ga n k ad (q_failed n σ i j t) H) (qA n ad)) (([.ref (ad 0 0), .int (nI i), .int (nI j), .int t] : List Value).toArray) s 0 0 (qA n ad)) (F0 m 34 ls []) := by
    intro c9
    induction c9 with
    | zero =>
      intro j9 τ ls H locs hc he hw hC hS hl
      refine lv_iload hx hb dX4_hearFailed_34 (lv_at hl 0 rfl) ?_
      refine lv_aload_n hx hb dX4_hearFailed_36 rfl (lv_at hl 1 rfl) ?_
      refine qr_get (ci := 4) (C := RX4) (T := TX4) (N := 7) hx hb hts hin4 hown hK hC.self rfl 0 (by decide) (hts (.fieldLink RX4 18 "QuorumLock" "nodes" "I") (by decide +kernel)) rfl dX4_hearFailed_37 ?_
      refine lv_icmp_ge (tgt := 75) hx hb dX4_hearFailed_40 (by decide) (fun c_40 => ?_) (fun c_40 => absurd (nI_le (show n ≤ j9 by omega) (by omega)) c_40)
      exact q_vret hx hb hr hlocks hS (by rw [he]; exact hC) dX4_hearFailed_75
    | succ c9 ih =>
      intro j9 τ ls H locs hc he hw hC hS hl
      refine lv_iload hx hb dX4_hearFailed_34 (lv_at hl 0 rfl) ?_
      refine lv_aload_n hx hb dX4_hearFailed_36 rfl (lv_at hl 1 rfl) ?_
      refine qr_get (ci := 4) (C := RX4) (T := TX4) (N := 7) hx hb hts hin4 hown hK hC.self rfl 0 (by decide) (hts (.fieldLink RX4 18 "QuorumLock" "nodes" "I") (by decide +kernel)) rfl dX4_hearFailed_37 ?_
      refine lv_icmp_ge (tgt := 75) hx hb dX4_hearFailed_40 (by decide) (fun c_40 => absurd c_40 (nI_ge (by omega) (by omega))) (fun c_40 => ?_)
      refine lv_aload hx hb dX4_hearFailed_43 (lv_at hl 3 rfl) ?_
      refine qr_get (ci := 0) (C := RX0) (T := TX0) (N := 5) hx hb hts hin0 hown hK (hC.ask i hi) rfl 2 (by decide) (hts (.fieldLink RX4 94 "QuorumLock$Asker" "votes" "I") (by decide +kernel)) rfl dX4_hearFailed_45 ?_
      refine lv_aload hx hb dX4_hearFailed_48 (lv_at hl 3 rfl) ?_
      refine qr_get (ci := 0) (C := RX0) (T := TX0) (N := 5) hx hb hts hin0 hown hK (hC.ask i hi) rfl 4 (by decide) (hts (.fieldLink RX4 123 "QuorumLock$Asker" "inquiries" "I") (by decide +kernel)) rfl dX4_hearFailed_50 ?_
      refine lv_iand hx hb dX4_hearFailed_53 ?_
      refine lv_iload hx hb dX4_hearFailed_54 (lv_at hl 0 rfl) ?_
      refine qc_i (va_runS (As := [.int ((τ.1 3 i) &&& (τ.1 5 i)), .int (nI j9)]) (rest := []) ⟨hx, hb, hml, hown, hts⟩ (c_X4_has l dd ga (τ.1 3 i &&& τ.1 5 i) j9) (va_cwS 2 hts gX4_hearFailed_X4_has rfl rfl rfl (by decide +kernel) ⟨Nat.le_of_ble_eq_true rfl, Nat.le_of_ble_eq_true rfl⟩) (qpreS hK trivial) rfl rfl hl.1 rfl (lv_room (Nat.le_of_ble_eq_true rfl)) dX4_hearFailed_56 ⟨Nat.zero_le _, Nat.zero_le _⟩) hS (fun q h => h.elim) (fun v56 H locs hp9 hz9 ho9 hS => ?_)
      have e56 : v56 = _ := hp9
      have hC := hC.same (fun q => ho9 q (fun h => h))
      refine lv_if_eq (tgt := 69) hx hb dX4_hearFailed_59 (by decide) (fun c_59 => ?_) (fun c_59 => ?_)
      · have h56 : ¬ q_has (τ.1 3 i &&& τ.1 5 i) j9 = true := fun h => by rw [if_pos h] at e56; rw [e56] at c_59; exact absurd c_59 (by decide)
        refine lv_iinc (v := nI (j9 + 1)) (lv' := [(5, .int (nI (j9 + 1))), (0, .ref (ad 0 0)), (1, .int (nI i)), (4, .ref (ad 10 i))]) hx hb dX4_hearFailed_69 hl (k := 0) rfl (nI_1 _) (by decide) rfl (fun ls hl => ?_)
        refine lv_goto (tgt := 34) hx hb dX4_hearFailed_72 (by decide) ?_
        refine ih (j9 + 1) (τ) ls _ _ (by omega) (by rw [he, q_gives, if_neg h56]) (fun t h1 h2 => ?_) hC hS (lv_sub hl [0, 1, 2, 3] rfl)
        exact hw t (by omega) h2
      · have h56 : q_has (τ.1 3 i &&& τ.1 5 i) j9 = true := Classical.byContradiction fun h => by rw [if_neg h] at e56; exact c_59 e56
        refine lv_aload_n hx hb dX4_hearFailed_62 rfl (lv_at hl 1 rfl) ?_
        refine lv_iload_n hx hb dX4_hearFailed_63 rfl (lv_at hl 2 rfl) ?_
        refine lv_iload hx hb dX4_hearFailed_64 (lv_at hl 0 rfl) ?_
        refine qc_v (va_runV (As := [.int (nI i), .int (nI j9)]) (rest := []) ⟨hx, hb, hml, hown, hts⟩ (c_X4_giveUp l dd ga n k ad τ hsq hL i j9 hi (by omega) (by have := hw j9 (Nat.le_refl _) (by omega); omega)) (cwV 2 hts gX4_hearFailed_X4_giveUp rfl rfl rfl (by decide +kernel) ⟨Nat.le_of_ble_eq_true rfl, Nat.le_of_ble_eq_true rfl⟩) (qpreV hK hC hC.self rfl) rfl rfl hl.1 rfl (lv_room (Nat.le_of_ble_eq_true rfl)) dX4_hearFailed_66 ⟨Nat.zero_le _, Nat.zero_le _⟩) hS (fun q h => h) (fun H locs hp9 hz9 ho9 hS => ?_)
        have hC := hp9
        refine lv_iinc (v := nI (j9 + 1)) (lv' := [(5, .int (nI (j9 + 1))), (0, .ref (ad 0 0)), (1, .int (nI i)), (4, .ref (ad 10 i))]) hx hb dX4_hearFailed_69 hl (k := 0) rfl (nI_1 _) (by decide) rfl (fun ls hl => ?_)
        refine lv_goto (tgt := 34) hx hb dX4_hearFailed_72 (by decide) ?_
        refine ih (j9 + 1) (q_giveUp τ i j9) ls _ _ (by omega) (by rw [he, q_gives, if_pos h56]) (fun t h1 h2 => ?_) hC hS (lv_sub hl [0, 1, 2, 3] rfl)
        rw [show (q_giveUp τ i j9).2.2.2.1 i t = τ.2.2.2.1 i t from q2_n (by omega)]; exact hw t (by omega) h2
  refine lv_aload_n hx hb dX4_hearFailed_0 rfl (lv_at hl 0 rfl) ?_
  refine qr_get (ci := 4) (C := RX4) (T := TX4) (N := 7) hx hb hts hin4 hown hK hC.self rfl 3 (by decide) (hts (.fieldLink RX4 31 "QuorumLock" "askers" "[LQuorumLock$Asker;") (by decide +kernel)) rfl dX4_hearFailed_1 ?_
  refine lv_iload_n hx hb dX4_hearFailed_4 rfl (lv_at hl 1 rfl) ?_
  refine qr_aald (v := ad 10 i) hx hb hK 2 hC.arA rfl i (by omega) (by omega) rfl rfl dX4_hearFailed_5 ?_
  refine lv_astore (lv' := [(4, .ref (ad 10 i)), (0, .ref (ad 0 0)), (1, .int (nI i)), (2, .int (nI j)), (3, .int t)]) hx hb dX4_hearFailed_6 hl (by decide) rfl (fun ls hl => ?_)
  refine lv_aload hx hb dX4_hearFailed_8 (lv_at hl 0 rfl) ?_
  refine lv_iload_n hx hb dX4_hearFailed_10 rfl (lv_at hl 4 rfl) ?_
  refine qc_i (va_runV (As := [.int t]) (rest := []) ⟨hx, hb, hml, hown, hts⟩ (c_X0_isAsking l dd ga (ad 10 i) (σ.1 1 i) (σ.1 2 i) (σ.1 3 i) (σ.1 4 i) (σ.1 5 i) t) (cwV 1 hts gX4_hearFailed_X0_isAsking rfl rfl rfl (by decide +kernel) ⟨Nat.le_of_ble_eq_true rfl, Nat.le_of_ble_eq_true rfl⟩) (qpreV hK (hC.ask i hi) (hC.ask i hi) rfl) rfl rfl hl.1 rfl (lv_room (Nat.le_of_ble_eq_true rfl)) dX4_hearFailed_11 ⟨Nat.zero_le _, Nat.zero_le _⟩) hS (fun q h => h.elim) (fun v11 H locs hp9 hz9 ho9 hS => ?_)
  have e11 : v11 = _ := hp9
  have hC := hC.same (fun q => ho9 q (fun h => h))
  refine lv_if_ne (tgt := 18) hx hb dX4_hearFailed_14 (by decide) (fun c_14 => ?_) (fun c_14 => ?_)
  · have h11 : σ.1 1 i = 1 ∧ σ.1 2 i = t := Classical.byContradiction fun h => by rw [if_neg h] at e11; exact c_14 e11
    refine lv_aload hx hb dX4_hearFailed_18 (lv_at hl 0 rfl) ?_
    refine lv_dup hx hb dX4_hearFailed_20 rfl ?_
    refine qr_get (ci := 0) (C := RX0) (T := TX0) (N := 5) hx hb hts hin0 hown hK (hC.ask i hi) rfl 3 (by decide) (hts (.fieldLink RX4 120 "QuorumLock$Asker" "failures" "I") (by decide +kernel)) rfl dX4_hearFailed_21 ?_
    refine lv_iconst (v := 1) hx hb dX4_hearFailed_24 (by decide) ?_
    refine lv_iload_n hx hb dX4_hearFailed_25 rfl (lv_at hl 3 rfl) ?_
    refine lv_ishl hx hb dX4_hearFailed_26 ?_
    refine lv_ior hx hb dX4_hearFailed_27 ?_
    refine qr_put (ci := 0) (C := RX0) (T := TX0) (N := 5) hx hb hts hin0 tyX0 tyX0_ok nmX0 hown hK (hC.ask i hi) hS (⟨10, i, qd.i (by decide) (by decide) hi, rfl⟩) rfl 3 (by decide) (hts (.fieldLink RX4 120 "QuorumLock$Asker" "failures" "I") (by decide +kernel)) rfl rfl rfl (Nat.le_of_ble_eq_true rfl) dX4_hearFailed_28 (fun H locs hz9 ho9 hat9 hS => ?_)
    have hC := hC.putAsk (σ' := s_tb σ 4 i (σ.1 4 i ||| q_bit j)) hL hi ho9 (by simpa [s_tb, q2, q_bit] using hat9) (fun f j h => by simp only [s_tb, q2]; repeat rw [if_neg (by omega)]) rfl
    refine lv_iconst (v := nI 0) hx hb dX4_hearFailed_31 (by decide) ?_
    refine lv_istore (lv' := [(5, .int (nI 0)), (4, .ref (ad 10 i)), (0, .ref (ad 0 0)), (1, .int (nI i)), (2, .int (nI j)), (3, .int t)]) hx hb dX4_hearFailed_32 hl (by decide) rfl (fun ls hl => ?_)
    exact hloop n 0 (s_tb σ 4 i (σ.1 4 i ||| q_bit j)) ls _ _ (by omega) (by rw [q_failed, if_pos h11]) (fun t _ h => hroom t h) hC hS (lv_sub hl [0, 2, 3, 1] rfl)
  · exact q_vret hx hb hr hlocks hS (by rw [q_failed, if_neg (fun h => by rw [if_pos h] at e11; rw [e11] at c_14; exact absurd c_14 (by decide))]; exact hC) dX4_hearFailed_17
set_option maxHeartbeats 4000000 in
set_option maxRecDepth 100000 in
/-- X4_hearInquire -/
theorem c_X4_hearInquire (l : Launch) (dd : va_G) (ga : Nat → ClassId) (n k : Nat) (ad : Nat → Nat → Nat) (σ : qSt) (hsq : qSq n k) (hL : qL n ad) (i j : Nat) (hi : i < n) (hj : j < n) (t : Int32) (hroom : (σ.2.2.2.1 i j).length < 8) : Met l yX4_hearInquire wsX4_hearInquire ({ frames := 4, cells := 0, slots := 0, locals := 96 }) (qPc dd ga [.ref (ad 0 0), .int (nI i), .int (nI j), .int t] (fun H => qC dd ga n k ad σ H)) (qQv (fun H => qC dd ga n k ad (q_inquire σ i j t) H) (qA n ad)) 0 0 (qA n ad) := by
  refine Met.ofW (cc := cX4_hearInquire) (maxL := 5) (ret := none) (by decide) rfl ?_
  intro p e s m args below meth c s₁ B hml hv
  obtain ⟨rfl, hC, hK⟩ := hv
  have hx := B.exec
  have hb := B.bytes
  have hr := B.returns
  have hts := atoms_spec (ws := wsX4_hearInquire) B.pre
  have hown : s.vm.findClass RX4 = some m.cls := findClass_of_methodNamed B.named
  have hlocks := B.notSynchronized
  have hS : qS (qA n ad) s.heap s.heap [] := qS.rf
  have hl := lv_entry ([.ref (ad 0 0), .int (nI i), .int (nI j), .int t]) (n := 5) (Nat.le_of_ble_eq_true rfl)
  rw [lg_entry_eq]
  generalize (lg_sl ([.ref (ad 0 0), .int (nI i), .int (nI j), .int t]) ++ List.replicate (5 - (lg_sl ([.ref (ad 0 0), .int (nI i), .int (nI j), .int t])).length) Slot.unset).toArray = ls at hl ⊢
  have hin0 : ∀ w ∈ wsX00, w ∈ wsX4_hearInquire := by decide +kernel
  have hin4 : ∀ w ∈ wsX40, w ∈ wsX4_hearInquire := by decide +kernel
  have hn1 := hsq.n.1
  have hn16 := hsq.n.2
  refine lv_aload_n hx hb dX4_hearInquire_0 rfl (lv_at hl 0 rfl) ?_
  refine qr_get (ci := 4) (C := RX4) (T := TX4) (N := 7) hx hb hts hin4 hown hK hC.self rfl 3 (by decide) (hts (.fieldLink RX4 31 "QuorumLock" "askers" "[LQuorumLock$Asker;") (by decide +kernel)) rfl dX4_hearInquire_1 ?_
  refine lv_iload_n hx hb dX4_hearInquire_4 rfl (lv_at hl 1 rfl) ?_
  refine qr_aald (v := ad 10 i) hx hb hK 2 hC.arA rfl i (by omega) (by omega) rfl rfl dX4_hearInquire_5 ?_
  refine lv_astore (lv' := [(4, .ref (ad 10 i)), (0, .ref (ad 0 0)), (1, .int (nI i)), (2, .int (nI j)), (3, .int t)]) hx hb dX4_hearInquire_6 hl (by decide) rfl (fun ls hl => ?_)
  refine lv_aload hx hb dX4_hearInquire_8 (lv_at hl 0 rfl) ?_
  refine lv_iload_n hx hb dX4_hearInquire_10 rfl (lv_at hl 4 rfl) ?_
  refine qc_i (va_runV (As := [.int t]) (rest := []) ⟨hx, hb, hml, hown, hts⟩ (c_X0_isAsking l dd ga (ad 10 i) (σ.1 1 i) (σ.1 2 i) (σ.1 3 i) (σ.1 4 i) (σ.1 5 i) t) (cwV 1 hts gX4_hearInquire_X0_isAsking rfl rfl rfl (by decide +kernel) ⟨Nat.le_of_ble_eq_true rfl, Nat.le_of_ble_eq_true rfl⟩) (qpreV hK (hC.ask i hi) (hC.ask i hi) rfl) rfl rfl hl.1 rfl (lv_room (Nat.le_of_ble_eq_true rfl)) dX4_hearInquire_11 ⟨Nat.zero_le _, Nat.zero_le _⟩) hS (fun q h => h.elim) (fun v11 H locs hp9 hz9 ho9 hS => ?_)
  have e11 : v11 = _ := hp9
  have hC := hC.same (fun q => ho9 q (fun h => h))
  refine lv_if_eq (tgt := 29) hx hb dX4_hearInquire_14 (by decide) (fun c_14 => ?_) (fun c_14 => ?_)
  · have h11 : ¬ (σ.1 1 i = 1 ∧ σ.1 2 i = t) := fun h => by rw [if_pos h] at e11; rw [e11] at c_14; exact absurd c_14 (by decide)
    have hfin : qC dd ga n k ad (q_inquire σ i j t) H := by rw [q_inquire, if_neg (fun h => h11 h.1)]; exact hC
    exact q_vret hx hb hr hlocks hS hfin dX4_hearInquire_29
  · have h11 : σ.1 1 i = 1 ∧ σ.1 2 i = t := Classical.byContradiction fun h => by rw [if_neg h] at e11; exact c_14 e11
    refine lv_aload hx hb dX4_hearInquire_17 (lv_at hl 0 rfl) ?_
    refine qr_get (ci := 0) (C := RX0) (T := TX0) (N := 5) hx hb hts hin0 hown hK (hC.ask i hi) rfl 2 (by decide) (hts (.fieldLink RX4 94 "QuorumLock$Asker" "votes" "I") (by decide +kernel)) rfl dX4_hearInquire_19 ?_
    refine lv_iload_n hx hb dX4_hearInquire_22 rfl (lv_at hl 3 rfl) ?_
    refine qc_i (va_runS (As := [.int (σ.1 3 i), .int (nI j)]) (rest := []) ⟨hx, hb, hml, hown, hts⟩ (c_X4_has l dd ga (σ.1 3 i) j) (va_cwS 2 hts gX4_hearInquire_X4_has rfl rfl rfl (by decide +kernel) ⟨Nat.le_of_ble_eq_true rfl, Nat.le_of_ble_eq_true rfl⟩) (qpreS hK trivial) rfl rfl hl.1 rfl (lv_room (Nat.le_of_ble_eq_true rfl)) dX4_hearInquire_23 ⟨Nat.zero_le _, Nat.zero_le _⟩) hS (fun q h => h.elim) (fun v23 H locs hp9 hz9 ho9 hS => ?_)
    have e23 : v23 = _ := hp9
    have hC := hC.same (fun q => ho9 q (fun h => h))
    refine lv_if_ne (tgt := 30) hx hb dX4_hearInquire_26 (by decide) (fun c_26 => ?_) (fun c_26 => ?_)
    · have h23 : q_has (σ.1 3 i) j = true := Classical.byContradiction fun h => by rw [if_neg h] at e23; exact c_26 e23
      refine lv_aload hx hb dX4_hearInquire_30 (lv_at hl 0 rfl) ?_
      refine qr_get (ci := 0) (C := RX0) (T := TX0) (N := 5) hx hb hts hin0 hown hK (hC.ask i hi) rfl 3 (by decide) (hts (.fieldLink RX4 120 "QuorumLock$Asker" "failures" "I") (by decide +kernel)) rfl dX4_hearInquire_32 ?_
      refine lv_if_eq (tgt := 47) hx hb dX4_hearInquire_35 (by decide) (fun c_35 => ?_) (fun c_35 => ?_)
      · refine lv_aload hx hb dX4_hearInquire_47 (lv_at hl 0 rfl) ?_
        refine lv_dup hx hb dX4_hearInquire_49 rfl ?_
        refine qr_get (ci := 0) (C := RX0) (T := TX0) (N := 5) hx hb hts hin0 hown hK (hC.ask i hi) rfl 4 (by decide) (hts (.fieldLink RX4 123 "QuorumLock$Asker" "inquiries" "I") (by decide +kernel)) rfl dX4_hearInquire_50 ?_
        refine lv_iconst (v := 1) hx hb dX4_hearInquire_53 (by decide) ?_
        refine lv_iload_n hx hb dX4_hearInquire_54 rfl (lv_at hl 3 rfl) ?_
        refine lv_ishl hx hb dX4_hearInquire_55 ?_
        refine lv_ior hx hb dX4_hearInquire_56 ?_
        refine qr_put (ci := 0) (C := RX0) (T := TX0) (N := 5) hx hb hts hin0 tyX0 tyX0_ok nmX0 hown hK (hC.ask i hi) hS (⟨10, i, qd.i (by decide) (by decide) hi, rfl⟩) rfl 4 (by decide) (hts (.fieldLink RX4 123 "QuorumLock$Asker" "inquiries" "I") (by decide +kernel)) rfl rfl rfl (Nat.le_of_ble_eq_true rfl) dX4_hearInquire_57 (fun H locs hz9 ho9 hat9 hS => ?_)
        have hC := hC.putAsk (σ' := s_tb σ 5 i (σ.1 5 i ||| q_bit j)) hL hi ho9 (by simpa [s_tb, q2, q_bit] using hat9) (fun f j h => by simp only [s_tb, q2]; repeat rw [if_neg (by omega)]) rfl
        have hfin : qC dd ga n k ad (q_inquire σ i j t) H := by rw [q_inquire, if_pos ⟨h11, h23⟩, if_neg (fun h => h c_35)]; exact hC
        exact q_vret hx hb hr hlocks hS hfin dX4_hearInquire_60
      · refine lv_aload_n hx hb dX4_hearInquire_38 rfl (lv_at hl 1 rfl) ?_
        refine lv_iload_n hx hb dX4_hearInquire_39 rfl (lv_at hl 2 rfl) ?_
        refine lv_iload_n hx hb dX4_hearInquire_40 rfl (lv_at hl 3 rfl) ?_
        refine qc_v (va_runV (As := [.int (nI i), .int (nI j)]) (rest := []) ⟨hx, hb, hml, hown, hts⟩ (c_X4_giveUp l dd ga n k ad σ hsq hL i j hi hj hroom) (cwV 2 hts gX4_hearInquire_X4_giveUp rfl rfl rfl (by decide +kernel) ⟨Nat.le_of_ble_eq_true rfl, Nat.le_of_ble_eq_true rfl⟩) (qpreV hK hC hC.self rfl) rfl rfl hl.1 rfl (lv_room (Nat.le_of_ble_eq_true rfl)) dX4_hearInquire_41 ⟨Nat.zero_le _, Nat.zero_le _⟩) hS (fun q h => h) (fun H locs hp9 hz9 ho9 hS => ?_)
        have hC := hp9
        have hfin : qC dd ga n k ad (q_inquire σ i j t) H := by rw [q_inquire, if_pos ⟨h11, h23⟩, if_pos c_35]; exact hC
        refine lv_goto (tgt := 60) hx hb dX4_hearInquire_44 (by decide) ?_
        exact q_vret hx hb hr hlocks hS hfin dX4_hearInquire_60
    · have h23 : ¬ q_has (σ.1 3 i) j = true := fun h => by rw [if_pos h] at e23; rw [e23] at c_26; exact absurd c_26 (by decide)
      have hfin : qC dd ga n k ad (q_inquire σ i j t) H := by rw [q_inquire, if_neg (fun h => h23 h.2)]; exact hC
      exact q_vret hx hb hr hlocks hS hfin dX4_hearInquire_29
end
section
theorem qC.votS {dd : va_G} {ga : Nat → ClassId} {n k : Nat} {ad : Nat → Nat → Nat} {σ : qSt} {H : Heap} (h : qC dd ga n k ad σ H) {i b : Nat} {u : Int32} (hi : i < n) (hln : σ.2.1 i = some (b, u)) : va_at dd vwCl (ad 11 i, .inr (2, [.ref (ad 12 i), .int (nI b), .int u, .int (σ.1 6 i)])) H := by
  have h9 := h.vot i hi
  rw [hln] at h9
  exact h9
set_option maxHeartbeats 4000000 in
set_option maxRecDepth 100000 in
/-- X4_weighRequest -/
theorem c_X4_weighRequest (l : Launch) (dd : va_G) (ga : Nat → ClassId) (n k : Nat) (ad : Nat → Nat → Nat) (σ : qSt) (hsq : qSq n k) (hL : qL n ad) (i a : Nat) (hi : i < n) (ha : a < n) (t : Int32) (hcap : qCap n k σ) : Met l yX4_weighRequest wsX4_weighRequest ({ frames := 4, cells := 0, slots := 0, locals := 96 }) (qPc dd ga [.ref (ad 0 0), .int (nI i), .int (nI a), .int t] (fun H => qC dd ga n k ad σ H)) (qQv (fun H => qC dd ga n k ad (q_asked σ i a t) H) (qA n ad)) 0 0 (qA n ad) := by
  refine Met.ofW (cc := cX4_weighRequest) (maxL := 7) (ret := none) (by decide) rfl ?_
  intro p e s m args below meth c s₁ B hml hv
  obtain ⟨rfl, hC, hK⟩ := hv
  have hx := B.exec
  have hb := B.bytes
  have hr := B.returns
  have hts := atoms_spec (ws := wsX4_weighRequest) B.pre
  have hown : s.vm.findClass RX4 = some m.cls := findClass_of_methodNamed B.named
  have hlocks := B.notSynchronized
  have hS : qS (qA n ad) s.heap s.heap [] := qS.rf
  have hl := lv_entry ([.ref (ad 0 0), .int (nI i), .int (nI a), .int t]) (n := 7) (Nat.le_of_ble_eq_true rfl)
  rw [lg_entry_eq]
  generalize (lg_sl ([.ref (ad 0 0), .int (nI i), .int (nI a), .int t]) ++ List.replicate (7 - (lg_sl ([.ref (ad 0 0), .int (nI i), .int (nI a), .int t])).length) Slot.unset).toArray = ls at hl ⊢
  have hin1 : ∀ w ∈ wsX10, w ∈ wsX4_weighRequest := by decide +kernel
  have hin2 : ∀ w ∈ wsX20, w ∈ wsX4_weighRequest := by decide +kernel
  have hin4 : ∀ w ∈ wsX40, w ∈ wsX4_weighRequest := by decide +kernel
  have hn1 := hsq.n.1
  have hn16 := hsq.n.2
  obtain ⟨hcw, hcr, hcx, hcl, hci⟩ := id hcap
  have hk4 := hsq.2.2
  have hrl := hcr i hi
  have hr31 : ∀ x ∈ σ.2.2.1 i, x.1 < 2 ^ 31 := fun x hx => by have := hcx i hi x hx; omega
  rcases hln : σ.2.1 i with _ | ⟨b, u⟩
  · refine lv_aload_n hx hb dX4_weighRequest_0 rfl (lv_at hl 0 rfl) ?_
    refine qr_get (ci := 4) (C := RX4) (T := TX4) (N := 7) hx hb hts hin4 hown hK hC.self rfl 4 (by decide) (hts (.fieldLink RX4 37 "QuorumLock" "voters" "[LQuorumLock$Voter;") (by decide +kernel)) rfl dX4_weighRequest_1 ?_
    refine lv_iload_n hx hb dX4_weighRequest_4 rfl (lv_at hl 1 rfl) ?_
    refine qr_aald (v := ad 11 i) hx hb hK 3 hC.arV rfl i (by omega) (by omega) rfl rfl dX4_weighRequest_5 ?_
    refine lv_astore (lv' := [(4, .ref (ad 11 i)), (0, .ref (ad 0 0)), (1, .int (nI i)), (2, .int (nI a)), (3, .int t)]) hx hb dX4_weighRequest_6 hl (by decide) rfl (fun ls hl => ?_)
    refine lv_aload hx hb dX4_weighRequest_8 (lv_at hl 0 rfl) ?_
    refine qr_get (ci := 2) (C := RX2) (T := TX2) (N := 4) hx hb hts hin2 hown hK (hC.vot i hi) rfl 1 (by decide) (hts (.fieldLink RX4 103 "QuorumLock$Voter" "lentTo" "I") (by decide +kernel)) rfl dX4_weighRequest_10 ?_
    refine lv_iconst (v := (-1)) hx hb dX4_weighRequest_13 (by decide) ?_
    refine lv_icmp_ne (tgt := 25) hx hb dX4_weighRequest_14 (by decide) (fun c_14 => absurd (by rw [hln]; rfl) c_14) (fun c_14 => ?_)
    refine lv_aload_n hx hb dX4_weighRequest_17 rfl (lv_at hl 1 rfl) ?_
    refine lv_iload_n hx hb dX4_weighRequest_18 rfl (lv_at hl 2 rfl) ?_
    refine lv_iload_n hx hb dX4_weighRequest_19 rfl (lv_at hl 3 rfl) ?_
    refine lv_iload_n hx hb dX4_weighRequest_20 rfl (lv_at hl 4 rfl) ?_
    refine qc_v (va_runV (As := [.int (nI i), .int (nI a), .int t]) (rest := []) ⟨hx, hb, hml, hown, hts⟩ (c_X4_lend l dd ga n k ad σ hsq hL i a hi ha t (by have := hcw i a hi ha; omega)) (cwV 3 hts gX4_weighRequest_X4_lend rfl rfl rfl (by decide +kernel) ⟨Nat.le_of_ble_eq_true rfl, Nat.le_of_ble_eq_true rfl⟩) (qpreV hK hC hC.self rfl) rfl rfl hl.1 rfl (lv_room (Nat.le_of_ble_eq_true rfl)) dX4_weighRequest_21 ⟨Nat.zero_le _, Nat.zero_le _⟩) hS (fun q h => h) (fun H locs hp9 hz9 ho9 hS => ?_)
    have hC := hp9
    exact q_vret hx hb hr hlocks hS (by rw [q_asked_none hln]; exact hC) dX4_weighRequest_24
  · have hb9 : b < n := hcl i hi (b, u) hln
    refine lv_aload_n hx hb dX4_weighRequest_0 rfl (lv_at hl 0 rfl) ?_
    refine qr_get (ci := 4) (C := RX4) (T := TX4) (N := 7) hx hb hts hin4 hown hK hC.self rfl 4 (by decide) (hts (.fieldLink RX4 37 "QuorumLock" "voters" "[LQuorumLock$Voter;") (by decide +kernel)) rfl dX4_weighRequest_1 ?_
    refine lv_iload_n hx hb dX4_weighRequest_4 rfl (lv_at hl 1 rfl) ?_
    refine qr_aald (v := ad 11 i) hx hb hK 3 hC.arV rfl i (by omega) (by omega) rfl rfl dX4_weighRequest_5 ?_
    refine lv_astore (lv' := [(4, .ref (ad 11 i)), (0, .ref (ad 0 0)), (1, .int (nI i)), (2, .int (nI a)), (3, .int t)]) hx hb dX4_weighRequest_6 hl (by decide) rfl (fun ls hl => ?_)
    refine lv_aload hx hb dX4_weighRequest_8 (lv_at hl 0 rfl) ?_
    refine qr_get (ci := 2) (C := RX2) (T := TX2) (N := 4) hx hb hts hin2 hown hK (hC.vot i hi) rfl 1 (by decide) (hts (.fieldLink RX4 103 "QuorumLock$Voter" "lentTo" "I") (by decide +kernel)) rfl dX4_weighRequest_10 ?_
    refine lv_iconst (v := (-1)) hx hb dX4_weighRequest_13 (by decide) ?_
    refine lv_icmp_ne (tgt := 25) hx hb dX4_weighRequest_14 (by decide) (fun c_14 => ?_) (fun c_14 => absurd c_14 (by rw [hln]; exact q_nI_m1 (by omega)))
    refine lv_aload hx hb dX4_weighRequest_25 (lv_at hl 0 rfl) ?_
    refine qc_i (va_runV (As := []) (rest := []) ⟨hx, hb, hml, hown, hts⟩ (c_X2_isPressed l dd ga (2 * k - 1) (ad 11 i) (ad 12 i) (ad 13 i) (ad 14 i) b u (σ.1 6 i) (σ.2.2.1 i) (by omega) (by omega) (by omega) hr31) (cwV 0 hts gX4_weighRequest_X2_isPressed rfl rfl rfl (by decide +kernel) ⟨Nat.le_of_ble_eq_true rfl, Nat.le_of_ble_eq_true rfl⟩) (qpreV hK (⟨hC.votS hi hln, hC.row i hi⟩) (hC.votS hi hln) rfl) rfl rfl hl.1 rfl (lv_room (Nat.le_of_ble_eq_true rfl)) dX4_weighRequest_27 ⟨Nat.zero_le _, Nat.zero_le _⟩) hS (fun q h => h.elim) (fun v27 H locs hp9 hz9 ho9 hS => ?_)
    have e27 : v27 = _ := hp9
    have hC := hC.same (fun q => ho9 q (fun h => h))
    refine lv_istore (lv' := [(5, .int v27), (4, .ref (ad 11 i)), (0, .ref (ad 0 0)), (1, .int (nI i)), (2, .int (nI a)), (3, .int t)]) hx hb dX4_weighRequest_30 hl (by decide) rfl (fun ls hl => ?_)
    refine lv_aload hx hb dX4_weighRequest_32 (lv_at hl 1 rfl) ?_
    refine qr_get (ci := 2) (C := RX2) (T := TX2) (N := 4) hx hb hts hin2 hown hK (hC.vot i hi) rfl 0 (by decide) (hts (.fieldLink RX4 130 "QuorumLock$Voter" "row" "LQuorumLock$Row;") (by decide +kernel)) rfl dX4_weighRequest_34 ?_
    refine lv_iload_n hx hb dX4_weighRequest_37 rfl (lv_at hl 4 rfl) ?_
    refine lv_iload_n hx hb dX4_weighRequest_38 rfl (lv_at hl 5 rfl) ?_
    refine qc_i (va_runV (As := [.int (nI a), .int t]) (rest := []) ⟨hx, hb, hml, hown, hts⟩ (c_X1_insert l dd ga (2 * k - 1) (ad 12 i) (ad 13 i) (ad 14 i) (σ.2.2.1 i) (by omega) (by omega) (hL.ne (qd.i (by decide) (by decide) hi) (qd.i (by decide) (by decide) hi) (by omega)) (hL.ne (qd.i (by decide) (by decide) hi) (qd.i (by decide) (by decide) hi) (by omega)) (hL.ne (qd.i (by decide) (by decide) hi) (qd.i (by decide) (by decide) hi) (by omega)) a t (by omega) hr31) (cwV 2 hts gX4_weighRequest_X1_insert rfl rfl rfl (by decide +kernel) ⟨Nat.le_of_ble_eq_true rfl, Nat.le_of_ble_eq_true rfl⟩) (qpreV hK (hC.row i hi) ((hC.row i hi).obj) rfl) rfl rfl hl.1 rfl (lv_room (Nat.le_of_ble_eq_true rfl)) dX4_weighRequest_39 ⟨Nat.zero_le _, Nat.zero_le _⟩) hS (fun q h => qA.row hi h) (fun v39 H locs hp9 hz9 ho9 hS => ?_)
    have e39 : v39 = _ := hp9.1
    have hC := hC.putRow (σ' := s_rw σ i (q_ins (σ.2.2.1 i) a t)) hL hi ho9 (by simpa [s_rw, va_up] using hp9.2) rfl rfl (fun j h => va_up_ne _ _ h) rfl
    have er1 : (s_rw σ i (q_ins (σ.2.2.1 i) a t)).2.2.1 i = q_ins (σ.2.2.1 i) a t := by simp [s_rw, va_up]
    have hpl := q_pl_le (σ.2.2.1 i) a t (σ.2.2.1 i).length
    have hr32 : ∀ x ∈ (s_rw σ i (q_ins (σ.2.2.1 i) a t)).2.2.1 i, x.1 < 2 ^ 31 := fun x hx => by rw [er1] at hx; rcases q_ins_mem hx with h | h; (rw [h]; show a < _; omega); exact hr31 x h
    refine lv_if_ne (tgt := 49) hx hb dX4_weighRequest_42 (by decide) (fun c_42 => ?_) (fun c_42 => ?_)
    · have hno : ¬ (q_pl (σ.2.2.1 i) a t (σ.2.2.1 i).length = 0 ∧ q_bef t a u b = true) := fun h => c_42 (by rw [e39, h.1]; rfl)
      refine lv_iconst (v := 0) hx hb dX4_weighRequest_49 (by decide) ?_
      refine lv_istore (lv' := [(6, .int 0), (5, .int v27), (4, .ref (ad 11 i)), (0, .ref (ad 0 0)), (1, .int (nI i)), (2, .int (nI a)), (3, .int t)]) hx hb dX4_weighRequest_50 hl (by decide) rfl (fun ls hl => ?_)
      refine lv_iload hx hb dX4_weighRequest_52 (lv_at hl 0 rfl) ?_
      refine lv_if_eq (tgt := 103) hx hb dX4_weighRequest_54 (by decide) (fun c_54 => ?_) (fun c_54 => absurd (by decide) c_54)
      refine lv_aload_n hx hb dX4_weighRequest_103 rfl (lv_at hl 3 rfl) ?_
      refine lv_iload_n hx hb dX4_weighRequest_104 rfl (lv_at hl 4 rfl) ?_
      refine lv_iload_n hx hb dX4_weighRequest_105 rfl (lv_at hl 5 rfl) ?_
      refine lv_bipush (v := 6) hx hb dX4_weighRequest_106 (by decide) ?_
      refine lv_iload_n hx hb dX4_weighRequest_108 rfl (lv_at hl 6 rfl) ?_
      refine qc_v (va_runV (As := [.int (nI i), .int (nI a), .int 6, .int t]) (rest := []) ⟨hx, hb, hml, hown, hts⟩ (c_X4_send l dd ga n k ad (s_rw σ i (q_ins (σ.2.2.1 i) a t)) hsq hL i a hi ha 6 t (by have h9 := hcw i a hi ha; show (σ.2.2.2.1 i a).length < 8; omega)) (cwV 4 hts gX4_weighRequest_X4_send rfl rfl rfl (by decide +kernel) ⟨Nat.le_of_ble_eq_true rfl, Nat.le_of_ble_eq_true rfl⟩) (qpreV hK hC hC.self rfl) rfl rfl hl.1 rfl (lv_room (Nat.le_of_ble_eq_true rfl)) dX4_weighRequest_109 ⟨Nat.zero_le _, Nat.zero_le _⟩) hS (fun q h => h) (fun H locs hp9 hz9 ho9 hS => ?_)
      have hC := hp9
      rw [← q_asked_no hln hno] at hC
      have hfin := hC
      exact q_vret hx hb hr hlocks hS hfin dX4_weighRequest_112
    · have hp0 : q_pl (σ.2.2.1 i) a t (σ.2.2.1 i).length = 0 := (nI_eq (a := q_pl (σ.2.2.1 i) a t (σ.2.2.1 i).length) (b := 0) (by omega) (by decide)).mp (e39.symm.trans c_42)
      refine lv_iconst (v := 1) hx hb dX4_weighRequest_45 (by decide) ?_
      refine lv_goto (tgt := 50) hx hb dX4_weighRequest_46 (by decide) ?_
      refine lv_istore (lv' := [(6, .int 1), (5, .int v27), (4, .ref (ad 11 i)), (0, .ref (ad 0 0)), (1, .int (nI i)), (2, .int (nI a)), (3, .int t)]) hx hb dX4_weighRequest_50 hl (by decide) rfl (fun ls hl => ?_)
      refine lv_iload hx hb dX4_weighRequest_52 (lv_at hl 0 rfl) ?_
      refine lv_if_eq (tgt := 103) hx hb dX4_weighRequest_54 (by decide) (fun c_54 => absurd c_54 (by decide)) (fun c_54 => ?_)
      refine lv_aload hx hb dX4_weighRequest_57 (lv_at hl 2 rfl) ?_
      refine qc_i (va_runV (As := []) (rest := []) ⟨hx, hb, hml, hown, hts⟩ (c_X2_isPressed l dd ga (2 * k - 1) (ad 11 i) (ad 12 i) (ad 13 i) (ad 14 i) b u (σ.1 6 i) ((s_rw σ i (q_ins (σ.2.2.1 i) a t)).2.2.1 i) (by omega) (by rw [er1, q_ins_len]; omega) (by omega) hr32) (cwV 0 hts gX4_weighRequest_X2_isPressed rfl rfl rfl (by decide +kernel) ⟨Nat.le_of_ble_eq_true rfl, Nat.le_of_ble_eq_true rfl⟩) (qpreV hK (⟨hC.votS hi hln, hC.row i hi⟩) (hC.votS hi hln) rfl) rfl rfl hl.1 rfl (lv_room (Nat.le_of_ble_eq_true rfl)) dX4_weighRequest_59 ⟨Nat.zero_le _, Nat.zero_le _⟩) hS (fun q h => h.elim) (fun v59 H locs hp9 hz9 ho9 hS => ?_)
      have e59 : v59 = _ := hp9
      have hC := hC.same (fun q => ho9 q (fun h => h))
      rw [er1, q_ins0 hp0] at e59
      refine lv_if_eq (tgt := 103) hx hb dX4_weighRequest_62 (by decide) (fun c_62 => ?_) (fun c_62 => ?_)
      · have hno : ¬ (q_pl (σ.2.2.1 i) a t (σ.2.2.1 i).length = 0 ∧ q_bef t a u b = true) := fun h => by rw [if_pos (show q_press ((a, t) :: σ.2.2.1 i) u b = true from h.2)] at e59; rw [e59] at c_62; exact absurd c_62 (by decide)
        refine lv_aload_n hx hb dX4_weighRequest_103 rfl (lv_at hl 3 rfl) ?_
        refine lv_iload_n hx hb dX4_weighRequest_104 rfl (lv_at hl 4 rfl) ?_
        refine lv_iload_n hx hb dX4_weighRequest_105 rfl (lv_at hl 5 rfl) ?_
        refine lv_bipush (v := 6) hx hb dX4_weighRequest_106 (by decide) ?_
        refine lv_iload_n hx hb dX4_weighRequest_108 rfl (lv_at hl 6 rfl) ?_
        refine qc_v (va_runV (As := [.int (nI i), .int (nI a), .int 6, .int t]) (rest := []) ⟨hx, hb, hml, hown, hts⟩ (c_X4_send l dd ga n k ad (s_rw σ i (q_ins (σ.2.2.1 i) a t)) hsq hL i a hi ha 6 t (by have h9 := hcw i a hi ha; show (σ.2.2.2.1 i a).length < 8; omega)) (cwV 4 hts gX4_weighRequest_X4_send rfl rfl rfl (by decide +kernel) ⟨Nat.le_of_ble_eq_true rfl, Nat.le_of_ble_eq_true rfl⟩) (qpreV hK hC hC.self rfl) rfl rfl hl.1 rfl (lv_room (Nat.le_of_ble_eq_true rfl)) dX4_weighRequest_109 ⟨Nat.zero_le _, Nat.zero_le _⟩) hS (fun q h => h) (fun H locs hp9 hz9 ho9 hS => ?_)
        have hC := hp9
        rw [← q_asked_no hln hno] at hC
        have hfin := hC
        exact q_vret hx hb hr hlocks hS hfin dX4_weighRequest_112
      · have hbf : q_bef t a u b = true := Classical.byContradiction fun h => by rw [if_neg (show ¬ q_press ((a, t) :: σ.2.2.1 i) u b = true from h)] at e59; exact c_62 e59
        refine lv_iload hx hb dX4_weighRequest_65 (lv_at hl 1 rfl) ?_
        refine lv_if_eq (tgt := 95) hx hb dX4_weighRequest_67 (by decide) (fun c_67 => ?_) (fun c_67 => ?_)
        · have hpr : ¬ q_press (σ.2.2.1 i) u b = true := fun h => by rw [if_pos h] at e27; rw [e27] at c_67; exact absurd c_67 (by decide)
          refine lv_aload_n hx hb dX4_weighRequest_95 rfl (lv_at hl 3 rfl) ?_
          refine lv_iload_n hx hb dX4_weighRequest_96 rfl (lv_at hl 4 rfl) ?_
          refine qc_v (va_runV (As := [.int (nI i)]) (rest := []) ⟨hx, hb, hml, hown, hts⟩ (c_X4_inquireOnce l dd ga n k ad (s_rw σ i (q_ins (σ.2.2.1 i) a t)) hsq hL i b u hi hb9 hln (by have h9 := hcw i b hi hb9; show (σ.2.2.2.1 i b).length < 8; omega)) (cwV 1 hts gX4_weighRequest_X4_inquireOnce rfl rfl rfl (by decide +kernel) ⟨Nat.le_of_ble_eq_true rfl, Nat.le_of_ble_eq_true rfl⟩) (qpreV hK hC hC.self rfl) rfl rfl hl.1 rfl (lv_room (Nat.le_of_ble_eq_true rfl)) dX4_weighRequest_97 ⟨Nat.zero_le _, Nat.zero_le _⟩) hS (fun q h => h) (fun H locs hp9 hz9 ho9 hS => ?_)
          have hfin : qC dd ga n k ad (q_asked σ i a t) H := by rw [q_asked_yes0 hln hp0 hbf hpr]; exact hp9
          refine lv_goto (tgt := 112) hx hb dX4_weighRequest_100 (by decide) ?_
          exact q_vret hx hb hr hlocks hS hfin dX4_weighRequest_112
        · have hpr : q_press (σ.2.2.1 i) u b = true := Classical.byContradiction fun h => by rw [if_neg h] at e27; exact c_67 e27
          obtain ⟨x9, r9, hr9⟩ : ∃ x9 r9, σ.2.2.1 i = x9 :: r9 := by
            cases h : σ.2.2.1 i with
            | nil => rw [h] at hpr; cases hpr
            | cons x r => exact ⟨x, r, rfl⟩
          have hx9 : x9.1 < n := hcx i hi x9 (by rw [hr9]; exact List.mem_cons_self)
          refine lv_aload_n hx hb dX4_weighRequest_70 rfl (lv_at hl 3 rfl) ?_
          refine lv_iload_n hx hb dX4_weighRequest_71 rfl (lv_at hl 4 rfl) ?_
          refine lv_aload hx hb dX4_weighRequest_72 (lv_at hl 2 rfl) ?_
          refine qr_get (ci := 2) (C := RX2) (T := TX2) (N := 4) hx hb hts hin2 hown hK (hC.vot i hi) rfl 0 (by decide) (hts (.fieldLink RX4 130 "QuorumLock$Voter" "row" "LQuorumLock$Row;") (by decide +kernel)) rfl dX4_weighRequest_74 ?_
          refine lv_iconst (v := 1) hx hb dX4_weighRequest_77 (by decide) ?_
          refine qc_i (va_runV (As := [.int 1]) (rest := [.int (nI i), .ref (ad 0 0)]) ⟨hx, hb, hml, hown, hts⟩ (c_X1_nodeAt l dd ga (2 * k - 1) (ad 12 i) (ad 13 i) (ad 14 i) ((s_rw σ i (q_ins (σ.2.2.1 i) a t)).2.2.1 i) (by omega) (by rw [er1, q_ins_len]; omega) 1) (cwV 1 hts gX4_weighRequest_X1_nodeAt rfl rfl rfl (by decide +kernel) ⟨Nat.le_of_ble_eq_true rfl, Nat.le_of_ble_eq_true rfl⟩) (qpreV hK (hC.row i hi) ((hC.row i hi).obj) rfl) rfl rfl hl.1 rfl (lv_room (Nat.le_of_ble_eq_true rfl)) dX4_weighRequest_78 ⟨Nat.zero_le _, Nat.zero_le _⟩) hS (fun q h => h.elim) (fun v78 H locs hp9 hz9 ho9 hS => ?_)
          rw [er1, q_ins0 hp0, hr9, (q_at1 (by rw [hr9] at hrl; simp at hrl; omega)).1] at hp9
          subst hp9
          have hC := hC.same (fun q => ho9 q (fun h => h))
          refine lv_bipush (v := 6) hx hb dX4_weighRequest_81 (by decide) ?_
          refine lv_aload hx hb dX4_weighRequest_83 (lv_at hl 2 rfl) ?_
          refine qr_get (ci := 2) (C := RX2) (T := TX2) (N := 4) hx hb hts hin2 hown hK (hC.vot i hi) rfl 0 (by decide) (hts (.fieldLink RX4 130 "QuorumLock$Voter" "row" "LQuorumLock$Row;") (by decide +kernel)) rfl dX4_weighRequest_85 ?_
          refine lv_iconst (v := 1) hx hb dX4_weighRequest_88 (by decide) ?_
          refine qc_i (va_runV (As := [.int 1]) (rest := [.int 6, .int (nI x9.1), .int (nI i), .ref (ad 0 0)]) ⟨hx, hb, hml, hown, hts⟩ (c_X1_timeAt l dd ga (2 * k - 1) (ad 12 i) (ad 13 i) (ad 14 i) ((s_rw σ i (q_ins (σ.2.2.1 i) a t)).2.2.1 i) (by omega) (by rw [er1, q_ins_len]; omega) 1) (cwV 1 hts gX4_weighRequest_X1_timeAt rfl rfl rfl (by decide +kernel) ⟨Nat.le_of_ble_eq_true rfl, Nat.le_of_ble_eq_true rfl⟩) (qpreV hK (hC.row i hi) ((hC.row i hi).obj) rfl) rfl rfl hl.1 rfl (lv_room (Nat.le_of_ble_eq_true rfl)) dX4_weighRequest_89 ⟨Nat.zero_le _, Nat.zero_le _⟩) hS (fun q h => h.elim) (fun v89 H locs hp9 hz9 ho9 hS => ?_)
          rw [er1, q_ins0 hp0, hr9, (q_at1 (by rw [hr9] at hrl; simp at hrl; omega)).2] at hp9
          subst hp9
          have hC := hC.same (fun q => ho9 q (fun h => h))
          refine qc_v (va_runV (As := [.int (nI i), .int (nI x9.1), .int 6, .int x9.2]) (rest := []) ⟨hx, hb, hml, hown, hts⟩ (c_X4_send l dd ga n k ad (s_rw σ i (q_ins (σ.2.2.1 i) a t)) hsq hL i x9.1 hi hx9 6 x9.2 (by have h9 := hcw i x9.1 hi hx9; show (σ.2.2.2.1 i x9.1).length < 8; omega)) (cwV 4 hts gX4_weighRequest_X4_send rfl rfl rfl (by decide +kernel) ⟨Nat.le_of_ble_eq_true rfl, Nat.le_of_ble_eq_true rfl⟩) (qpreV hK hC hC.self rfl) rfl rfl hl.1 rfl (lv_room (Nat.le_of_ble_eq_true rfl)) dX4_weighRequest_92 ⟨Nat.zero_le _, Nat.zero_le _⟩) hS (fun q h => h) (fun H locs hp9 hz9 ho9 hS => ?_)
          have hC := hp9
          refine lv_aload_n hx hb dX4_weighRequest_95 rfl (lv_at hl 3 rfl) ?_
          refine lv_iload_n hx hb dX4_weighRequest_96 rfl (lv_at hl 4 rfl) ?_
          refine qc_v (va_runV (As := [.int (nI i)]) (rest := []) ⟨hx, hb, hml, hown, hts⟩ (c_X4_inquireOnce l dd ga n k ad (s_send (s_rw σ i (q_ins (σ.2.2.1 i) a t)) i x9.1 6 x9.2) hsq hL i b u hi hb9 hln (by have h9 := hcw i b hi hb9; have h8 := q_send_len (s_rw σ i (q_ins (σ.2.2.1 i) a t)) i x9.1 6 x9.2 i b; have h7 : ((s_rw σ i (q_ins (σ.2.2.1 i) a t)).2.2.2.1 i b).length = (σ.2.2.2.1 i b).length := rfl; omega)) (cwV 1 hts gX4_weighRequest_X4_inquireOnce rfl rfl rfl (by decide +kernel) ⟨Nat.le_of_ble_eq_true rfl, Nat.le_of_ble_eq_true rfl⟩) (qpreV hK hC hC.self rfl) rfl rfl hl.1 rfl (lv_room (Nat.le_of_ble_eq_true rfl)) dX4_weighRequest_97 ⟨Nat.zero_le _, Nat.zero_le _⟩) hS (fun q h => h) (fun H locs hp9 hz9 ho9 hS => ?_)
          have hfin : qC dd ga n k ad (q_asked σ i a t) H := by rw [q_asked_yes1 hln hp0 hbf hr9 hpr]; exact hp9
          refine lv_goto (tgt := 112) hx hb dX4_weighRequest_100 (by decide) ?_
          exact q_vret hx hb hr hlocks hS hfin dX4_weighRequest_112
theorem q_home_no {σ : qSt} {i a : Nat} {t : Int32} {g : Bool} (h : ¬ σ.2.1 i = some (a, t)) : q_home σ i a t g = σ := by rw [q_home, if_neg h]
set_option maxHeartbeats 4000000 in
set_option maxRecDepth 100000 in
/-- X4_takeVoteBack -/
theorem c_X4_takeVoteBack0 (l : Launch) (dd : va_G) (ga : Nat → ClassId) (n k : Nat) (ad : Nat → Nat → Nat) (σ : qSt) (hsq : qSq n k) (hL : qL n ad) (i a : Nat) (hi : i < n) (ha : a < n) (t : Int32) (hcap : qCap n k σ) : Met l yX4_takeVoteBack wsX4_takeVoteBack ({ frames := 4, cells := 0, slots := 0, locals := 96 }) (qPc dd ga [.ref (ad 0 0), .int (nI i), .int (nI a), .int t, .int 0] (fun H => qC dd ga n k ad σ H)) (qQv (fun H => qC dd ga n k ad (q_home σ i a t false) H) (qA n ad)) 0 0 (qA n ad) := by
  refine Met.ofW (cc := cX4_takeVoteBack) (maxL := 8) (ret := none) (by decide) rfl ?_
  intro p e s m args below meth c s₁ B hml hv
  obtain ⟨rfl, hC, hK⟩ := hv
  have hx := B.exec
  have hb := B.bytes
  have hr := B.returns
  have hts := atoms_spec (ws := wsX4_takeVoteBack) B.pre
  have hown : s.vm.findClass RX4 = some m.cls := findClass_of_methodNamed B.named
  have hlocks := B.notSynchronized
  have hS : qS (qA n ad) s.heap s.heap [] := qS.rf
  have hl := lv_entry ([.ref (ad 0 0), .int (nI i), .int (nI a), .int t, .int 0]) (n := 8) (Nat.le_of_ble_eq_true rfl)
  rw [lg_entry_eq]
  generalize (lg_sl ([.ref (ad 0 0), .int (nI i), .int (nI a), .int t, .int 0]) ++ List.replicate (8 - (lg_sl ([.ref (ad 0 0), .int (nI i), .int (nI a), .int t, .int 0])).length) Slot.unset).toArray = ls at hl ⊢
  have hin1 : ∀ w ∈ wsX10, w ∈ wsX4_takeVoteBack := by decide +kernel
  have hin2 : ∀ w ∈ wsX20, w ∈ wsX4_takeVoteBack := by decide +kernel
  have hin4 : ∀ w ∈ wsX40, w ∈ wsX4_takeVoteBack := by decide +kernel
  have hn1 := hsq.n.1
  have hn16 := hsq.n.2
  obtain ⟨hcw, hcr, hcx, hcl, hci⟩ := id hcap
  have hk4 := hsq.2.2
  have hrl := hcr i hi
  have hr31 : ∀ x ∈ σ.2.2.1 i, x.1 < 2 ^ 31 := fun x hx => by have := hcx i hi x hx; omega
  refine lv_aload_n hx hb dX4_takeVoteBack_0 rfl (lv_at hl 0 rfl) ?_
  refine qr_get (ci := 4) (C := RX4) (T := TX4) (N := 7) hx hb hts hin4 hown hK hC.self rfl 4 (by decide) (hts (.fieldLink RX4 37 "QuorumLock" "voters" "[LQuorumLock$Voter;") (by decide +kernel)) rfl dX4_takeVoteBack_1 ?_
  refine lv_iload_n hx hb dX4_takeVoteBack_4 rfl (lv_at hl 1 rfl) ?_
  refine qr_aald (v := ad 11 i) hx hb hK 3 hC.arV rfl i (by omega) (by omega) rfl rfl dX4_takeVoteBack_5 ?_
  refine lv_astore (lv' := [(5, .ref (ad 11 i)), (0, .ref (ad 0 0)), (1, .int (nI i)), (2, .int (nI a)), (3, .int t), (4, .int 0)]) hx hb dX4_takeVoteBack_6 hl (by decide) rfl (fun ls hl => ?_)
  refine lv_aload hx hb dX4_takeVoteBack_8 (lv_at hl 0 rfl) ?_
  refine qr_get (ci := 2) (C := RX2) (T := TX2) (N := 4) hx hb hts hin2 hown hK (hC.vot i hi) rfl 1 (by decide) (hts (.fieldLink RX4 103 "QuorumLock$Voter" "lentTo" "I") (by decide +kernel)) rfl dX4_takeVoteBack_10 ?_
  refine lv_iload_n hx hb dX4_takeVoteBack_13 rfl (lv_at hl 3 rfl) ?_
  refine lv_icmp_ne (tgt := 26) hx hb dX4_takeVoteBack_14 (by decide) (fun c_14 => ?_) (fun c_14 => ?_)
  · have hfin : qC dd ga n k ad (q_home σ i a t false) s.heap := by rw [q_home_no (fun h => c_14 (by rw [h]; rfl))]; exact hC
    exact q_vret hx hb hr hlocks hS hfin dX4_takeVoteBack_26
  · refine lv_aload hx hb dX4_takeVoteBack_17 (lv_at hl 0 rfl) ?_
    refine qr_get (ci := 2) (C := RX2) (T := TX2) (N := 4) hx hb hts hin2 hown hK (hC.vot i hi) rfl 2 (by decide) (hts (.fieldLink RX4 201 "QuorumLock$Voter" "lentTime" "I") (by decide +kernel)) rfl dX4_takeVoteBack_19 ?_
    refine lv_iload_n hx hb dX4_takeVoteBack_22 rfl (lv_at hl 4 rfl) ?_
    refine lv_icmp_eq (tgt := 27) hx hb dX4_takeVoteBack_23 (by decide) (fun c_23 => ?_) (fun c_23 => ?_)
    · have hln : σ.2.1 i = some (a, t) := q_ln_eq (by omega) (fun x hx => by have := hcl i hi x hx; omega) c_14 c_23
      refine lv_iload hx hb dX4_takeVoteBack_27 (lv_at hl 5 rfl) ?_
      refine lv_if_eq (tgt := 43) hx hb dX4_takeVoteBack_29 (by decide) (fun c_29 => ?_) (fun c_29 => absurd (by decide) c_29)
      refine lv_aload hx hb dX4_takeVoteBack_43 (lv_at hl 0 rfl) ?_
      refine qc_v (va_runV (As := []) (rest := []) ⟨hx, hb, hml, hown, hts⟩ (c_X2_takeHome l dd ga (ad 11 i) (ad 12 i) (q_on (σ.2.1 i)) (q_ot (σ.2.1 i)) (σ.1 6 i)) (cwV 0 hts gX4_takeVoteBack_X2_takeHome rfl rfl rfl (by decide +kernel) ⟨Nat.le_of_ble_eq_true rfl, Nat.le_of_ble_eq_true rfl⟩) (qpreV hK (hC.vot i hi) (hC.vot i hi) rfl) rfl rfl hl.1 rfl (lv_room (Nat.le_of_ble_eq_true rfl)) dX4_takeVoteBack_45 ⟨Nat.zero_le _, Nat.zero_le _⟩) hS (fun q h => qA.at (by decide) (by decide) hi h) (fun H locs hp9 hz9 ho9 hS => ?_)
      have hC := hC.putVot (σ' := s_tb (s_ln (σ) i none) 6 i 0) hL hi ho9 (by simpa [qVot, s_tb, s_ln, q2, va_up, q_on, q_ot] using hp9) (fun f j h => q2_n h) (fun j h => va_up_ne _ _ h) rfl
      have ehm : q_home σ i a t false = q_next (s_tb (s_ln (σ) i none) 6 i 0) i := by rw [q_home, if_pos hln]; rfl
      have hrl2 : ((s_tb (s_ln (σ) i none) 6 i 0).2.2.1 i).length ≤ 2 * k - 1 := by show (σ.2.2.1 i).length ≤ _; omega
      have hrn2 : ∀ x ∈ (s_tb (s_ln (σ) i none) 6 i 0).2.2.1 i, x.1 < n := hcx i hi
      refine lv_aload hx hb dX4_takeVoteBack_48 (lv_at hl 0 rfl) ?_
      refine qr_get (ci := 2) (C := RX2) (T := TX2) (N := 4) hx hb hts hin2 hown hK (hC.vot i hi) rfl 0 (by decide) (hts (.fieldLink RX4 130 "QuorumLock$Voter" "row" "LQuorumLock$Row;") (by decide +kernel)) rfl dX4_takeVoteBack_50 ?_
      refine qr_get (ci := 1) (C := RX1) (T := TX1) (N := 3) hx hb hts hin1 hown hK ((hC.row i hi).obj) rfl 2 (by decide) (hts (.fieldLink RX4 134 "QuorumLock$Row" "length" "I") (by decide +kernel)) rfl dX4_takeVoteBack_53 ?_
      refine lv_if_le (tgt := 98) hx hb dX4_takeVoteBack_56 (by decide) (fun c_56 => ?_) (fun c_56 => ?_)
      · have hr9 : (s_tb (s_ln (σ) i none) 6 i 0).2.2.1 i = [] := List.length_eq_zero_iff.mp (Classical.byContradiction fun h => absurd c_56 (nI_nle (by omega) (by omega)))
        have hfin : qC dd ga n k ad (q_home σ i a t false) H := by rw [ehm, q_next, hr9]; exact hC
        exact q_vret hx hb hr hlocks hS hfin dX4_takeVoteBack_98
      · obtain ⟨x9, r9, hr9⟩ : ∃ x9 r9, (s_tb (s_ln (σ) i none) 6 i 0).2.2.1 i = x9 :: r9 := by
          cases h : (s_tb (s_ln (σ) i none) 6 i 0).2.2.1 i with
          | nil => rw [h] at c_56; exact absurd (by decide) c_56
          | cons x r => exact ⟨x, r, rfl⟩
        have hx9 : x9.1 < n := hrn2 x9 (by rw [hr9]; exact List.mem_cons_self)
        refine lv_aload hx hb dX4_takeVoteBack_59 (lv_at hl 0 rfl) ?_
        refine qr_get (ci := 2) (C := RX2) (T := TX2) (N := 4) hx hb hts hin2 hown hK (hC.vot i hi) rfl 0 (by decide) (hts (.fieldLink RX4 130 "QuorumLock$Voter" "row" "LQuorumLock$Row;") (by decide +kernel)) rfl dX4_takeVoteBack_61 ?_
        refine lv_iconst (v := 0) hx hb dX4_takeVoteBack_64 (by decide) ?_
        refine qc_i (va_runV (As := [.int 0]) (rest := []) ⟨hx, hb, hml, hown, hts⟩ (c_X1_nodeAt l dd ga (2 * k - 1) (ad 12 i) (ad 13 i) (ad 14 i) ((s_tb (s_ln (σ) i none) 6 i 0).2.2.1 i) (by omega) hrl2 0) (cwV 1 hts gX4_takeVoteBack_X1_nodeAt rfl rfl rfl (by decide +kernel) ⟨Nat.le_of_ble_eq_true rfl, Nat.le_of_ble_eq_true rfl⟩) (qpreV hK (hC.row i hi) ((hC.row i hi).obj) rfl) rfl rfl hl.1 rfl (lv_room (Nat.le_of_ble_eq_true rfl)) dX4_takeVoteBack_65 ⟨Nat.zero_le _, Nat.zero_le _⟩) hS (fun q h => h.elim) (fun v65 H locs hp9 hz9 ho9 hS => ?_)
        rw [hr9, (q_at0 (by rw [hr9] at hrl2; simp at hrl2; omega)).1] at hp9
        subst hp9
        have hC := hC.same (fun q => ho9 q (fun h => h))
        refine lv_istore (lv' := [(6, .int (nI x9.1)), (5, .ref (ad 11 i)), (0, .ref (ad 0 0)), (1, .int (nI i)), (2, .int (nI a)), (3, .int t), (4, .int 0)]) hx hb dX4_takeVoteBack_68 hl (by decide) rfl (fun ls hl => ?_)
        refine lv_aload hx hb dX4_takeVoteBack_70 (lv_at hl 1 rfl) ?_
        refine qr_get (ci := 2) (C := RX2) (T := TX2) (N := 4) hx hb hts hin2 hown hK (hC.vot i hi) rfl 0 (by decide) (hts (.fieldLink RX4 130 "QuorumLock$Voter" "row" "LQuorumLock$Row;") (by decide +kernel)) rfl dX4_takeVoteBack_72 ?_
        refine lv_iconst (v := 0) hx hb dX4_takeVoteBack_75 (by decide) ?_
        refine qc_i (va_runV (As := [.int 0]) (rest := []) ⟨hx, hb, hml, hown, hts⟩ (c_X1_timeAt l dd ga (2 * k - 1) (ad 12 i) (ad 13 i) (ad 14 i) ((s_tb (s_ln (σ) i none) 6 i 0).2.2.1 i) (by omega) hrl2 0) (cwV 1 hts gX4_takeVoteBack_X1_timeAt rfl rfl rfl (by decide +kernel) ⟨Nat.le_of_ble_eq_true rfl, Nat.le_of_ble_eq_true rfl⟩) (qpreV hK (hC.row i hi) ((hC.row i hi).obj) rfl) rfl rfl hl.1 rfl (lv_room (Nat.le_of_ble_eq_true rfl)) dX4_takeVoteBack_76 ⟨Nat.zero_le _, Nat.zero_le _⟩) hS (fun q h => h.elim) (fun v76 H locs hp9 hz9 ho9 hS => ?_)
        rw [hr9, (q_at0 (by rw [hr9] at hrl2; simp at hrl2; omega)).2] at hp9
        subst hp9
        have hC := hC.same (fun q => ho9 q (fun h => h))
        refine lv_istore (lv' := [(7, .int x9.2), (6, .int (nI x9.1)), (5, .ref (ad 11 i)), (0, .ref (ad 0 0)), (1, .int (nI i)), (2, .int (nI a)), (3, .int t), (4, .int 0)]) hx hb dX4_takeVoteBack_79 hl (by decide) rfl (fun ls hl => ?_)
        refine lv_aload hx hb dX4_takeVoteBack_81 (lv_at hl 2 rfl) ?_
        refine qr_get (ci := 2) (C := RX2) (T := TX2) (N := 4) hx hb hts hin2 hown hK (hC.vot i hi) rfl 0 (by decide) (hts (.fieldLink RX4 130 "QuorumLock$Voter" "row" "LQuorumLock$Row;") (by decide +kernel)) rfl dX4_takeVoteBack_83 ?_
        refine qc_v (va_runV (As := []) (rest := []) ⟨hx, hb, hml, hown, hts⟩ (c_X1_removeFirst l dd ga (2 * k - 1) (ad 12 i) (ad 13 i) (ad 14 i) x9 r9 (by omega) (by rw [hr9] at hrl2; simp at hrl2; omega) (hL.ne (qd.i (by decide) (by decide) hi) (qd.i (by decide) (by decide) hi) (by omega)) (hL.ne (qd.i (by decide) (by decide) hi) (qd.i (by decide) (by decide) hi) (by omega)) (hL.ne (qd.i (by decide) (by decide) hi) (qd.i (by decide) (by decide) hi) (by omega))) (cwV 0 hts gX4_takeVoteBack_X1_removeFirst rfl rfl rfl (by decide +kernel) ⟨Nat.le_of_ble_eq_true rfl, Nat.le_of_ble_eq_true rfl⟩) (qpreV hK (by have h9 := hC.row i hi; rw [hr9] at h9; exact h9) ((hC.row i hi).obj) rfl) rfl rfl hl.1 rfl (lv_room (Nat.le_of_ble_eq_true rfl)) dX4_takeVoteBack_86 ⟨Nat.zero_le _, Nat.zero_le _⟩) hS (fun q h => qA.row hi h) (fun H locs hp9 hz9 ho9 hS => ?_)
        have hC := hC.putRow (σ' := s_rw (s_tb (s_ln (σ) i none) 6 i 0) i r9) hL hi ho9 (by simpa [s_rw, va_up] using hp9) rfl rfl (fun j h => va_up_ne _ _ h) rfl
        refine lv_aload_n hx hb dX4_takeVoteBack_89 rfl (lv_at hl 3 rfl) ?_
        refine lv_iload_n hx hb dX4_takeVoteBack_90 rfl (lv_at hl 4 rfl) ?_
        refine lv_iload hx hb dX4_takeVoteBack_91 (lv_at hl 1 rfl) ?_
        refine lv_iload hx hb dX4_takeVoteBack_93 (lv_at hl 0 rfl) ?_
        refine qc_v (va_runV (As := [.int (nI i), .int (nI x9.1), .int x9.2]) (rest := []) ⟨hx, hb, hml, hown, hts⟩ (c_X4_lend l dd ga n k ad (s_rw (s_tb (s_ln (σ) i none) 6 i 0) i r9) hsq hL i x9.1 hi hx9 x9.2 (by have h9 := hcw i x9.1 hi hx9; show (σ.2.2.2.1 i x9.1).length < 8; omega)) (cwV 3 hts gX4_takeVoteBack_X4_lend rfl rfl rfl (by decide +kernel) ⟨Nat.le_of_ble_eq_true rfl, Nat.le_of_ble_eq_true rfl⟩) (qpreV hK hC hC.self rfl) rfl rfl hl.1 rfl (lv_room (Nat.le_of_ble_eq_true rfl)) dX4_takeVoteBack_95 ⟨Nat.zero_le _, Nat.zero_le _⟩) hS (fun q h => h) (fun H locs hp9 hz9 ho9 hS => ?_)
        have hfin : qC dd ga n k ad (q_home σ i a t false) H := by rw [ehm, q_next, hr9]; exact hp9
        exact q_vret hx hb hr hlocks hS hfin dX4_takeVoteBack_98
    · have hfin : qC dd ga n k ad (q_home σ i a t false) s.heap := by rw [q_home_no (fun h => c_23 (by rw [h]; rfl))]; exact hC
      exact q_vret hx hb hr hlocks hS hfin dX4_takeVoteBack_26
set_option maxHeartbeats 4000000 in
set_option maxRecDepth 100000 in
/-- X4_takeVoteBack -/
theorem c_X4_takeVoteBack1 (l : Launch) (dd : va_G) (ga : Nat → ClassId) (n k : Nat) (ad : Nat → Nat → Nat) (σ : qSt) (hsq : qSq n k) (hL : qL n ad) (i a : Nat) (hi : i < n) (ha : a < n) (t : Int32) (hcap : qCap n k σ) : Met l yX4_takeVoteBack wsX4_takeVoteBack ({ frames := 4, cells := 0, slots := 0, locals := 96 }) (qPc dd ga [.ref (ad 0 0), .int (nI i), .int (nI a), .int t, .int 1] (fun H => qC dd ga n k ad σ H)) (qQv (fun H => qC dd ga n k ad (q_home σ i a t true) H) (qA n ad)) 0 0 (qA n ad) := by
  refine Met.ofW (cc := cX4_takeVoteBack) (maxL := 8) (ret := none) (by decide) rfl ?_
  intro p e s m args below meth c s₁ B hml hv
  obtain ⟨rfl, hC, hK⟩ := hv
  have hx := B.exec
  have hb := B.bytes
  have hr := B.returns
  have hts := atoms_spec (ws := wsX4_takeVoteBack) B.pre
  have hown : s.vm.findClass RX4 = some m.cls := findClass_of_methodNamed B.named
  have hlocks := B.notSynchronized
  have hS : qS (qA n ad) s.heap s.heap [] := qS.rf
  have hl := lv_entry ([.ref (ad 0 0), .int (nI i), .int (nI a), .int t, .int 1]) (n := 8) (Nat.le_of_ble_eq_true rfl)
  rw [lg_entry_eq]
  generalize (lg_sl ([.ref (ad 0 0), .int (nI i), .int (nI a), .int t, .int 1]) ++ List.replicate (8 - (lg_sl ([.ref (ad 0 0), .int (nI i), .int (nI a), .int t, .int 1])).length) Slot.unset).toArray = ls at hl ⊢
  have hin1 : ∀ w ∈ wsX10, w ∈ wsX4_takeVoteBack := by decide +kernel
  have hin2 : ∀ w ∈ wsX20, w ∈ wsX4_takeVoteBack := by decide +kernel
  have hin4 : ∀ w ∈ wsX40, w ∈ wsX4_takeVoteBack := by decide +kernel
  have hn1 := hsq.n.1
  have hn16 := hsq.n.2
  obtain ⟨hcw, hcr, hcx, hcl, hci⟩ := id hcap
  have hk4 := hsq.2.2
  have hrl := hcr i hi
  have hr31 : ∀ x ∈ σ.2.2.1 i, x.1 < 2 ^ 31 := fun x hx => by have := hcx i hi x hx; omega
  refine lv_aload_n hx hb dX4_takeVoteBack_0 rfl (lv_at hl 0 rfl) ?_
  refine qr_get (ci := 4) (C := RX4) (T := TX4) (N := 7) hx hb hts hin4 hown hK hC.self rfl 4 (by decide) (hts (.fieldLink RX4 37 "QuorumLock" "voters" "[LQuorumLock$Voter;") (by decide +kernel)) rfl dX4_takeVoteBack_1 ?_
  refine lv_iload_n hx hb dX4_takeVoteBack_4 rfl (lv_at hl 1 rfl) ?_
  refine qr_aald (v := ad 11 i) hx hb hK 3 hC.arV rfl i (by omega) (by omega) rfl rfl dX4_takeVoteBack_5 ?_
  refine lv_astore (lv' := [(5, .ref (ad 11 i)), (0, .ref (ad 0 0)), (1, .int (nI i)), (2, .int (nI a)), (3, .int t), (4, .int 1)]) hx hb dX4_takeVoteBack_6 hl (by decide) rfl (fun ls hl => ?_)
  refine lv_aload hx hb dX4_takeVoteBack_8 (lv_at hl 0 rfl) ?_
  refine qr_get (ci := 2) (C := RX2) (T := TX2) (N := 4) hx hb hts hin2 hown hK (hC.vot i hi) rfl 1 (by decide) (hts (.fieldLink RX4 103 "QuorumLock$Voter" "lentTo" "I") (by decide +kernel)) rfl dX4_takeVoteBack_10 ?_
  refine lv_iload_n hx hb dX4_takeVoteBack_13 rfl (lv_at hl 3 rfl) ?_
  refine lv_icmp_ne (tgt := 26) hx hb dX4_takeVoteBack_14 (by decide) (fun c_14 => ?_) (fun c_14 => ?_)
  · have hfin : qC dd ga n k ad (q_home σ i a t true) s.heap := by rw [q_home_no (fun h => c_14 (by rw [h]; rfl))]; exact hC
    exact q_vret hx hb hr hlocks hS hfin dX4_takeVoteBack_26
  · refine lv_aload hx hb dX4_takeVoteBack_17 (lv_at hl 0 rfl) ?_
    refine qr_get (ci := 2) (C := RX2) (T := TX2) (N := 4) hx hb hts hin2 hown hK (hC.vot i hi) rfl 2 (by decide) (hts (.fieldLink RX4 201 "QuorumLock$Voter" "lentTime" "I") (by decide +kernel)) rfl dX4_takeVoteBack_19 ?_
    refine lv_iload_n hx hb dX4_takeVoteBack_22 rfl (lv_at hl 4 rfl) ?_
    refine lv_icmp_eq (tgt := 27) hx hb dX4_takeVoteBack_23 (by decide) (fun c_23 => ?_) (fun c_23 => ?_)
    · have hln : σ.2.1 i = some (a, t) := q_ln_eq (by omega) (fun x hx => by have := hcl i hi x hx; omega) c_14 c_23
      refine lv_iload hx hb dX4_takeVoteBack_27 (lv_at hl 5 rfl) ?_
      refine lv_if_eq (tgt := 43) hx hb dX4_takeVoteBack_29 (by decide) (fun c_29 => absurd c_29 (by decide)) (fun c_29 => ?_)
      refine lv_aload hx hb dX4_takeVoteBack_32 (lv_at hl 0 rfl) ?_
      refine qr_get (ci := 2) (C := RX2) (T := TX2) (N := 4) hx hb hts hin2 hown hK (hC.vot i hi) rfl 0 (by decide) (hts (.fieldLink RX4 130 "QuorumLock$Voter" "row" "LQuorumLock$Row;") (by decide +kernel)) rfl dX4_takeVoteBack_34 ?_
      refine lv_iload_n hx hb dX4_takeVoteBack_37 rfl (lv_at hl 3 rfl) ?_
      refine lv_iload_n hx hb dX4_takeVoteBack_38 rfl (lv_at hl 4 rfl) ?_
      refine qc_i (va_runV (As := [.int (nI a), .int t]) (rest := []) ⟨hx, hb, hml, hown, hts⟩ (c_X1_insert l dd ga (2 * k - 1) (ad 12 i) (ad 13 i) (ad 14 i) (σ.2.2.1 i) (by omega) (by omega) (hL.ne (qd.i (by decide) (by decide) hi) (qd.i (by decide) (by decide) hi) (by omega)) (hL.ne (qd.i (by decide) (by decide) hi) (qd.i (by decide) (by decide) hi) (by omega)) (hL.ne (qd.i (by decide) (by decide) hi) (qd.i (by decide) (by decide) hi) (by omega)) a t (by omega) hr31) (cwV 2 hts gX4_takeVoteBack_X1_insert rfl rfl rfl (by decide +kernel) ⟨Nat.le_of_ble_eq_true rfl, Nat.le_of_ble_eq_true rfl⟩) (qpreV hK (hC.row i hi) ((hC.row i hi).obj) rfl) rfl rfl hl.1 rfl (lv_room (Nat.le_of_ble_eq_true rfl)) dX4_takeVoteBack_39 ⟨Nat.zero_le _, Nat.zero_le _⟩) hS (fun q h => qA.row hi h) (fun v39 H locs hp9 hz9 ho9 hS => ?_)
      have hC := hC.putRow (σ' := s_rw σ i (q_ins (σ.2.2.1 i) a t)) hL hi ho9 (by simpa [s_rw, va_up] using hp9.2) rfl rfl (fun j h => va_up_ne _ _ h) rfl
      refine lv_pop hx hb dX4_takeVoteBack_42 rfl ?_
      refine lv_aload hx hb dX4_takeVoteBack_43 (lv_at hl 0 rfl) ?_
      refine qc_v (va_runV (As := []) (rest := []) ⟨hx, hb, hml, hown, hts⟩ (c_X2_takeHome l dd ga (ad 11 i) (ad 12 i) (q_on (σ.2.1 i)) (q_ot (σ.2.1 i)) (σ.1 6 i)) (cwV 0 hts gX4_takeVoteBack_X2_takeHome rfl rfl rfl (by decide +kernel) ⟨Nat.le_of_ble_eq_true rfl, Nat.le_of_ble_eq_true rfl⟩) (qpreV hK (hC.vot i hi) (hC.vot i hi) rfl) rfl rfl hl.1 rfl (lv_room (Nat.le_of_ble_eq_true rfl)) dX4_takeVoteBack_45 ⟨Nat.zero_le _, Nat.zero_le _⟩) hS (fun q h => qA.at (by decide) (by decide) hi h) (fun H locs hp9 hz9 ho9 hS => ?_)
      have hC := hC.putVot (σ' := s_tb (s_ln (s_rw σ i (q_ins (σ.2.2.1 i) a t)) i none) 6 i 0) hL hi ho9 (by simpa [qVot, s_tb, s_ln, q2, va_up, q_on, q_ot] using hp9) (fun f j h => q2_n h) (fun j h => va_up_ne _ _ h) rfl
      have ehm : q_home σ i a t true = q_next (s_tb (s_ln (s_rw σ i (q_ins (σ.2.2.1 i) a t)) i none) 6 i 0) i := by rw [q_home, if_pos hln]; rfl
      have hrl2 : ((s_tb (s_ln (s_rw σ i (q_ins (σ.2.2.1 i) a t)) i none) 6 i 0).2.2.1 i).length ≤ 2 * k - 1 := by show (va_up σ.2.2.1 i (q_ins (σ.2.2.1 i) a t) i).length ≤ _; rw [va_up_self, q_ins_len]; omega
      have hrn2 : ∀ x ∈ (s_tb (s_ln (s_rw σ i (q_ins (σ.2.2.1 i) a t)) i none) 6 i 0).2.2.1 i, x.1 < n := fun x hx => by have hx : x ∈ va_up σ.2.2.1 i (q_ins (σ.2.2.1 i) a t) i := hx; rw [va_up_self] at hx; rcases q_ins_mem hx with h | h; (rw [h]; exact ha); exact hcx i hi x h
      refine lv_aload hx hb dX4_takeVoteBack_48 (lv_at hl 0 rfl) ?_
      refine qr_get (ci := 2) (C := RX2) (T := TX2) (N := 4) hx hb hts hin2 hown hK (hC.vot i hi) rfl 0 (by decide) (hts (.fieldLink RX4 130 "QuorumLock$Voter" "row" "LQuorumLock$Row;") (by decide +kernel)) rfl dX4_takeVoteBack_50 ?_
      refine qr_get (ci := 1) (C := RX1) (T := TX1) (N := 3) hx hb hts hin1 hown hK ((hC.row i hi).obj) rfl 2 (by decide) (hts (.fieldLink RX4 134 "QuorumLock$Row" "length" "I") (by decide +kernel)) rfl dX4_takeVoteBack_53 ?_
      refine lv_if_le (tgt := 98) hx hb dX4_takeVoteBack_56 (by decide) (fun c_56 => ?_) (fun c_56 => ?_)
      · have hr9 : (s_tb (s_ln (s_rw σ i (q_ins (σ.2.2.1 i) a t)) i none) 6 i 0).2.2.1 i = [] := List.length_eq_zero_iff.mp (Classical.byContradiction fun h => absurd c_56 (nI_nle (by omega) (by omega)))
        have hfin : qC dd ga n k ad (q_home σ i a t true) H := by rw [ehm, q_next, hr9]; exact hC
        exact q_vret hx hb hr hlocks hS hfin dX4_takeVoteBack_98
      · obtain ⟨x9, r9, hr9⟩ : ∃ x9 r9, (s_tb (s_ln (s_rw σ i (q_ins (σ.2.2.1 i) a t)) i none) 6 i 0).2.2.1 i = x9 :: r9 := by
          cases h : (s_tb (s_ln (s_rw σ i (q_ins (σ.2.2.1 i) a t)) i none) 6 i 0).2.2.1 i with
          | nil => rw [h] at c_56; exact absurd (by decide) c_56
          | cons x r => exact ⟨x, r, rfl⟩
        have hx9 : x9.1 < n := hrn2 x9 (by rw [hr9]; exact List.mem_cons_self)
        refine lv_aload hx hb dX4_takeVoteBack_59 (lv_at hl 0 rfl) ?_
        refine qr_get (ci := 2) (C := RX2) (T := TX2) (N := 4) hx hb hts hin2 hown hK (hC.vot i hi) rfl 0 (by decide) (hts (.fieldLink RX4 130 "QuorumLock$Voter" "row" "LQuorumLock$Row;") (by decide +kernel)) rfl dX4_takeVoteBack_61 ?_
        refine lv_iconst (v := 0) hx hb dX4_takeVoteBack_64 (by decide) ?_
        refine qc_i (va_runV (As := [.int 0]) (rest := []) ⟨hx, hb, hml, hown, hts⟩ (c_X1_nodeAt l dd ga (2 * k - 1) (ad 12 i) (ad 13 i) (ad 14 i) ((s_tb (s_ln (s_rw σ i (q_ins (σ.2.2.1 i) a t)) i none) 6 i 0).2.2.1 i) (by omega) hrl2 0) (cwV 1 hts gX4_takeVoteBack_X1_nodeAt rfl rfl rfl (by decide +kernel) ⟨Nat.le_of_ble_eq_true rfl, Nat.le_of_ble_eq_true rfl⟩) (qpreV hK (hC.row i hi) ((hC.row i hi).obj) rfl) rfl rfl hl.1 rfl (lv_room (Nat.le_of_ble_eq_true rfl)) dX4_takeVoteBack_65 ⟨Nat.zero_le _, Nat.zero_le _⟩) hS (fun q h => h.elim) (fun v65 H locs hp9 hz9 ho9 hS => ?_)
        rw [hr9, (q_at0 (by rw [hr9] at hrl2; simp at hrl2; omega)).1] at hp9
        subst hp9
        have hC := hC.same (fun q => ho9 q (fun h => h))
        refine lv_istore (lv' := [(6, .int (nI x9.1)), (5, .ref (ad 11 i)), (0, .ref (ad 0 0)), (1, .int (nI i)), (2, .int (nI a)), (3, .int t), (4, .int 1)]) hx hb dX4_takeVoteBack_68 hl (by decide) rfl (fun ls hl => ?_)
        refine lv_aload hx hb dX4_takeVoteBack_70 (lv_at hl 1 rfl) ?_
        refine qr_get (ci := 2) (C := RX2) (T := TX2) (N := 4) hx hb hts hin2 hown hK (hC.vot i hi) rfl 0 (by decide) (hts (.fieldLink RX4 130 "QuorumLock$Voter" "row" "LQuorumLock$Row;") (by decide +kernel)) rfl dX4_takeVoteBack_72 ?_
        refine lv_iconst (v := 0) hx hb dX4_takeVoteBack_75 (by decide) ?_
        refine qc_i (va_runV (As := [.int 0]) (rest := []) ⟨hx, hb, hml, hown, hts⟩ (c_X1_timeAt l dd ga (2 * k - 1) (ad 12 i) (ad 13 i) (ad 14 i) ((s_tb (s_ln (s_rw σ i (q_ins (σ.2.2.1 i) a t)) i none) 6 i 0).2.2.1 i) (by omega) hrl2 0) (cwV 1 hts gX4_takeVoteBack_X1_timeAt rfl rfl rfl (by decide +kernel) ⟨Nat.le_of_ble_eq_true rfl, Nat.le_of_ble_eq_true rfl⟩) (qpreV hK (hC.row i hi) ((hC.row i hi).obj) rfl) rfl rfl hl.1 rfl (lv_room (Nat.le_of_ble_eq_true rfl)) dX4_takeVoteBack_76 ⟨Nat.zero_le _, Nat.zero_le _⟩) hS (fun q h => h.elim) (fun v76 H locs hp9 hz9 ho9 hS => ?_)
        rw [hr9, (q_at0 (by rw [hr9] at hrl2; simp at hrl2; omega)).2] at hp9
        subst hp9
        have hC := hC.same (fun q => ho9 q (fun h => h))
        refine lv_istore (lv' := [(7, .int x9.2), (6, .int (nI x9.1)), (5, .ref (ad 11 i)), (0, .ref (ad 0 0)), (1, .int (nI i)), (2, .int (nI a)), (3, .int t), (4, .int 1)]) hx hb dX4_takeVoteBack_79 hl (by decide) rfl (fun ls hl => ?_)
        refine lv_aload hx hb dX4_takeVoteBack_81 (lv_at hl 2 rfl) ?_
        refine qr_get (ci := 2) (C := RX2) (T := TX2) (N := 4) hx hb hts hin2 hown hK (hC.vot i hi) rfl 0 (by decide) (hts (.fieldLink RX4 130 "QuorumLock$Voter" "row" "LQuorumLock$Row;") (by decide +kernel)) rfl dX4_takeVoteBack_83 ?_
        refine qc_v (va_runV (As := []) (rest := []) ⟨hx, hb, hml, hown, hts⟩ (c_X1_removeFirst l dd ga (2 * k - 1) (ad 12 i) (ad 13 i) (ad 14 i) x9 r9 (by omega) (by rw [hr9] at hrl2; simp at hrl2; omega) (hL.ne (qd.i (by decide) (by decide) hi) (qd.i (by decide) (by decide) hi) (by omega)) (hL.ne (qd.i (by decide) (by decide) hi) (qd.i (by decide) (by decide) hi) (by omega)) (hL.ne (qd.i (by decide) (by decide) hi) (qd.i (by decide) (by decide) hi) (by omega))) (cwV 0 hts gX4_takeVoteBack_X1_removeFirst rfl rfl rfl (by decide +kernel) ⟨Nat.le_of_ble_eq_true rfl, Nat.le_of_ble_eq_true rfl⟩) (qpreV hK (by have h9 := hC.row i hi; rw [hr9] at h9; exact h9) ((hC.row i hi).obj) rfl) rfl rfl hl.1 rfl (lv_room (Nat.le_of_ble_eq_true rfl)) dX4_takeVoteBack_86 ⟨Nat.zero_le _, Nat.zero_le _⟩) hS (fun q h => qA.row hi h) (fun H locs hp9 hz9 ho9 hS => ?_)
        have hC := hC.putRow (σ' := s_rw (s_tb (s_ln (s_rw σ i (q_ins (σ.2.2.1 i) a t)) i none) 6 i 0) i r9) hL hi ho9 (by simpa [s_rw, va_up] using hp9) rfl rfl (fun j h => va_up_ne _ _ h) rfl
        refine lv_aload_n hx hb dX4_takeVoteBack_89 rfl (lv_at hl 3 rfl) ?_
        refine lv_iload_n hx hb dX4_takeVoteBack_90 rfl (lv_at hl 4 rfl) ?_
        refine lv_iload hx hb dX4_takeVoteBack_91 (lv_at hl 1 rfl) ?_
        refine lv_iload hx hb dX4_takeVoteBack_93 (lv_at hl 0 rfl) ?_
        refine qc_v (va_runV (As := [.int (nI i), .int (nI x9.1), .int x9.2]) (rest := []) ⟨hx, hb, hml, hown, hts⟩ (c_X4_lend l dd ga n k ad (s_rw (s_tb (s_ln (s_rw σ i (q_ins (σ.2.2.1 i) a t)) i none) 6 i 0) i r9) hsq hL i x9.1 hi hx9 x9.2 (by have h9 := hcw i x9.1 hi hx9; show (σ.2.2.2.1 i x9.1).length < 8; omega)) (cwV 3 hts gX4_takeVoteBack_X4_lend rfl rfl rfl (by decide +kernel) ⟨Nat.le_of_ble_eq_true rfl, Nat.le_of_ble_eq_true rfl⟩) (qpreV hK hC hC.self rfl) rfl rfl hl.1 rfl (lv_room (Nat.le_of_ble_eq_true rfl)) dX4_takeVoteBack_95 ⟨Nat.zero_le _, Nat.zero_le _⟩) hS (fun q h => h) (fun H locs hp9 hz9 ho9 hS => ?_)
        have hfin : qC dd ga n k ad (q_home σ i a t true) H := by rw [ehm, q_next, hr9]; exact hp9
        exact q_vret hx hb hr hlocks hS hfin dX4_takeVoteBack_98
    · have hfin : qC dd ga n k ad (q_home σ i a t true) s.heap := by rw [q_home_no (fun h => c_23 (by rw [h]; rfl))]; exact hC
      exact q_vret hx hb hr hlocks hS hfin dX4_takeVoteBack_26
end
section
/-! the class's public methods -/
def q_requestI (n k : Nat) (σ : qSt) (x : Int32) : Int32 × qSt := if q_node n x = true then q_request n k σ x.toNatClampNeg else (-1, σ)
def q_enterI (n k : Nat) (σ : qSt) (x : Int32) : Int32 × qSt := if q_node n x = true then q_enter n k σ x.toNatClampNeg else (0, σ)
def q_releaseI (n k : Nat) (σ : qSt) (x : Int32) : Int32 × qSt := if q_node n x = true then q_release n k σ x.toNatClampNeg else (-1, σ)
def q_deliverI (n : Nat) (σ : qSt) (x y : Int32) : Int32 × qSt := if q_node n x = true ∧ q_node n y = true then q_deliver n σ x.toNatClampNeg y.toNatClampNeg else (-1, σ)
def q_settleI (n : Nat) (σ : qSt) (x : Int32) : Int32 × qSt := if x < 1 ∨ 500 < x then (-1, σ) else (nI (q_settle n x.toNatClampNeg 0 σ).1, (q_settle n x.toNatClampNeg 0 σ).2)
def q_lockedI (n : Nat) (σ : qSt) (x : Int32) : Int32 := if q_node n x = true then q_on (σ.2.1 x.toNatClampNeg) else -1
def q_waitingI (n : Nat) (σ : qSt) (x y : Int32) : Int32 := if q_node n x = true ∧ q_node n y = true then nI (σ.2.2.2.1 x.toNatClampNeg y.toNatClampNeg).length else -1
def q_lookI (n : Nat) (σ : qSt) (x y m what : Int32) : Int32 := if q_node n x = true ∧ q_node n y = true then q_part (σ.2.2.2.1 x.toNatClampNeg y.toNatClampNeg) m what else -1
def q_told (σ : qSt) (i : Nat) (what : Int32) : Int32 :=
  if what = 0 then σ.1 1 i else if what = 1 then σ.1 0 i else if what = 2 then σ.1 2 i else if what = 3 then σ.1 4 i else if what = 4 then σ.1 5 i else if what = 5 then σ.1 3 i
  else if what = 6 then (if σ.1 6 i = 0 then 0 else 1) else if what = 7 then nI (σ.2.2.1 i).length else -1
def q_toldI (n : Nat) (σ : qSt) (x what : Int32) : Int32 := if q_node n x = true then q_told σ x.toNatClampNeg what else -1
def q_waitsI (n : Nat) (σ : qSt) (x m : Int32) : Int32 := if q_node n x = true then q_at (σ.2.2.1 x.toNatClampNeg) m else -1
theorem q_deliver_nil {n : Nat} {σ : qSt} {f t : Nat} (h : σ.2.2.2.1 f t = []) : q_deliver n σ f t = (0, σ) := by simp [q_deliver, h]
theorem q_deliver_cons {n : Nat} {σ : qSt} {f t : Nat} {x : qM} {w : List qM} (h : σ.2.2.2.1 f t = x :: w) : q_deliver n σ f t = (x.1, q_do n (s_wr (s_tb σ 0 t (q_max (σ.1 0 t) x.2.2 + 1)) f t w) t f x.1 x.2.1) := by simp [q_deliver, h]; rfl
theorem q_part0 {x : qM} {w : List qM} (h : w.length + 1 < 2 ^ 31) : q_part (x :: w) 0 0 = x.1 ∧ q_part (x :: w) 0 1 = x.2.1 ∧ q_part (x :: w) 0 2 = x.2.2 := by
  have h0 : ¬ ((0 : Int32) < 0 ∨ nI (x :: w).length ≤ 0) := by
    rintro (h9 | h9)
    · exact absurd h9 (by decide)
    · exact absurd h9 (nI_nle (by simp) (by simpa using h))
  refine ⟨?_, ?_, ?_⟩ <;> unfold q_part <;> rw [if_neg h0] <;> rfl
set_option maxHeartbeats 4000000 in
set_option maxRecDepth 100000 in
/-- X4_deliverOldest -/
theorem c_X4_deliverOldest (l : Launch) (dd : va_G) (ga : Nat → ClassId) (n k : Nat) (ad : Nat → Nat → Nat) (σ : qSt) (hsq : qSq n k) (hL : qL n ad) (f t : Nat) (hf : f < n) (ht : t < n) (hcap : qCap n k σ) : Met l yX4_deliverOldest wsX4_deliverOldest ({ frames := 5, cells := 0, slots := 0, locals := 123 }) (qPc dd ga [.ref (ad 0 0), .int (nI f), .int (nI t)] (fun H => qC dd ga n k ad σ H)) (qQi (fun v H => v = (q_deliver n σ f t).1 ∧ qC dd ga n k ad (q_deliver n σ f t).2 H) (qA n ad)) 0 0 (qA n ad) := by
  refine Met.ofW (cc := cX4_deliverOldest) (maxL := 5) (ret := (some .int)) (by decide) rfl ?_
  intro p e s m args below meth c s₁ B hml hv
  obtain ⟨rfl, hC, hK⟩ := hv
  have hx := B.exec
  have hb := B.bytes
  have hr := B.returns
  have hts := atoms_spec (ws := wsX4_deliverOldest) B.pre
  have hown : s.vm.findClass RX4 = some m.cls := findClass_of_methodNamed B.named
  have hlocks := B.notSynchronized
  have hS : qS (qA n ad) s.heap s.heap [] := qS.rf
  have hl := lv_entry ([.ref (ad 0 0), .int (nI f), .int (nI t)]) (n := 5) (Nat.le_of_ble_eq_true rfl)
  rw [lg_entry_eq]
  generalize (lg_sl ([.ref (ad 0 0), .int (nI f), .int (nI t)]) ++ List.replicate (5 - (lg_sl ([.ref (ad 0 0), .int (nI f), .int (nI t)])).length) Slot.unset).toArray = ls at hl ⊢
  have hin4 : ∀ w ∈ wsX40, w ∈ wsX4_deliverOldest := by decide +kernel
  have hn1 := hsq.n.1
  have hn16 := hsq.n.2
  rcases hw9 : σ.2.2.2.1 f t with _ | ⟨x9, w9⟩
  · refine lv_aload_n hx hb dX4_deliverOldest_0 rfl (lv_at hl 0 rfl) ?_
    refine qr_get (ci := 4) (C := RX4) (T := TX4) (N := 7) hx hb hts hin4 hown hK hC.self rfl 5 (by decide) (hts (.fieldLink RX4 46 "QuorumLock" "wires" "LQuorumLock$Wires;") (by decide +kernel)) rfl dX4_deliverOldest_1 ?_
    refine lv_iload_n hx hb dX4_deliverOldest_4 rfl (lv_at hl 1 rfl) ?_
    refine lv_iload_n hx hb dX4_deliverOldest_5 rfl (lv_at hl 2 rfl) ?_
    refine qc_i (va_runV (As := [.int (nI f), .int (nI t)]) (rest := []) ⟨hx, hb, hml, hown, hts⟩ (c_X3_count l dd ga n (ad 5 0) (ad 6 0) (ad 7 0) (ad 8 0) (ad 9 0) σ.2.2.2.1 f t hn16 hf ht) (cwV 2 hts gX4_deliverOldest_X3_count rfl rfl rfl (by decide +kernel) ⟨Nat.le_of_ble_eq_true rfl, Nat.le_of_ble_eq_true rfl⟩) (qpreV hK hC.wir hC.wir.obj rfl) rfl rfl hl.1 rfl (lv_room (Nat.le_of_ble_eq_true rfl)) dX4_deliverOldest_6 ⟨Nat.zero_le _, Nat.zero_le _⟩) hS (fun q h => h.elim) (fun v6 H locs hp9 hz9 ho9 hS => ?_)
    rw [hw9] at hp9
    subst hp9
    have hC := hC.same (fun q => ho9 q (fun h => h))
    refine lv_if_ne (tgt := 14) hx hb dX4_deliverOldest_9 (by decide) (fun c_9 => absurd (by rfl) c_9) (fun c_9 => ?_)
    refine lv_iconst (v := 0) hx hb dX4_deliverOldest_12 (by decide) ?_
    exact q_iret hx hb hr hlocks hS (⟨by rw [q_deliver_nil hw9], by rw [q_deliver_nil hw9]; exact hC⟩) dX4_deliverOldest_13
  · have hl6 := hcap.1 f t hf ht
    have hl6 : w9.length + 1 ≤ 6 := by rw [hw9] at hl6; exact hl6
    refine lv_aload_n hx hb dX4_deliverOldest_0 rfl (lv_at hl 0 rfl) ?_
    refine qr_get (ci := 4) (C := RX4) (T := TX4) (N := 7) hx hb hts hin4 hown hK hC.self rfl 5 (by decide) (hts (.fieldLink RX4 46 "QuorumLock" "wires" "LQuorumLock$Wires;") (by decide +kernel)) rfl dX4_deliverOldest_1 ?_
    refine lv_iload_n hx hb dX4_deliverOldest_4 rfl (lv_at hl 1 rfl) ?_
    refine lv_iload_n hx hb dX4_deliverOldest_5 rfl (lv_at hl 2 rfl) ?_
    refine qc_i (va_runV (As := [.int (nI f), .int (nI t)]) (rest := []) ⟨hx, hb, hml, hown, hts⟩ (c_X3_count l dd ga n (ad 5 0) (ad 6 0) (ad 7 0) (ad 8 0) (ad 9 0) σ.2.2.2.1 f t hn16 hf ht) (cwV 2 hts gX4_deliverOldest_X3_count rfl rfl rfl (by decide +kernel) ⟨Nat.le_of_ble_eq_true rfl, Nat.le_of_ble_eq_true rfl⟩) (qpreV hK hC.wir hC.wir.obj rfl) rfl rfl hl.1 rfl (lv_room (Nat.le_of_ble_eq_true rfl)) dX4_deliverOldest_6 ⟨Nat.zero_le _, Nat.zero_le _⟩) hS (fun q h => h.elim) (fun v6 H locs hp9 hz9 ho9 hS => ?_)
    rw [hw9] at hp9
    subst hp9
    have hC := hC.same (fun q => ho9 q (fun h => h))
    refine lv_if_ne (tgt := 14) hx hb dX4_deliverOldest_9 (by decide) (fun c_9 => ?_) (fun c_9 => absurd c_9 (nI_ne0 (by simp) (by simp; omega)))
    refine lv_aload_n hx hb dX4_deliverOldest_14 rfl (lv_at hl 0 rfl) ?_
    refine qr_get (ci := 4) (C := RX4) (T := TX4) (N := 7) hx hb hts hin4 hown hK hC.self rfl 5 (by decide) (hts (.fieldLink RX4 46 "QuorumLock" "wires" "LQuorumLock$Wires;") (by decide +kernel)) rfl dX4_deliverOldest_15 ?_
    refine lv_iload_n hx hb dX4_deliverOldest_18 rfl (lv_at hl 1 rfl) ?_
    refine lv_iload_n hx hb dX4_deliverOldest_19 rfl (lv_at hl 2 rfl) ?_
    refine lv_iconst (v := 0) hx hb dX4_deliverOldest_20 (by decide) ?_
    refine lv_iconst (v := 0) hx hb dX4_deliverOldest_21 (by decide) ?_
    refine qc_i (va_runV (As := [.int (nI f), .int (nI t), .int 0, .int 0]) (rest := []) ⟨hx, hb, hml, hown, hts⟩ (c_X3_part l dd ga n (ad 5 0) (ad 6 0) (ad 7 0) (ad 8 0) (ad 9 0) σ.2.2.2.1 f t hn16 hf ht 0 0) (cwV 4 hts gX4_deliverOldest_X3_part rfl rfl rfl (by decide +kernel) ⟨Nat.le_of_ble_eq_true rfl, Nat.le_of_ble_eq_true rfl⟩) (qpreV hK hC.wir hC.wir.obj rfl) rfl rfl hl.1 rfl (lv_room (Nat.le_of_ble_eq_true rfl)) dX4_deliverOldest_22 ⟨Nat.zero_le _, Nat.zero_le _⟩) hS (fun q h => h.elim) (fun v22 H locs hp9 hz9 ho9 hS => ?_)
    rw [hw9, (q_part0 (by omega)).1] at hp9
    subst hp9
    have hC := hC.same (fun q => ho9 q (fun h => h))
    refine lv_istore_n (lv' := [(3, .int x9.1), (0, .ref (ad 0 0)), (1, .int (nI f)), (2, .int (nI t))]) hx hb dX4_deliverOldest_25 rfl hl (by decide) rfl (fun ls hl => ?_)
    refine lv_aload_n hx hb dX4_deliverOldest_26 rfl (lv_at hl 1 rfl) ?_
    refine qr_get (ci := 4) (C := RX4) (T := TX4) (N := 7) hx hb hts hin4 hown hK hC.self rfl 5 (by decide) (hts (.fieldLink RX4 46 "QuorumLock" "wires" "LQuorumLock$Wires;") (by decide +kernel)) rfl dX4_deliverOldest_27 ?_
    refine lv_iload_n hx hb dX4_deliverOldest_30 rfl (lv_at hl 2 rfl) ?_
    refine lv_iload_n hx hb dX4_deliverOldest_31 rfl (lv_at hl 3 rfl) ?_
    refine lv_iconst (v := 0) hx hb dX4_deliverOldest_32 (by decide) ?_
    refine lv_iconst (v := 1) hx hb dX4_deliverOldest_33 (by decide) ?_
    refine qc_i (va_runV (As := [.int (nI f), .int (nI t), .int 0, .int 1]) (rest := []) ⟨hx, hb, hml, hown, hts⟩ (c_X3_part l dd ga n (ad 5 0) (ad 6 0) (ad 7 0) (ad 8 0) (ad 9 0) σ.2.2.2.1 f t hn16 hf ht 0 1) (cwV 4 hts gX4_deliverOldest_X3_part rfl rfl rfl (by decide +kernel) ⟨Nat.le_of_ble_eq_true rfl, Nat.le_of_ble_eq_true rfl⟩) (qpreV hK hC.wir hC.wir.obj rfl) rfl rfl hl.1 rfl (lv_room (Nat.le_of_ble_eq_true rfl)) dX4_deliverOldest_34 ⟨Nat.zero_le _, Nat.zero_le _⟩) hS (fun q h => h.elim) (fun v34 H locs hp9 hz9 ho9 hS => ?_)
    rw [hw9, (q_part0 (by omega)).2.1] at hp9
    subst hp9
    have hC := hC.same (fun q => ho9 q (fun h => h))
    refine lv_istore (lv' := [(4, .int x9.2.1), (3, .int x9.1), (0, .ref (ad 0 0)), (1, .int (nI f)), (2, .int (nI t))]) hx hb dX4_deliverOldest_37 hl (by decide) rfl (fun ls hl => ?_)
    refine lv_aload_n hx hb dX4_deliverOldest_39 rfl (lv_at hl 2 rfl) ?_
    refine qr_get (ci := 4) (C := RX4) (T := TX4) (N := 7) hx hb hts hin4 hown hK hC.self rfl 2 (by decide) (hts (.fieldLink RX4 26 "QuorumLock" "clocks" "[I") (by decide +kernel)) rfl dX4_deliverOldest_40 ?_
    refine lv_iload_n hx hb dX4_deliverOldest_43 rfl (lv_at hl 4 rfl) ?_
    refine lv_aload_n hx hb dX4_deliverOldest_44 rfl (lv_at hl 2 rfl) ?_
    refine qr_get (ci := 4) (C := RX4) (T := TX4) (N := 7) hx hb hts hin4 hown hK hC.self rfl 2 (by decide) (hts (.fieldLink RX4 26 "QuorumLock" "clocks" "[I") (by decide +kernel)) rfl dX4_deliverOldest_45 ?_
    refine lv_iload_n hx hb dX4_deliverOldest_48 rfl (lv_at hl 4 rfl) ?_
    refine qr_iald (v := (σ.1 0 t)) hx hb hK hC.clk t (by omega) (by omega) rfl rfl dX4_deliverOldest_49 ?_
    refine lv_aload_n hx hb dX4_deliverOldest_50 rfl (lv_at hl 2 rfl) ?_
    refine qr_get (ci := 4) (C := RX4) (T := TX4) (N := 7) hx hb hts hin4 hown hK hC.self rfl 5 (by decide) (hts (.fieldLink RX4 46 "QuorumLock" "wires" "LQuorumLock$Wires;") (by decide +kernel)) rfl dX4_deliverOldest_51 ?_
    refine lv_iload_n hx hb dX4_deliverOldest_54 rfl (lv_at hl 3 rfl) ?_
    refine lv_iload_n hx hb dX4_deliverOldest_55 rfl (lv_at hl 4 rfl) ?_
    refine lv_iconst (v := 0) hx hb dX4_deliverOldest_56 (by decide) ?_
    refine lv_iconst (v := 2) hx hb dX4_deliverOldest_57 (by decide) ?_
    refine qc_i (va_runV (As := [.int (nI f), .int (nI t), .int 0, .int 2]) (rest := [.int (σ.1 0 t), .int (nI t), .ref (ad 2 0)]) ⟨hx, hb, hml, hown, hts⟩ (c_X3_part l dd ga n (ad 5 0) (ad 6 0) (ad 7 0) (ad 8 0) (ad 9 0) σ.2.2.2.1 f t hn16 hf ht 0 2) (cwV 4 hts gX4_deliverOldest_X3_part rfl rfl rfl (by decide +kernel) ⟨Nat.le_of_ble_eq_true rfl, Nat.le_of_ble_eq_true rfl⟩) (qpreV hK hC.wir hC.wir.obj rfl) rfl rfl hl.1 rfl (lv_room (Nat.le_of_ble_eq_true rfl)) dX4_deliverOldest_58 ⟨Nat.zero_le _, Nat.zero_le _⟩) hS (fun q h => h.elim) (fun v58 H locs hp9 hz9 ho9 hS => ?_)
    rw [hw9, (q_part0 (by omega)).2.2] at hp9
    subst hp9
    have hC := hC.same (fun q => ho9 q (fun h => h))
    refine va_mmax (x := (σ.1 0 t)) (y := x9.2.2) hx hb (by rw [hml]; exact hl.1.symm) hown (hts (.methodLink RX4 7 Lib.Math.max.name) (by decide +kernel)) (hts (.static Lib.Math.max.name) (by decide +kernel)) (hts (.initialized "java/lang/Math") (by decide +kernel)) (hts (.code Lib.Math.max.name Lib.Math.max.code 2 (some .int)) (by decide +kernel)) (Nat.le_of_ble_eq_true rfl) (Nat.le_of_ble_eq_true rfl) (Nat.zero_le _) (Nat.zero_le _) dX4_deliverOldest_61 ?_
    refine q_ti (y := q_max (σ.1 0 t) x9.2.2) (rfl) ?_
    refine lv_iconst (v := 1) hx hb dX4_deliverOldest_64 (by decide) ?_
    refine lv_iadd hx hb dX4_deliverOldest_65 ?_
    refine qr_iast hx hb hK hC.clk hS (⟨2, 0, qd.z (by decide), rfl⟩) t (by omega) (by omega) rfl dX4_deliverOldest_66 (fun H locs hz9 ho9 hat9 hS => ?_)
    have hC := hC.putClk (σ' := s_tb σ 0 t (q_max (σ.1 0 t) x9.2.2 + 1)) hL ho9 (by have h9 : ((s_tb σ 0 t (q_max (σ.1 0 t) x9.2.2 + 1)).1 0) = upd (σ.1 0) t (q_max (σ.1 0 t) x9.2.2 + 1) := (by funext j; by_cases h : j = t <;> simp [s_tb, q2, upd, h]); rw [h9]; exact hat9) (fun f j h => q2_n (by omega)) rfl
    refine lv_aload_n hx hb dX4_deliverOldest_67 rfl (lv_at hl 2 rfl) ?_
    refine qr_get (ci := 4) (C := RX4) (T := TX4) (N := 7) hx hb hts hin4 hown hK hC.self rfl 5 (by decide) (hts (.fieldLink RX4 46 "QuorumLock" "wires" "LQuorumLock$Wires;") (by decide +kernel)) rfl dX4_deliverOldest_68 ?_
    refine lv_iload_n hx hb dX4_deliverOldest_71 rfl (lv_at hl 3 rfl) ?_
    refine lv_iload_n hx hb dX4_deliverOldest_72 rfl (lv_at hl 4 rfl) ?_
    refine qc_v (va_runV (As := [.int (nI f), .int (nI t)]) (rest := []) ⟨hx, hb, hml, hown, hts⟩ (c_X3_dropOldest l dd ga n (ad 5 0) (ad 6 0) (ad 7 0) (ad 8 0) (ad 9 0) (hL.ne (qd.z (by decide)) (qd.z (by decide)) (by decide)) (hL.ne (qd.z (by decide)) (qd.z (by decide)) (by decide)) (hL.ne (qd.z (by decide)) (qd.z (by decide)) (by decide)) (hL.ne (qd.z (by decide)) (qd.z (by decide)) (by decide)) (hL.ne (qd.z (by decide)) (qd.z (by decide)) (by decide)) (hL.ne (qd.z (by decide)) (qd.z (by decide)) (by decide)) (hL.ne (qd.z (by decide)) (qd.z (by decide)) (by decide)) (hL.ne (qd.z (by decide)) (qd.z (by decide)) (by decide)) (hL.ne (qd.z (by decide)) (qd.z (by decide)) (by decide)) (hL.ne (qd.z (by decide)) (qd.z (by decide)) (by decide)) (s_tb σ 0 t (q_max (σ.1 0 t) x9.2.2 + 1)).2.2.2.1 f t hn16 hf ht x9 w9 hw9) (cwV 2 hts gX4_deliverOldest_X3_dropOldest rfl rfl rfl (by decide +kernel) ⟨Nat.le_of_ble_eq_true rfl, Nat.le_of_ble_eq_true rfl⟩) (qpreV hK hC.wir hC.wir.obj rfl) rfl rfl hl.1 rfl (lv_room (Nat.le_of_ble_eq_true rfl)) dX4_deliverOldest_73 ⟨Nat.zero_le _, Nat.zero_le _⟩) hS (fun q h => qA.wir h) (fun H locs hp9 hz9 ho9 hS => ?_)
    have hC := hC.putWir (σ' := s_wr (s_tb σ 0 t (q_max (σ.1 0 t) x9.2.2 + 1)) f t w9) hL ho9 hp9 rfl rfl rfl rfl
    have hcap2 := hcap.pop hw9 (q_max (σ.1 0 t) x9.2.2 + 1)
    refine lv_iload_n hx hb dX4_deliverOldest_76 rfl (lv_at hl 1 rfl) ?_
    by_cases hk1 : x9.1 = 1
    · refine q_ti (y := 1) hk1 ?_
      refine lv_tableIn (tgt := 112) hx hb dX4_deliverOldest_77 (by decide) (by decide) rfl (by decide) ?_
      refine lv_aload_n hx hb dX4_deliverOldest_112 rfl (lv_at hl 2 rfl) ?_
      refine lv_iload_n hx hb dX4_deliverOldest_113 rfl (lv_at hl 4 rfl) ?_
      refine lv_iload_n hx hb dX4_deliverOldest_114 rfl (lv_at hl 3 rfl) ?_
      refine lv_iload hx hb dX4_deliverOldest_115 (lv_at hl 0 rfl) ?_
      refine qc_v (va_runV (As := [.int (nI t), .int (nI f), .int x9.2.1]) (rest := []) ⟨hx, hb, hml, hown, hts⟩ (c_X4_weighRequest l dd ga n k ad (s_wr (s_tb σ 0 t (q_max (σ.1 0 t) x9.2.2 + 1)) f t w9) hsq hL t f ht hf x9.2.1 hcap2) (cwV 3 hts gX4_deliverOldest_X4_weighRequest rfl rfl rfl (by decide +kernel) ⟨Nat.le_of_ble_eq_true rfl, Nat.le_of_ble_eq_true rfl⟩) (qpreV hK hC hC.self rfl) rfl rfl hl.1 rfl (lv_room (Nat.le_of_ble_eq_true rfl)) dX4_deliverOldest_117 ⟨Nat.zero_le _, Nat.zero_le _⟩) hS (fun q h => h) (fun H locs hp9 hz9 ho9 hS => ?_)
      have hfin : qC dd ga n k ad (q_deliver n σ f t).2 H := by rw [q_deliver_cons hw9]; simp only [q_do, if_pos hk1]; exact hp9
      refine lv_goto (tgt := 177) hx hb dX4_deliverOldest_120 (by decide) ?_
      refine lv_iload_n hx hb dX4_deliverOldest_177 rfl (lv_at hl 1 rfl) ?_
      exact q_iret hx hb hr hlocks hS (⟨by rw [q_deliver_cons hw9], hfin⟩) dX4_deliverOldest_178
    · by_cases hk2 : x9.1 = 2
      · refine q_ti (y := 2) hk2 ?_
        refine lv_tableIn (tgt := 123) hx hb dX4_deliverOldest_77 (by decide) (by decide) rfl (by decide) ?_
        refine lv_aload_n hx hb dX4_deliverOldest_123 rfl (lv_at hl 2 rfl) ?_
        refine lv_iload_n hx hb dX4_deliverOldest_124 rfl (lv_at hl 4 rfl) ?_
        refine lv_iload_n hx hb dX4_deliverOldest_125 rfl (lv_at hl 3 rfl) ?_
        refine lv_iload hx hb dX4_deliverOldest_126 (lv_at hl 0 rfl) ?_
        refine qc_v (va_runV (As := [.int (nI t), .int (nI f), .int x9.2.1]) (rest := []) ⟨hx, hb, hml, hown, hts⟩ (c_X4_hearLocked l dd ga n k ad (s_wr (s_tb σ 0 t (q_max (σ.1 0 t) x9.2.2 + 1)) f t w9) hsq hL t f ht hf x9.2.1) (cwV 3 hts gX4_deliverOldest_X4_hearLocked rfl rfl rfl (by decide +kernel) ⟨Nat.le_of_ble_eq_true rfl, Nat.le_of_ble_eq_true rfl⟩) (qpreV hK hC hC.self rfl) rfl rfl hl.1 rfl (lv_room (Nat.le_of_ble_eq_true rfl)) dX4_deliverOldest_128 ⟨Nat.zero_le _, Nat.zero_le _⟩) hS (fun q h => h) (fun H locs hp9 hz9 ho9 hS => ?_)
        have hfin : qC dd ga n k ad (q_deliver n σ f t).2 H := by rw [q_deliver_cons hw9]; simp only [q_do, if_neg hk1, if_pos hk2]; exact hp9
        refine lv_goto (tgt := 177) hx hb dX4_deliverOldest_131 (by decide) ?_
        refine lv_iload_n hx hb dX4_deliverOldest_177 rfl (lv_at hl 1 rfl) ?_
        exact q_iret hx hb hr hlocks hS (⟨by rw [q_deliver_cons hw9], hfin⟩) dX4_deliverOldest_178
      · by_cases hk3 : x9.1 = 3
        · refine q_ti (y := 3) hk3 ?_
          refine lv_tableIn (tgt := 134) hx hb dX4_deliverOldest_77 (by decide) (by decide) rfl (by decide) ?_
          refine lv_aload_n hx hb dX4_deliverOldest_134 rfl (lv_at hl 2 rfl) ?_
          refine lv_iload_n hx hb dX4_deliverOldest_135 rfl (lv_at hl 4 rfl) ?_
          refine lv_iload_n hx hb dX4_deliverOldest_136 rfl (lv_at hl 3 rfl) ?_
          refine lv_iload hx hb dX4_deliverOldest_137 (lv_at hl 0 rfl) ?_
          refine lv_iconst (v := 0) hx hb dX4_deliverOldest_139 (by decide) ?_
          refine qc_v (va_runV (As := [.int (nI t), .int (nI f), .int x9.2.1, .int 0]) (rest := []) ⟨hx, hb, hml, hown, hts⟩ (c_X4_takeVoteBack0 l dd ga n k ad (s_wr (s_tb σ 0 t (q_max (σ.1 0 t) x9.2.2 + 1)) f t w9) hsq hL t f ht hf x9.2.1 hcap2) (cwV 4 hts gX4_deliverOldest_X4_takeVoteBack rfl rfl rfl (by decide +kernel) ⟨Nat.le_of_ble_eq_true rfl, Nat.le_of_ble_eq_true rfl⟩) (qpreV hK hC hC.self rfl) rfl rfl hl.1 rfl (lv_room (Nat.le_of_ble_eq_true rfl)) dX4_deliverOldest_140 ⟨Nat.zero_le _, Nat.zero_le _⟩) hS (fun q h => h) (fun H locs hp9 hz9 ho9 hS => ?_)
          have hfin : qC dd ga n k ad (q_deliver n σ f t).2 H := by rw [q_deliver_cons hw9]; simp only [q_do, if_neg hk1, if_neg hk2, if_pos hk3]; exact hp9
          refine lv_goto (tgt := 177) hx hb dX4_deliverOldest_143 (by decide) ?_
          refine lv_iload_n hx hb dX4_deliverOldest_177 rfl (lv_at hl 1 rfl) ?_
          exact q_iret hx hb hr hlocks hS (⟨by rw [q_deliver_cons hw9], hfin⟩) dX4_deliverOldest_178
        · by_cases hk4 : x9.1 = 4
          · refine q_ti (y := 4) hk4 ?_
            refine lv_tableIn (tgt := 146) hx hb dX4_deliverOldest_77 (by decide) (by decide) rfl (by decide) ?_
            refine lv_aload_n hx hb dX4_deliverOldest_146 rfl (lv_at hl 2 rfl) ?_
            refine lv_iload_n hx hb dX4_deliverOldest_147 rfl (lv_at hl 4 rfl) ?_
            refine lv_iload_n hx hb dX4_deliverOldest_148 rfl (lv_at hl 3 rfl) ?_
            refine lv_iload hx hb dX4_deliverOldest_149 (lv_at hl 0 rfl) ?_
            refine qc_v (va_runV (As := [.int (nI t), .int (nI f), .int x9.2.1]) (rest := []) ⟨hx, hb, hml, hown, hts⟩ (c_X4_hearInquire l dd ga n k ad (s_wr (s_tb σ 0 t (q_max (σ.1 0 t) x9.2.2 + 1)) f t w9) hsq hL t f ht hf x9.2.1 (by have h9 := hcap2.1 t f ht hf; omega)) (cwV 3 hts gX4_deliverOldest_X4_hearInquire rfl rfl rfl (by decide +kernel) ⟨Nat.le_of_ble_eq_true rfl, Nat.le_of_ble_eq_true rfl⟩) (qpreV hK hC hC.self rfl) rfl rfl hl.1 rfl (lv_room (Nat.le_of_ble_eq_true rfl)) dX4_deliverOldest_151 ⟨Nat.zero_le _, Nat.zero_le _⟩) hS (fun q h => h) (fun H locs hp9 hz9 ho9 hS => ?_)
            have hfin : qC dd ga n k ad (q_deliver n σ f t).2 H := by rw [q_deliver_cons hw9]; simp only [q_do, if_neg hk1, if_neg hk2, if_neg hk3, if_pos hk4]; exact hp9
            refine lv_goto (tgt := 177) hx hb dX4_deliverOldest_154 (by decide) ?_
            refine lv_iload_n hx hb dX4_deliverOldest_177 rfl (lv_at hl 1 rfl) ?_
            exact q_iret hx hb hr hlocks hS (⟨by rw [q_deliver_cons hw9], hfin⟩) dX4_deliverOldest_178
          · by_cases hk5 : x9.1 = 5
            · refine q_ti (y := 5) hk5 ?_
              refine lv_tableIn (tgt := 157) hx hb dX4_deliverOldest_77 (by decide) (by decide) rfl (by decide) ?_
              refine lv_aload_n hx hb dX4_deliverOldest_157 rfl (lv_at hl 2 rfl) ?_
              refine lv_iload_n hx hb dX4_deliverOldest_158 rfl (lv_at hl 4 rfl) ?_
              refine lv_iload_n hx hb dX4_deliverOldest_159 rfl (lv_at hl 3 rfl) ?_
              refine lv_iload hx hb dX4_deliverOldest_160 (lv_at hl 0 rfl) ?_
              refine lv_iconst (v := 1) hx hb dX4_deliverOldest_162 (by decide) ?_
              refine qc_v (va_runV (As := [.int (nI t), .int (nI f), .int x9.2.1, .int 1]) (rest := []) ⟨hx, hb, hml, hown, hts⟩ (c_X4_takeVoteBack1 l dd ga n k ad (s_wr (s_tb σ 0 t (q_max (σ.1 0 t) x9.2.2 + 1)) f t w9) hsq hL t f ht hf x9.2.1 hcap2) (cwV 4 hts gX4_deliverOldest_X4_takeVoteBack rfl rfl rfl (by decide +kernel) ⟨Nat.le_of_ble_eq_true rfl, Nat.le_of_ble_eq_true rfl⟩) (qpreV hK hC hC.self rfl) rfl rfl hl.1 rfl (lv_room (Nat.le_of_ble_eq_true rfl)) dX4_deliverOldest_163 ⟨Nat.zero_le _, Nat.zero_le _⟩) hS (fun q h => h) (fun H locs hp9 hz9 ho9 hS => ?_)
              have hfin : qC dd ga n k ad (q_deliver n σ f t).2 H := by rw [q_deliver_cons hw9]; simp only [q_do, if_neg hk1, if_neg hk2, if_neg hk3, if_neg hk4, if_pos hk5]; exact hp9
              refine lv_goto (tgt := 177) hx hb dX4_deliverOldest_166 (by decide) ?_
              refine lv_iload_n hx hb dX4_deliverOldest_177 rfl (lv_at hl 1 rfl) ?_
              exact q_iret hx hb hr hlocks hS (⟨by rw [q_deliver_cons hw9], hfin⟩) dX4_deliverOldest_178
            · refine lv_tableOut (tgt := 169) hx hb dX4_deliverOldest_77 (q_sw hk1 hk2 hk3 hk4 hk5) (by decide) ?_
              refine lv_aload_n hx hb dX4_deliverOldest_169 rfl (lv_at hl 2 rfl) ?_
              refine lv_iload_n hx hb dX4_deliverOldest_170 rfl (lv_at hl 4 rfl) ?_
              refine lv_iload_n hx hb dX4_deliverOldest_171 rfl (lv_at hl 3 rfl) ?_
              refine lv_iload hx hb dX4_deliverOldest_172 (lv_at hl 0 rfl) ?_
              refine qc_v (va_runV (As := [.int (nI t), .int (nI f), .int x9.2.1]) (rest := []) ⟨hx, hb, hml, hown, hts⟩ (c_X4_hearFailed l dd ga n k ad (s_wr (s_tb σ 0 t (q_max (σ.1 0 t) x9.2.2 + 1)) f t w9) hsq hL t f ht hf x9.2.1 (fun t9 h9 => hcap2.1 t t9 ht h9)) (cwV 3 hts gX4_deliverOldest_X4_hearFailed rfl rfl rfl (by decide +kernel) ⟨Nat.le_of_ble_eq_true rfl, Nat.le_of_ble_eq_true rfl⟩) (qpreV hK hC hC.self rfl) rfl rfl hl.1 rfl (lv_room (Nat.le_of_ble_eq_true rfl)) dX4_deliverOldest_174 ⟨Nat.zero_le _, Nat.zero_le _⟩) hS (fun q h => h) (fun H locs hp9 hz9 ho9 hS => ?_)
              have hfin : qC dd ga n k ad (q_deliver n σ f t).2 H := by rw [q_deliver_cons hw9]; simp only [q_do, if_neg hk1, if_neg hk2, if_neg hk3, if_neg hk4, if_neg hk5]; exact hp9
              refine lv_iload_n hx hb dX4_deliverOldest_177 rfl (lv_at hl 1 rfl) ?_
              exact q_iret hx hb hr hlocks hS (⟨by rw [q_deliver_cons hw9], hfin⟩) dX4_deliverOldest_178
end
section
theorem q_sum_0 {w : Nat → Nat → List qM} {f : Nat} : ∀ {m : Nat}, (∀ t, t < m → w f t = []) → q_sum w f m = 0
  | 0, _ => rfl
  | m + 1, h => by
    unfold q_sum
    rw [q_sum_0 (m := m) (fun t ht => h t (by omega)), h m (by omega)]
    rfl
theorem q_sw8 {x : Int32} (h0 : x ≠ 0) (h1 : x ≠ 1) (h2 : x ≠ 2) (h3 : x ≠ 3) (h4 : x ≠ 4) (h5 : x ≠ 5) (h6 : x ≠ 6) (h7 : x ≠ 7) : x.toInt < 0 ∨ 7 < x.toInt := by
  apply Classical.byContradiction
  intro h
  have h9 : x.toInt = 0 ∨ x.toInt = 1 ∨ x.toInt = 2 ∨ x.toInt = 3 ∨ x.toInt = 4 ∨ x.toInt = 5 ∨ x.toInt = 6 ∨ x.toInt = 7 := by omega
  rcases h9 with h9 | h9 | h9 | h9 | h9 | h9 | h9 | h9
  · exact h0 (Int32.toInt_inj.mp (h9.trans (by decide)))
  · exact h1 (Int32.toInt_inj.mp (h9.trans (by decide)))
  · exact h2 (Int32.toInt_inj.mp (h9.trans (by decide)))
  · exact h3 (Int32.toInt_inj.mp (h9.trans (by decide)))
  · exact h4 (Int32.toInt_inj.mp (h9.trans (by decide)))
  · exact h5 (Int32.toInt_inj.mp (h9.trans (by decide)))
  · exact h6 (Int32.toInt_inj.mp (h9.trans (by decide)))
  · exact h7 (Int32.toInt_inj.mp (h9.trans (by decide)))
theorem q_lt_to {σ : qSt} {f : Nat} : ∀ (c t : Nat), (q_to σ f c t = none → q_lt σ.2.2.2.1 f c t = -1 ∧ ∀ u, t ≤ u → u < t + c → σ.2.2.2.1 f u = []) ∧ (∀ u, q_to σ f c t = some u → q_lt σ.2.2.2.1 f c t = nI u ∧ t ≤ u ∧ u < t + c ∧ σ.2.2.2.1 f u ≠ [])
  | 0, t => ⟨fun _ => ⟨rfl, fun u h1 h2 => by omega⟩, fun u h => by cases h⟩
  | c + 1, t => by
    have ih := q_lt_to (σ := σ) (f := f) c (t + 1)
    by_cases h : σ.2.2.2.1 f t = []
    · refine ⟨fun h1 => ?_, fun u h1 => ?_⟩
      · rw [q_to, if_pos h] at h1
        rw [q_lt, if_pos h]
        refine ⟨(ih.1 h1).1, fun u h2 h3 => ?_⟩
        rcases Nat.lt_or_ge t u with h4 | h4
        · exact (ih.1 h1).2 u h4 (by omega)
        · have : u = t := by omega
          subst this; exact h
      · rw [q_to, if_pos h] at h1
        rw [q_lt, if_pos h]
        have := ih.2 u h1
        exact ⟨this.1, by omega, by omega, this.2.2.2⟩
    · refine ⟨fun h1 => ?_, fun u h1 => ?_⟩
      · rw [q_to, if_neg h] at h1; cases h1
      · rw [q_to, if_neg h] at h1
        cases h1
        rw [q_lt, if_neg h]
        exact ⟨rfl, Nat.le_refl _, by omega, h⟩
theorem q_lf_from {n : Nat} {σ : qSt} : ∀ (c f : Nat), (q_from n σ c f = none → q_lf σ.2.2.2.1 n c f = -1) ∧ (∀ g t, q_from n σ c f = some (g, t) → q_lf σ.2.2.2.1 n c f = nI g ∧ q_lt σ.2.2.2.1 g n 0 = nI t ∧ g < f + c ∧ t < n ∧ σ.2.2.2.1 g t ≠ [])
  | 0, f => ⟨fun _ => rfl, fun g t h => by cases h⟩
  | c + 1, f => by
    have ih := q_lf_from (n := n) (σ := σ) c (f + 1)
    have hlt := q_lt_to (σ := σ) (f := f) n 0
    cases h : q_to σ f n 0 with
    | none =>
      have hs : q_sum σ.2.2.2.1 f n = 0 := by
        have h2 := (hlt.1 h).2
        apply Classical.byContradiction
        intro h3
        exact h3 (q_sum_0 (fun u hu => h2 u (by omega) (by omega)))
      refine ⟨fun h1 => ?_, fun g t h1 => ?_⟩
      · rw [q_from, h] at h1
        rw [q_lf, if_pos hs]; exact ih.1 h1
      · rw [q_from, h] at h1
        rw [q_lf, if_pos hs]
        have := ih.2 g t h1
        exact ⟨this.1, this.2.1, by omega, this.2.2.2⟩
    | some t0 =>
      have h2 := hlt.2 t0 h
      have hs : ¬ q_sum σ.2.2.2.1 f n = 0 := by
        have := q_sum_p h2.2.2.2 (m := n) (by omega)
        omega
      refine ⟨fun h1 => ?_, fun g t h1 => ?_⟩
      · rw [q_from, h] at h1; cases h1
      · rw [q_from, h] at h1
        cases h1
        rw [q_lf, if_neg hs]
        exact ⟨rfl, h2.1, by omega, by omega, h2.2.2.2⟩
set_option maxHeartbeats 4000000 in
set_option maxRecDepth 100000 in
/-- X4_request -/
theorem c_X4_request (l : Launch) (dd : va_G) (ga : Nat → ClassId) (n k : Nat) (ad : Nat → Nat → Nat) (σ : qSt) (hsq : qSq n k) (hL : qL n ad) (x : Int32) (hcap : qCap n k σ) : Met l yX4_request wsX4_request ({ frames := 4, cells := 0, slots := 0, locals := 97 }) (qPc dd ga [.ref (ad 0 0), .int x] (fun H => qC dd ga n k ad σ H)) (qQi (fun v H => v = (q_requestI n k σ x).1 ∧ qC dd ga n k ad (q_requestI n k σ x).2 H) (qA n ad)) 0 0 (qA n ad) := by
  rcases q_nodeC hsq.n.2 x with ⟨hnx, i, hi, rfl⟩ | hnx
  · refine Met.ofW (cc := cX4_request) (maxL := 3) (ret := (some .int)) (by decide) rfl ?_
    intro p e s m args below meth c s₁ B hml hv
    obtain ⟨rfl, hC, hK⟩ := hv
    have hx := B.exec
    have hb := B.bytes
    have hr := B.returns
    have hts := atoms_spec (ws := wsX4_request) B.pre
    have hown : s.vm.findClass RX4 = some m.cls := findClass_of_methodNamed B.named
    have hlocks := B.notSynchronized
    have hS : qS (qA n ad) s.heap s.heap [] := qS.rf
    have hl := lv_entry ([.ref (ad 0 0), .int (nI i)]) (n := 3) (Nat.le_of_ble_eq_true rfl)
    rw [lg_entry_eq]
    generalize (lg_sl ([.ref (ad 0 0), .int (nI i)]) ++ List.replicate (3 - (lg_sl ([.ref (ad 0 0), .int (nI i)])).length) Slot.unset).toArray = ls at hl ⊢
    have hin0 : ∀ w ∈ wsX00, w ∈ wsX4_request := by decide +kernel
    have hin4 : ∀ w ∈ wsX40, w ∈ wsX4_request := by decide +kernel
    have hn1 := hsq.n.1
    have hn16 := hsq.n.2
    have hI : q_requestI n k σ (nI i) = q_request n k σ i := by rw [q_requestI, if_pos hnx, nI_clamp (by omega)]
    refine lv_aload_n hx hb dX4_request_0 rfl (lv_at hl 0 rfl) ?_
    refine lv_iload_n hx hb dX4_request_1 rfl (lv_at hl 1 rfl) ?_
    refine qc_i (va_runV (As := [.int (nI i)]) (rest := []) ⟨hx, hb, hml, hown, hts⟩ (c_X4_isNode l dd ga n k ad σ hsq hL (nI i)) (cwV 1 hts gX4_request_X4_isNode rfl rfl rfl (by decide +kernel) ⟨Nat.le_of_ble_eq_true rfl, Nat.le_of_ble_eq_true rfl⟩) (qpreV hK hC hC.self rfl) rfl rfl hl.1 rfl (lv_room (Nat.le_of_ble_eq_true rfl)) dX4_request_2 ⟨Nat.zero_le _, Nat.zero_le _⟩) hS (fun q h => h.elim) (fun v2 H locs hp9 hz9 ho9 hS => ?_)
    have ev2 : v2 = _ := hp9
    have hC := hC.same (fun q => ho9 q (fun h => h))
    refine lv_if_ne (tgt := 10) hx hb dX4_request_5 (by decide) (fun c_5 => ?_) (fun c_5 => absurd c_5 (by rw [ev2, if_pos hnx]; decide))
    refine lv_aload_n hx hb dX4_request_10 rfl (lv_at hl 0 rfl) ?_
    refine qr_get (ci := 4) (C := RX4) (T := TX4) (N := 7) hx hb hts hin4 hown hK hC.self rfl 3 (by decide) (hts (.fieldLink RX4 31 "QuorumLock" "askers" "[LQuorumLock$Asker;") (by decide +kernel)) rfl dX4_request_11 ?_
    refine lv_iload_n hx hb dX4_request_14 rfl (lv_at hl 1 rfl) ?_
    refine qr_aald (v := ad 10 i) hx hb hK 2 hC.arA rfl i (by omega) (by omega) rfl rfl dX4_request_15 ?_
    refine lv_astore_n (lv' := [(2, .ref (ad 10 i)), (0, .ref (ad 0 0)), (1, .int (nI i))]) hx hb dX4_request_16 rfl hl (by decide) rfl (fun ls hl => ?_)
    refine lv_aload_n hx hb dX4_request_17 rfl (lv_at hl 0 rfl) ?_
    refine qr_get (ci := 0) (C := RX0) (T := TX0) (N := 5) hx hb hts hin0 hown hK (hC.ask i hi) rfl 0 (by decide) (hts (.fieldLink RX4 74 "QuorumLock$Asker" "state" "I") (by decide +kernel)) rfl dX4_request_18 ?_
    refine lv_if_eq (tgt := 26) hx hb dX4_request_21 (by decide) (fun c_21 => ?_) (fun c_21 => ?_)
    · refine lv_aload_n hx hb dX4_request_26 rfl (lv_at hl 1 rfl) ?_
      refine qr_get (ci := 4) (C := RX4) (T := TX4) (N := 7) hx hb hts hin4 hown hK hC.self rfl 2 (by decide) (hts (.fieldLink RX4 26 "QuorumLock" "clocks" "[I") (by decide +kernel)) rfl dX4_request_27 ?_
      refine lv_iload_n hx hb dX4_request_30 rfl (lv_at hl 2 rfl) ?_
      refine lv_dup2_11 hx hb dX4_request_31 rfl rfl ?_
      refine qr_iald (v := (σ.1 0 i)) hx hb hK hC.clk i (by omega) (by omega) rfl rfl dX4_request_32 ?_
      refine lv_iconst (v := 1) hx hb dX4_request_33 (by decide) ?_
      refine lv_iadd hx hb dX4_request_34 ?_
      refine qr_iast hx hb hK hC.clk hS (⟨2, 0, qd.z (by decide), rfl⟩) i (by omega) (by omega) rfl dX4_request_35 (fun H locs hz9 ho9 hat9 hS => ?_)
      have hC := hC.putClk (σ' := s_tb σ 0 i (σ.1 0 i + 1)) hL ho9 (by have h9 : ((s_tb σ 0 i (σ.1 0 i + 1)).1 0) = upd (σ.1 0) i (σ.1 0 i + 1) := (by funext j; by_cases h : j = i <;> simp [s_tb, q2, upd, h]); rw [h9]; exact hat9) (fun f j h => q2_n (by omega)) rfl
      refine lv_aload_n hx hb dX4_request_36 rfl (lv_at hl 0 rfl) ?_
      refine lv_aload_n hx hb dX4_request_37 rfl (lv_at hl 1 rfl) ?_
      refine qr_get (ci := 4) (C := RX4) (T := TX4) (N := 7) hx hb hts hin4 hown hK hC.self rfl 2 (by decide) (hts (.fieldLink RX4 26 "QuorumLock" "clocks" "[I") (by decide +kernel)) rfl dX4_request_38 ?_
      refine lv_iload_n hx hb dX4_request_41 rfl (lv_at hl 2 rfl) ?_
      refine qr_iald (v := (σ.1 0 i + 1)) hx hb hK hC.clk i (by omega) (by omega) rfl (by simp [s_tb, q2]) dX4_request_42 ?_
      refine qc_v (va_runV (As := [.int (σ.1 0 i + 1)]) (rest := []) ⟨hx, hb, hml, hown, hts⟩ (c_X0_becomeAsking l dd ga (ad 10 i) ((s_tb σ 0 i (σ.1 0 i + 1)).1 1 i) ((s_tb σ 0 i (σ.1 0 i + 1)).1 2 i) ((s_tb σ 0 i (σ.1 0 i + 1)).1 3 i) ((s_tb σ 0 i (σ.1 0 i + 1)).1 4 i) ((s_tb σ 0 i (σ.1 0 i + 1)).1 5 i) (σ.1 0 i + 1)) (cwV 1 hts gX4_request_X0_becomeAsking rfl rfl rfl (by decide +kernel) ⟨Nat.le_of_ble_eq_true rfl, Nat.le_of_ble_eq_true rfl⟩) (qpreV hK (hC.ask i hi) (hC.ask i hi) rfl) rfl rfl hl.1 rfl (lv_room (Nat.le_of_ble_eq_true rfl)) dX4_request_43 ⟨Nat.zero_le _, Nat.zero_le _⟩) hS (fun q h => qA.at (by decide) (by decide) hi h) (fun H locs hp9 hz9 ho9 hS => ?_)
      have hC := hC.putAsk (σ' := q_empty (s_tb (s_tb (s_tb σ 0 i (σ.1 0 i + 1)) 1 i 1) 2 i (σ.1 0 i + 1)) i) hL hi ho9 (by simpa [q_empty, s_tb, q2] using hp9) (fun f j h => by simp only [q_empty, s_tb, q2]; repeat rw [if_neg (by omega)]) rfl
      have et : (q_empty (s_tb (s_tb (s_tb σ 0 i (σ.1 0 i + 1)) 1 i 1) 2 i (σ.1 0 i + 1)) i).1 2 i = σ.1 0 i + 1 := by simp [q_empty, s_tb, q2]
      refine lv_aload_n hx hb dX4_request_46 rfl (lv_at hl 1 rfl) ?_
      refine lv_iload_n hx hb dX4_request_47 rfl (lv_at hl 2 rfl) ?_
      refine lv_iconst (v := 1) hx hb dX4_request_48 (by decide) ?_
      refine lv_aload_n hx hb dX4_request_49 rfl (lv_at hl 0 rfl) ?_
      refine qr_get (ci := 0) (C := RX0) (T := TX0) (N := 5) hx hb hts hin0 hown hK (hC.ask i hi) rfl 1 (by decide) (hts (.fieldLink RX4 80 "QuorumLock$Asker" "time" "I") (by decide +kernel)) rfl dX4_request_50 ?_
      refine qc_v (va_runV (As := [.int (nI i), .int 1, .int ((q_empty (s_tb (s_tb (s_tb σ 0 i (σ.1 0 i + 1)) 1 i 1) 2 i (σ.1 0 i + 1)) i).1 2 i)]) (rest := []) ⟨hx, hb, hml, hown, hts⟩ (c_X4_sendToQuorum l dd ga n k ad (q_empty (s_tb (s_tb (s_tb σ 0 i (σ.1 0 i + 1)) 1 i 1) 2 i (σ.1 0 i + 1)) i) hsq hL i hi 1 ((q_empty (s_tb (s_tb (s_tb σ 0 i (σ.1 0 i + 1)) 1 i 1) 2 i (σ.1 0 i + 1)) i).1 2 i) (fun t ht => hcap.1 i t hi ht)) (cwV 3 hts gX4_request_X4_sendToQuorum rfl rfl rfl (by decide +kernel) ⟨Nat.le_of_ble_eq_true rfl, Nat.le_of_ble_eq_true rfl⟩) (qpreV hK hC hC.self rfl) rfl rfl hl.1 rfl (lv_room (Nat.le_of_ble_eq_true rfl)) dX4_request_53 ⟨Nat.zero_le _, Nat.zero_le _⟩) hS (fun q h => h) (fun H locs hp9 hz9 ho9 hS => ?_)
      have hC := hp9
      rw [et] at hC
      refine lv_iconst (v := 0) hx hb dX4_request_56 (by decide) ?_
      exact q_iret hx hb hr hlocks hS (by rw [hI, q_request, if_pos c_21]; exact ⟨rfl, hC⟩) dX4_request_57
    · refine lv_iconst (v := 1) hx hb dX4_request_24 (by decide) ?_
      exact q_iret hx hb hr hlocks hS (by rw [hI, q_request, if_neg c_21]; exact ⟨rfl, hC⟩) dX4_request_25
  · refine Met.ofW (cc := cX4_request) (maxL := 3) (ret := (some .int)) (by decide) rfl ?_
    intro p e s m args below meth c s₁ B hml hv
    obtain ⟨rfl, hC, hK⟩ := hv
    have hx := B.exec
    have hb := B.bytes
    have hr := B.returns
    have hts := atoms_spec (ws := wsX4_request) B.pre
    have hown : s.vm.findClass RX4 = some m.cls := findClass_of_methodNamed B.named
    have hlocks := B.notSynchronized
    have hS : qS (qA n ad) s.heap s.heap [] := qS.rf
    have hl := lv_entry ([.ref (ad 0 0), .int x]) (n := 3) (Nat.le_of_ble_eq_true rfl)
    rw [lg_entry_eq]
    generalize (lg_sl ([.ref (ad 0 0), .int x]) ++ List.replicate (3 - (lg_sl ([.ref (ad 0 0), .int x])).length) Slot.unset).toArray = ls at hl ⊢
    have hin0 : ∀ w ∈ wsX00, w ∈ wsX4_request := by decide +kernel
    have hin4 : ∀ w ∈ wsX40, w ∈ wsX4_request := by decide +kernel
    have hn1 := hsq.n.1
    have hn16 := hsq.n.2
    have hI : q_requestI n k σ x = (-1, σ) := by rw [q_requestI, if_neg (by rw [hnx]; decide)]
    refine lv_aload_n hx hb dX4_request_0 rfl (lv_at hl 0 rfl) ?_
    refine lv_iload_n hx hb dX4_request_1 rfl (lv_at hl 1 rfl) ?_
    refine qc_i (va_runV (As := [.int x]) (rest := []) ⟨hx, hb, hml, hown, hts⟩ (c_X4_isNode l dd ga n k ad σ hsq hL x) (cwV 1 hts gX4_request_X4_isNode rfl rfl rfl (by decide +kernel) ⟨Nat.le_of_ble_eq_true rfl, Nat.le_of_ble_eq_true rfl⟩) (qpreV hK hC hC.self rfl) rfl rfl hl.1 rfl (lv_room (Nat.le_of_ble_eq_true rfl)) dX4_request_2 ⟨Nat.zero_le _, Nat.zero_le _⟩) hS (fun q h => h.elim) (fun v2 H locs hp9 hz9 ho9 hS => ?_)
    have ev2 : v2 = _ := hp9
    have hC := hC.same (fun q => ho9 q (fun h => h))
    refine lv_if_ne (tgt := 10) hx hb dX4_request_5 (by decide) (fun c_5 => absurd (by rw [ev2, if_neg (by rw [hnx]; decide)]) c_5) (fun c_5 => ?_)
    refine lv_iconst (v := (-1)) hx hb dX4_request_8 (by decide) ?_
    exact q_iret hx hb hr hlocks hS (by rw [hI]; exact ⟨rfl, hC⟩) dX4_request_9
set_option maxHeartbeats 4000000 in
set_option maxRecDepth 100000 in
/-- X4_enter -/
theorem c_X4_enter (l : Launch) (dd : va_G) (ga : Nat → ClassId) (n k : Nat) (ad : Nat → Nat → Nat) (σ : qSt) (hsq : qSq n k) (hL : qL n ad) (x : Int32) (hq9 : ∀ i : Nat, i < n → σ.1 3 i &&& q_quo k i n = q_quo k i n → σ.1 3 i = q_quo k i n) : Met l yX4_enter wsX4_enter ({ frames := 1, cells := 0, slots := 0, locals := 21 }) (qPc dd ga [.ref (ad 0 0), .int x] (fun H => qC dd ga n k ad σ H)) (qQi (fun v H => v = (q_enterI n k σ x).1 ∧ qC dd ga n k ad (q_enterI n k σ x).2 H) (qA n ad)) 0 0 (qA n ad) := by
  rcases q_nodeC hsq.n.2 x with ⟨hnx, i, hi, rfl⟩ | hnx
  · refine Met.ofW (cc := cX4_enter) (maxL := 3) (ret := (some .boolean)) (by decide) rfl ?_
    intro p e s m args below meth c s₁ B hml hv
    obtain ⟨rfl, hC, hK⟩ := hv
    have hx := B.exec
    have hb := B.bytes
    have hr := B.returns
    have hts := atoms_spec (ws := wsX4_enter) B.pre
    have hown : s.vm.findClass RX4 = some m.cls := findClass_of_methodNamed B.named
    have hlocks := B.notSynchronized
    have hS : qS (qA n ad) s.heap s.heap [] := qS.rf
    have hl := lv_entry ([.ref (ad 0 0), .int (nI i)]) (n := 3) (Nat.le_of_ble_eq_true rfl)
    rw [lg_entry_eq]
    generalize (lg_sl ([.ref (ad 0 0), .int (nI i)]) ++ List.replicate (3 - (lg_sl ([.ref (ad 0 0), .int (nI i)])).length) Slot.unset).toArray = ls at hl ⊢
    have hin0 : ∀ w ∈ wsX00, w ∈ wsX4_enter := by decide +kernel
    have hin4 : ∀ w ∈ wsX40, w ∈ wsX4_enter := by decide +kernel
    have hn1 := hsq.n.1
    have hn16 := hsq.n.2
    have hI : q_enterI n k σ (nI i) = q_enter n k σ i := by rw [q_enterI, if_pos hnx, nI_clamp (by omega)]
    refine lv_aload_n hx hb dX4_enter_0 rfl (lv_at hl 0 rfl) ?_
    refine lv_iload_n hx hb dX4_enter_1 rfl (lv_at hl 1 rfl) ?_
    refine qc_i (va_runV (As := [.int (nI i)]) (rest := []) ⟨hx, hb, hml, hown, hts⟩ (c_X4_isNode l dd ga n k ad σ hsq hL (nI i)) (cwV 1 hts gX4_enter_X4_isNode rfl rfl rfl (by decide +kernel) ⟨Nat.le_of_ble_eq_true rfl, Nat.le_of_ble_eq_true rfl⟩) (qpreV hK hC hC.self rfl) rfl rfl hl.1 rfl (lv_room (Nat.le_of_ble_eq_true rfl)) dX4_enter_2 ⟨Nat.zero_le _, Nat.zero_le _⟩) hS (fun q h => h.elim) (fun v2 H locs hp9 hz9 ho9 hS => ?_)
    have ev2 : v2 = _ := hp9
    have hC := hC.same (fun q => ho9 q (fun h => h))
    refine lv_if_ne (tgt := 10) hx hb dX4_enter_5 (by decide) (fun c_5 => ?_) (fun c_5 => absurd c_5 (by rw [ev2, if_pos hnx]; decide))
    refine lv_aload_n hx hb dX4_enter_10 rfl (lv_at hl 0 rfl) ?_
    refine qr_get (ci := 4) (C := RX4) (T := TX4) (N := 7) hx hb hts hin4 hown hK hC.self rfl 3 (by decide) (hts (.fieldLink RX4 31 "QuorumLock" "askers" "[LQuorumLock$Asker;") (by decide +kernel)) rfl dX4_enter_11 ?_
    refine lv_iload_n hx hb dX4_enter_14 rfl (lv_at hl 1 rfl) ?_
    refine qr_aald (v := ad 10 i) hx hb hK 2 hC.arA rfl i (by omega) (by omega) rfl rfl dX4_enter_15 ?_
    refine lv_astore_n (lv' := [(2, .ref (ad 10 i)), (0, .ref (ad 0 0)), (1, .int (nI i))]) hx hb dX4_enter_16 rfl hl (by decide) rfl (fun ls hl => ?_)
    refine lv_aload_n hx hb dX4_enter_17 rfl (lv_at hl 0 rfl) ?_
    refine qr_get (ci := 0) (C := RX0) (T := TX0) (N := 5) hx hb hts hin0 hown hK (hC.ask i hi) rfl 0 (by decide) (hts (.fieldLink RX4 74 "QuorumLock$Asker" "state" "I") (by decide +kernel)) rfl dX4_enter_18 ?_
    refine lv_iconst (v := 1) hx hb dX4_enter_21 (by decide) ?_
    refine lv_icmp_ne (tgt := 45) hx hb dX4_enter_22 (by decide) (fun c_22 => ?_) (fun c_22 => ?_)
    · have hno : ¬ (σ.1 1 i = 1 ∧ σ.1 3 i = q_quo k i n) := fun h => c_22 h.1
      refine lv_iconst (v := 0) hx hb dX4_enter_45 (by decide) ?_
      exact q_zret hx hb hr hlocks rfl hS (by rw [hI, q_enter, if_neg hno]; exact ⟨rfl, hC⟩) dX4_enter_46
    · refine lv_aload_n hx hb dX4_enter_25 rfl (lv_at hl 0 rfl) ?_
      refine qr_get (ci := 0) (C := RX0) (T := TX0) (N := 5) hx hb hts hin0 hown hK (hC.ask i hi) rfl 2 (by decide) (hts (.fieldLink RX4 94 "QuorumLock$Asker" "votes" "I") (by decide +kernel)) rfl dX4_enter_26 ?_
      refine lv_aload_n hx hb dX4_enter_29 rfl (lv_at hl 1 rfl) ?_
      refine qr_get (ci := 4) (C := RX4) (T := TX4) (N := 7) hx hb hts hin4 hown hK hC.self rfl 1 (by decide) (hts (.fieldLink RX4 22 "QuorumLock" "quorums" "[I") (by decide +kernel)) rfl dX4_enter_30 ?_
      refine lv_iload_n hx hb dX4_enter_33 rfl (lv_at hl 2 rfl) ?_
      refine qr_iald (v := (q_quo k i n)) hx hb hK hC.quo i (by omega) (by omega) rfl rfl dX4_enter_34 ?_
      refine lv_iand hx hb dX4_enter_35 ?_
      refine lv_aload_n hx hb dX4_enter_36 rfl (lv_at hl 1 rfl) ?_
      refine qr_get (ci := 4) (C := RX4) (T := TX4) (N := 7) hx hb hts hin4 hown hK hC.self rfl 1 (by decide) (hts (.fieldLink RX4 22 "QuorumLock" "quorums" "[I") (by decide +kernel)) rfl dX4_enter_37 ?_
      refine lv_iload_n hx hb dX4_enter_40 rfl (lv_at hl 2 rfl) ?_
      refine qr_iald (v := (q_quo k i n)) hx hb hK hC.quo i (by omega) (by omega) rfl rfl dX4_enter_41 ?_
      refine lv_icmp_eq (tgt := 47) hx hb dX4_enter_42 (by decide) (fun c_42 => ?_) (fun c_42 => ?_)
      · refine lv_aload_n hx hb dX4_enter_47 rfl (lv_at hl 0 rfl) ?_
        refine lv_iconst (v := 2) hx hb dX4_enter_48 (by decide) ?_
        refine qr_put (ci := 0) (C := RX0) (T := TX0) (N := 5) hx hb hts hin0 tyX0 tyX0_ok nmX0 hown hK (hC.ask i hi) hS (⟨10, i, qd.i (by decide) (by decide) hi, rfl⟩) rfl 0 (by decide) (hts (.fieldLink RX4 74 "QuorumLock$Asker" "state" "I") (by decide +kernel)) rfl rfl rfl (Nat.le_of_ble_eq_true rfl) dX4_enter_49 (fun H locs hz9 ho9 hat9 hS => ?_)
        have hC := hC.putAsk (σ' := s_tb σ 1 i 2) hL hi ho9 (by simpa [s_tb, q2] using hat9) (fun f j h => by simp only [s_tb, q2]; repeat rw [if_neg (by omega)]) rfl
        refine lv_aload_n hx hb dX4_enter_52 rfl (lv_at hl 1 rfl) ?_
        refine lv_dup hx hb dX4_enter_53 rfl ?_
        refine qr_get (ci := 4) (C := RX4) (T := TX4) (N := 7) hx hb hts hin4 hown hK hC.self rfl 6 (by decide) (hts (.fieldLink RX4 67 "QuorumLock" "entries" "I") (by decide +kernel)) rfl dX4_enter_54 ?_
        refine lv_iconst (v := 1) hx hb dX4_enter_57 (by decide) ?_
        refine lv_iadd hx hb dX4_enter_58 ?_
        refine qr_put (ci := 4) (C := RX4) (T := TX4) (N := 7) hx hb hts hin4 tyX4 tyX4_ok nmX4 hown hK hC.self hS (⟨0, 0, qd.z (by decide), rfl⟩) rfl 6 (by decide) (hts (.fieldLink RX4 67 "QuorumLock" "entries" "I") (by decide +kernel)) rfl rfl rfl (Nat.le_of_ble_eq_true rfl) dX4_enter_59 (fun H locs hz9 ho9 hat9 hS => ?_)
        have hC := hC.putEn hL ho9 hat9
        refine lv_iconst (v := 1) hx hb dX4_enter_62 (by decide) ?_
        exact q_zret hx hb hr hlocks rfl hS (by rw [hI, q_enter, if_pos ⟨c_22, hq9 i hi c_42⟩]; exact ⟨rfl, hC⟩) dX4_enter_63
      · have hno : ¬ (σ.1 1 i = 1 ∧ σ.1 3 i = q_quo k i n) := fun h => c_42 (by rw [h.2, Int32.and_self])
        refine lv_iconst (v := 0) hx hb dX4_enter_45 (by decide) ?_
        exact q_zret hx hb hr hlocks rfl hS (by rw [hI, q_enter, if_neg hno]; exact ⟨rfl, hC⟩) dX4_enter_46
  · refine Met.ofW (cc := cX4_enter) (maxL := 3) (ret := (some .boolean)) (by decide) rfl ?_
    intro p e s m args below meth c s₁ B hml hv
    obtain ⟨rfl, hC, hK⟩ := hv
    have hx := B.exec
    have hb := B.bytes
    have hr := B.returns
    have hts := atoms_spec (ws := wsX4_enter) B.pre
    have hown : s.vm.findClass RX4 = some m.cls := findClass_of_methodNamed B.named
    have hlocks := B.notSynchronized
    have hS : qS (qA n ad) s.heap s.heap [] := qS.rf
    have hl := lv_entry ([.ref (ad 0 0), .int x]) (n := 3) (Nat.le_of_ble_eq_true rfl)
    rw [lg_entry_eq]
    generalize (lg_sl ([.ref (ad 0 0), .int x]) ++ List.replicate (3 - (lg_sl ([.ref (ad 0 0), .int x])).length) Slot.unset).toArray = ls at hl ⊢
    have hin0 : ∀ w ∈ wsX00, w ∈ wsX4_enter := by decide +kernel
    have hin4 : ∀ w ∈ wsX40, w ∈ wsX4_enter := by decide +kernel
    have hn1 := hsq.n.1
    have hn16 := hsq.n.2
    have hI : q_enterI n k σ x = (0, σ) := by rw [q_enterI, if_neg (by rw [hnx]; decide)]
    refine lv_aload_n hx hb dX4_enter_0 rfl (lv_at hl 0 rfl) ?_
    refine lv_iload_n hx hb dX4_enter_1 rfl (lv_at hl 1 rfl) ?_
    refine qc_i (va_runV (As := [.int x]) (rest := []) ⟨hx, hb, hml, hown, hts⟩ (c_X4_isNode l dd ga n k ad σ hsq hL x) (cwV 1 hts gX4_enter_X4_isNode rfl rfl rfl (by decide +kernel) ⟨Nat.le_of_ble_eq_true rfl, Nat.le_of_ble_eq_true rfl⟩) (qpreV hK hC hC.self rfl) rfl rfl hl.1 rfl (lv_room (Nat.le_of_ble_eq_true rfl)) dX4_enter_2 ⟨Nat.zero_le _, Nat.zero_le _⟩) hS (fun q h => h.elim) (fun v2 H locs hp9 hz9 ho9 hS => ?_)
    have ev2 : v2 = _ := hp9
    have hC := hC.same (fun q => ho9 q (fun h => h))
    refine lv_if_ne (tgt := 10) hx hb dX4_enter_5 (by decide) (fun c_5 => absurd (by rw [ev2, if_neg (by rw [hnx]; decide)]) c_5) (fun c_5 => ?_)
    refine lv_iconst (v := 0) hx hb dX4_enter_8 (by decide) ?_
    exact q_zret hx hb hr hlocks rfl hS (by rw [hI]; exact ⟨rfl, hC⟩) dX4_enter_9
set_option maxHeartbeats 4000000 in
set_option maxRecDepth 100000 in
/-- X4_release -/
theorem c_X4_release (l : Launch) (dd : va_G) (ga : Nat → ClassId) (n k : Nat) (ad : Nat → Nat → Nat) (σ : qSt) (hsq : qSq n k) (hL : qL n ad) (x : Int32) (hcap : qCap n k σ) : Met l yX4_release wsX4_release ({ frames := 4, cells := 0, slots := 0, locals := 97 }) (qPc dd ga [.ref (ad 0 0), .int x] (fun H => qC dd ga n k ad σ H)) (qQi (fun v H => v = (q_releaseI n k σ x).1 ∧ qC dd ga n k ad (q_releaseI n k σ x).2 H) (qA n ad)) 0 0 (qA n ad) := by
  rcases q_nodeC hsq.n.2 x with ⟨hnx, i, hi, rfl⟩ | hnx
  · refine Met.ofW (cc := cX4_release) (maxL := 4) (ret := (some .int)) (by decide) rfl ?_
    intro p e s m args below meth c s₁ B hml hv
    obtain ⟨rfl, hC, hK⟩ := hv
    have hx := B.exec
    have hb := B.bytes
    have hr := B.returns
    have hts := atoms_spec (ws := wsX4_release) B.pre
    have hown : s.vm.findClass RX4 = some m.cls := findClass_of_methodNamed B.named
    have hlocks := B.notSynchronized
    have hS : qS (qA n ad) s.heap s.heap [] := qS.rf
    have hl := lv_entry ([.ref (ad 0 0), .int (nI i)]) (n := 4) (Nat.le_of_ble_eq_true rfl)
    rw [lg_entry_eq]
    generalize (lg_sl ([.ref (ad 0 0), .int (nI i)]) ++ List.replicate (4 - (lg_sl ([.ref (ad 0 0), .int (nI i)])).length) Slot.unset).toArray = ls at hl ⊢
    have hin0 : ∀ w ∈ wsX00, w ∈ wsX4_release := by decide +kernel
    have hin4 : ∀ w ∈ wsX40, w ∈ wsX4_release := by decide +kernel
    have hn1 := hsq.n.1
    have hn16 := hsq.n.2
    have hI : q_releaseI n k σ (nI i) = q_release n k σ i := by rw [q_releaseI, if_pos hnx, nI_clamp (by omega)]
    refine lv_aload_n hx hb dX4_release_0 rfl (lv_at hl 0 rfl) ?_
    refine lv_iload_n hx hb dX4_release_1 rfl (lv_at hl 1 rfl) ?_
    refine qc_i (va_runV (As := [.int (nI i)]) (rest := []) ⟨hx, hb, hml, hown, hts⟩ (c_X4_isNode l dd ga n k ad σ hsq hL (nI i)) (cwV 1 hts gX4_release_X4_isNode rfl rfl rfl (by decide +kernel) ⟨Nat.le_of_ble_eq_true rfl, Nat.le_of_ble_eq_true rfl⟩) (qpreV hK hC hC.self rfl) rfl rfl hl.1 rfl (lv_room (Nat.le_of_ble_eq_true rfl)) dX4_release_2 ⟨Nat.zero_le _, Nat.zero_le _⟩) hS (fun q h => h.elim) (fun v2 H locs hp9 hz9 ho9 hS => ?_)
    have ev2 : v2 = _ := hp9
    have hC := hC.same (fun q => ho9 q (fun h => h))
    refine lv_if_ne (tgt := 10) hx hb dX4_release_5 (by decide) (fun c_5 => ?_) (fun c_5 => absurd c_5 (by rw [ev2, if_pos hnx]; decide))
    refine lv_aload_n hx hb dX4_release_10 rfl (lv_at hl 0 rfl) ?_
    refine qr_get (ci := 4) (C := RX4) (T := TX4) (N := 7) hx hb hts hin4 hown hK hC.self rfl 3 (by decide) (hts (.fieldLink RX4 31 "QuorumLock" "askers" "[LQuorumLock$Asker;") (by decide +kernel)) rfl dX4_release_11 ?_
    refine lv_iload_n hx hb dX4_release_14 rfl (lv_at hl 1 rfl) ?_
    refine qr_aald (v := ad 10 i) hx hb hK 2 hC.arA rfl i (by omega) (by omega) rfl rfl dX4_release_15 ?_
    refine lv_astore_n (lv' := [(2, .ref (ad 10 i)), (0, .ref (ad 0 0)), (1, .int (nI i))]) hx hb dX4_release_16 rfl hl (by decide) rfl (fun ls hl => ?_)
    refine lv_aload_n hx hb dX4_release_17 rfl (lv_at hl 0 rfl) ?_
    refine qr_get (ci := 0) (C := RX0) (T := TX0) (N := 5) hx hb hts hin0 hown hK (hC.ask i hi) rfl 0 (by decide) (hts (.fieldLink RX4 74 "QuorumLock$Asker" "state" "I") (by decide +kernel)) rfl dX4_release_18 ?_
    refine lv_iconst (v := 2) hx hb dX4_release_21 (by decide) ?_
    refine lv_icmp_eq (tgt := 27) hx hb dX4_release_22 (by decide) (fun c_22 => ?_) (fun c_22 => ?_)
    · refine lv_aload_n hx hb dX4_release_27 rfl (lv_at hl 0 rfl) ?_
      refine qr_get (ci := 0) (C := RX0) (T := TX0) (N := 5) hx hb hts hin0 hown hK (hC.ask i hi) rfl 1 (by decide) (hts (.fieldLink RX4 80 "QuorumLock$Asker" "time" "I") (by decide +kernel)) rfl dX4_release_28 ?_
      refine lv_istore_n (lv' := [(3, .int (σ.1 2 i)), (2, .ref (ad 10 i)), (0, .ref (ad 0 0)), (1, .int (nI i))]) hx hb dX4_release_31 rfl hl (by decide) rfl (fun ls hl => ?_)
      refine lv_aload_n hx hb dX4_release_32 rfl (lv_at hl 1 rfl) ?_
      refine qc_v (va_runV (As := []) (rest := []) ⟨hx, hb, hml, hown, hts⟩ (c_X0_becomeIdle l dd ga (ad 10 i) (σ.1 1 i) (σ.1 2 i) (σ.1 3 i) (σ.1 4 i) (σ.1 5 i)) (cwV 0 hts gX4_release_X0_becomeIdle rfl rfl rfl (by decide +kernel) ⟨Nat.le_of_ble_eq_true rfl, Nat.le_of_ble_eq_true rfl⟩) (qpreV hK (hC.ask i hi) (hC.ask i hi) rfl) rfl rfl hl.1 rfl (lv_room (Nat.le_of_ble_eq_true rfl)) dX4_release_33 ⟨Nat.zero_le _, Nat.zero_le _⟩) hS (fun q h => qA.at (by decide) (by decide) hi h) (fun H locs hp9 hz9 ho9 hS => ?_)
      have hC := hC.putAsk (σ' := q_empty (s_tb (s_tb σ 1 i 0) 2 i 0) i) hL hi ho9 (by simpa [q_empty, s_tb, q2] using hp9) (fun f j h => by simp only [q_empty, s_tb, q2]; repeat rw [if_neg (by omega)]) rfl
      refine lv_aload_n hx hb dX4_release_36 rfl (lv_at hl 2 rfl) ?_
      refine lv_iload_n hx hb dX4_release_37 rfl (lv_at hl 3 rfl) ?_
      refine lv_iconst (v := 3) hx hb dX4_release_38 (by decide) ?_
      refine lv_iload_n hx hb dX4_release_39 rfl (lv_at hl 0 rfl) ?_
      refine qc_v (va_runV (As := [.int (nI i), .int 3, .int (σ.1 2 i)]) (rest := []) ⟨hx, hb, hml, hown, hts⟩ (c_X4_sendToQuorum l dd ga n k ad (q_empty (s_tb (s_tb σ 1 i 0) 2 i 0) i) hsq hL i hi 3 (σ.1 2 i) (fun t ht => hcap.1 i t hi ht)) (cwV 3 hts gX4_release_X4_sendToQuorum rfl rfl rfl (by decide +kernel) ⟨Nat.le_of_ble_eq_true rfl, Nat.le_of_ble_eq_true rfl⟩) (qpreV hK hC hC.self rfl) rfl rfl hl.1 rfl (lv_room (Nat.le_of_ble_eq_true rfl)) dX4_release_40 ⟨Nat.zero_le _, Nat.zero_le _⟩) hS (fun q h => h) (fun H locs hp9 hz9 ho9 hS => ?_)
      have hC := hp9
      refine lv_iconst (v := 0) hx hb dX4_release_43 (by decide) ?_
      exact q_iret hx hb hr hlocks hS (by rw [hI, q_release, if_pos c_22]; exact ⟨rfl, hC⟩) dX4_release_44
    · refine lv_iconst (v := 1) hx hb dX4_release_25 (by decide) ?_
      exact q_iret hx hb hr hlocks hS (by rw [hI, q_release, if_neg c_22]; exact ⟨rfl, hC⟩) dX4_release_26
  · refine Met.ofW (cc := cX4_release) (maxL := 4) (ret := (some .int)) (by decide) rfl ?_
    intro p e s m args below meth c s₁ B hml hv
    obtain ⟨rfl, hC, hK⟩ := hv
    have hx := B.exec
    have hb := B.bytes
    have hr := B.returns
    have hts := atoms_spec (ws := wsX4_release) B.pre
    have hown : s.vm.findClass RX4 = some m.cls := findClass_of_methodNamed B.named
    have hlocks := B.notSynchronized
    have hS : qS (qA n ad) s.heap s.heap [] := qS.rf
    have hl := lv_entry ([.ref (ad 0 0), .int x]) (n := 4) (Nat.le_of_ble_eq_true rfl)
    rw [lg_entry_eq]
    generalize (lg_sl ([.ref (ad 0 0), .int x]) ++ List.replicate (4 - (lg_sl ([.ref (ad 0 0), .int x])).length) Slot.unset).toArray = ls at hl ⊢
    have hin0 : ∀ w ∈ wsX00, w ∈ wsX4_release := by decide +kernel
    have hin4 : ∀ w ∈ wsX40, w ∈ wsX4_release := by decide +kernel
    have hn1 := hsq.n.1
    have hn16 := hsq.n.2
    have hI : q_releaseI n k σ x = (-1, σ) := by rw [q_releaseI, if_neg (by rw [hnx]; decide)]
    refine lv_aload_n hx hb dX4_release_0 rfl (lv_at hl 0 rfl) ?_
    refine lv_iload_n hx hb dX4_release_1 rfl (lv_at hl 1 rfl) ?_
    refine qc_i (va_runV (As := [.int x]) (rest := []) ⟨hx, hb, hml, hown, hts⟩ (c_X4_isNode l dd ga n k ad σ hsq hL x) (cwV 1 hts gX4_release_X4_isNode rfl rfl rfl (by decide +kernel) ⟨Nat.le_of_ble_eq_true rfl, Nat.le_of_ble_eq_true rfl⟩) (qpreV hK hC hC.self rfl) rfl rfl hl.1 rfl (lv_room (Nat.le_of_ble_eq_true rfl)) dX4_release_2 ⟨Nat.zero_le _, Nat.zero_le _⟩) hS (fun q h => h.elim) (fun v2 H locs hp9 hz9 ho9 hS => ?_)
    have ev2 : v2 = _ := hp9
    have hC := hC.same (fun q => ho9 q (fun h => h))
    refine lv_if_ne (tgt := 10) hx hb dX4_release_5 (by decide) (fun c_5 => absurd (by rw [ev2, if_neg (by rw [hnx]; decide)]) c_5) (fun c_5 => ?_)
    refine lv_iconst (v := (-1)) hx hb dX4_release_8 (by decide) ?_
    exact q_iret hx hb hr hlocks hS (by rw [hI]; exact ⟨rfl, hC⟩) dX4_release_9
set_option maxHeartbeats 4000000 in
set_option maxRecDepth 100000 in
/-- X4_lockedFor -/
theorem c_X4_lockedFor (l : Launch) (dd : va_G) (ga : Nat → ClassId) (n k : Nat) (ad : Nat → Nat → Nat) (σ : qSt) (hsq : qSq n k) (hL : qL n ad) (x : Int32) : Met l yX4_lockedFor wsX4_lockedFor ({ frames := 1, cells := 0, slots := 0, locals := 21 }) (qPc dd ga [.ref (ad 0 0), .int x] (fun H => qC dd ga n k ad σ H)) (qQi (fun v H => v = q_lockedI n σ x ∧ qC dd ga n k ad σ H) (qA n ad)) 0 0 (qA n ad) := by
  rcases q_nodeC hsq.n.2 x with ⟨hnx, i, hi, rfl⟩ | hnx
  · refine Met.ofW (cc := cX4_lockedFor) (maxL := 2) (ret := (some .int)) (by decide) rfl ?_
    intro p e s m args below meth c s₁ B hml hv
    obtain ⟨rfl, hC, hK⟩ := hv
    have hx := B.exec
    have hb := B.bytes
    have hr := B.returns
    have hts := atoms_spec (ws := wsX4_lockedFor) B.pre
    have hown : s.vm.findClass RX4 = some m.cls := findClass_of_methodNamed B.named
    have hlocks := B.notSynchronized
    have hS : qS (qA n ad) s.heap s.heap [] := qS.rf
    have hl := lv_entry ([.ref (ad 0 0), .int (nI i)]) (n := 2) (Nat.le_of_ble_eq_true rfl)
    rw [lg_entry_eq]
    generalize (lg_sl ([.ref (ad 0 0), .int (nI i)]) ++ List.replicate (2 - (lg_sl ([.ref (ad 0 0), .int (nI i)])).length) Slot.unset).toArray = ls at hl ⊢
    have hin2 : ∀ w ∈ wsX20, w ∈ wsX4_lockedFor := by decide +kernel
    have hin4 : ∀ w ∈ wsX40, w ∈ wsX4_lockedFor := by decide +kernel
    have hn1 := hsq.n.1
    have hn16 := hsq.n.2
    have hI : q_lockedI n σ (nI i) = q_on (σ.2.1 i) := by rw [q_lockedI, if_pos hnx, nI_clamp (by omega)]
    refine lv_aload_n hx hb dX4_lockedFor_0 rfl (lv_at hl 0 rfl) ?_
    refine lv_iload_n hx hb dX4_lockedFor_1 rfl (lv_at hl 1 rfl) ?_
    refine qc_i (va_runV (As := [.int (nI i)]) (rest := []) ⟨hx, hb, hml, hown, hts⟩ (c_X4_isNode l dd ga n k ad σ hsq hL (nI i)) (cwV 1 hts gX4_lockedFor_X4_isNode rfl rfl rfl (by decide +kernel) ⟨Nat.le_of_ble_eq_true rfl, Nat.le_of_ble_eq_true rfl⟩) (qpreV hK hC hC.self rfl) rfl rfl hl.1 rfl (lv_room (Nat.le_of_ble_eq_true rfl)) dX4_lockedFor_2 ⟨Nat.zero_le _, Nat.zero_le _⟩) hS (fun q h => h.elim) (fun v2 H locs hp9 hz9 ho9 hS => ?_)
    have ev2 : v2 = _ := hp9
    have hC := hC.same (fun q => ho9 q (fun h => h))
    refine lv_if_eq (tgt := 20) hx hb dX4_lockedFor_5 (by decide) (fun c_5 => absurd c_5 (by rw [ev2, if_pos hnx]; decide)) (fun c_5 => ?_)
    refine lv_aload_n hx hb dX4_lockedFor_8 rfl (lv_at hl 0 rfl) ?_
    refine qr_get (ci := 4) (C := RX4) (T := TX4) (N := 7) hx hb hts hin4 hown hK hC.self rfl 4 (by decide) (hts (.fieldLink RX4 37 "QuorumLock" "voters" "[LQuorumLock$Voter;") (by decide +kernel)) rfl dX4_lockedFor_9 ?_
    refine lv_iload_n hx hb dX4_lockedFor_12 rfl (lv_at hl 1 rfl) ?_
    refine qr_aald (v := ad 11 i) hx hb hK 3 hC.arV rfl i (by omega) (by omega) rfl rfl dX4_lockedFor_13 ?_
    refine qr_get (ci := 2) (C := RX2) (T := TX2) (N := 4) hx hb hts hin2 hown hK (hC.vot i hi) rfl 1 (by decide) (hts (.fieldLink RX4 103 "QuorumLock$Voter" "lentTo" "I") (by decide +kernel)) rfl dX4_lockedFor_14 ?_
    refine lv_goto (tgt := 21) hx hb dX4_lockedFor_17 (by decide) ?_
    exact q_iret hx hb hr hlocks hS (⟨hI.symm, hC⟩) dX4_lockedFor_21
  · refine Met.ofW (cc := cX4_lockedFor) (maxL := 2) (ret := (some .int)) (by decide) rfl ?_
    intro p e s m args below meth c s₁ B hml hv
    obtain ⟨rfl, hC, hK⟩ := hv
    have hx := B.exec
    have hb := B.bytes
    have hr := B.returns
    have hts := atoms_spec (ws := wsX4_lockedFor) B.pre
    have hown : s.vm.findClass RX4 = some m.cls := findClass_of_methodNamed B.named
    have hlocks := B.notSynchronized
    have hS : qS (qA n ad) s.heap s.heap [] := qS.rf
    have hl := lv_entry ([.ref (ad 0 0), .int x]) (n := 2) (Nat.le_of_ble_eq_true rfl)
    rw [lg_entry_eq]
    generalize (lg_sl ([.ref (ad 0 0), .int x]) ++ List.replicate (2 - (lg_sl ([.ref (ad 0 0), .int x])).length) Slot.unset).toArray = ls at hl ⊢
    have hin2 : ∀ w ∈ wsX20, w ∈ wsX4_lockedFor := by decide +kernel
    have hin4 : ∀ w ∈ wsX40, w ∈ wsX4_lockedFor := by decide +kernel
    have hn1 := hsq.n.1
    have hn16 := hsq.n.2
    have hI : q_lockedI n σ x = -1 := by rw [q_lockedI, if_neg (by rw [hnx]; decide)]
    refine lv_aload_n hx hb dX4_lockedFor_0 rfl (lv_at hl 0 rfl) ?_
    refine lv_iload_n hx hb dX4_lockedFor_1 rfl (lv_at hl 1 rfl) ?_
    refine qc_i (va_runV (As := [.int x]) (rest := []) ⟨hx, hb, hml, hown, hts⟩ (c_X4_isNode l dd ga n k ad σ hsq hL x) (cwV 1 hts gX4_lockedFor_X4_isNode rfl rfl rfl (by decide +kernel) ⟨Nat.le_of_ble_eq_true rfl, Nat.le_of_ble_eq_true rfl⟩) (qpreV hK hC hC.self rfl) rfl rfl hl.1 rfl (lv_room (Nat.le_of_ble_eq_true rfl)) dX4_lockedFor_2 ⟨Nat.zero_le _, Nat.zero_le _⟩) hS (fun q h => h.elim) (fun v2 H locs hp9 hz9 ho9 hS => ?_)
    have ev2 : v2 = _ := hp9
    have hC := hC.same (fun q => ho9 q (fun h => h))
    refine lv_if_eq (tgt := 20) hx hb dX4_lockedFor_5 (by decide) (fun c_5 => ?_) (fun c_5 => absurd (by rw [ev2, if_neg (by rw [hnx]; decide)]) c_5)
    refine lv_iconst (v := (-1)) hx hb dX4_lockedFor_20 (by decide) ?_
    exact q_iret hx hb hr hlocks hS (⟨hI.symm, hC⟩) dX4_lockedFor_21
set_option maxHeartbeats 4000000 in
set_option maxRecDepth 100000 in
/-- X4_waits -/
theorem c_X4_waits (l : Launch) (dd : va_G) (ga : Nat → ClassId) (n k : Nat) (ad : Nat → Nat → Nat) (σ : qSt) (hsq : qSq n k) (hL : qL n ad) (x : Int32) (y : Int32) (hcap : qCap n k σ) : Met l yX4_waits wsX4_waits ({ frames := 1, cells := 0, slots := 0, locals := 21 }) (qPc dd ga [.ref (ad 0 0), .int x, .int y] (fun H => qC dd ga n k ad σ H)) (qQi (fun v H => v = q_waitsI n σ x y ∧ qC dd ga n k ad σ H) (qA n ad)) 0 0 (qA n ad) := by
  rcases q_nodeC hsq.n.2 x with ⟨hnx, i, hi, rfl⟩ | hnx
  · refine Met.ofW (cc := cX4_waits) (maxL := 3) (ret := (some .int)) (by decide) rfl ?_
    intro p e s m args below meth c s₁ B hml hv
    obtain ⟨rfl, hC, hK⟩ := hv
    have hx := B.exec
    have hb := B.bytes
    have hr := B.returns
    have hts := atoms_spec (ws := wsX4_waits) B.pre
    have hown : s.vm.findClass RX4 = some m.cls := findClass_of_methodNamed B.named
    have hlocks := B.notSynchronized
    have hS : qS (qA n ad) s.heap s.heap [] := qS.rf
    have hl := lv_entry ([.ref (ad 0 0), .int (nI i), .int y]) (n := 3) (Nat.le_of_ble_eq_true rfl)
    rw [lg_entry_eq]
    generalize (lg_sl ([.ref (ad 0 0), .int (nI i), .int y]) ++ List.replicate (3 - (lg_sl ([.ref (ad 0 0), .int (nI i), .int y])).length) Slot.unset).toArray = ls at hl ⊢
    have hin2 : ∀ w ∈ wsX20, w ∈ wsX4_waits := by decide +kernel
    have hin4 : ∀ w ∈ wsX40, w ∈ wsX4_waits := by decide +kernel
    have hn1 := hsq.n.1
    have hn16 := hsq.n.2
    have hI : q_waitsI n σ (nI i) y = q_at (σ.2.2.1 i) y := by rw [q_waitsI, if_pos hnx, nI_clamp (by omega)]
    have hk4 := hsq.2.2
    refine lv_aload_n hx hb dX4_waits_0 rfl (lv_at hl 0 rfl) ?_
    refine lv_iload_n hx hb dX4_waits_1 rfl (lv_at hl 1 rfl) ?_
    refine qc_i (va_runV (As := [.int (nI i)]) (rest := []) ⟨hx, hb, hml, hown, hts⟩ (c_X4_isNode l dd ga n k ad σ hsq hL (nI i)) (cwV 1 hts gX4_waits_X4_isNode rfl rfl rfl (by decide +kernel) ⟨Nat.le_of_ble_eq_true rfl, Nat.le_of_ble_eq_true rfl⟩) (qpreV hK hC hC.self rfl) rfl rfl hl.1 rfl (lv_room (Nat.le_of_ble_eq_true rfl)) dX4_waits_2 ⟨Nat.zero_le _, Nat.zero_le _⟩) hS (fun q h => h.elim) (fun v2 H locs hp9 hz9 ho9 hS => ?_)
    have ev2 : v2 = _ := hp9
    have hC := hC.same (fun q => ho9 q (fun h => h))
    refine lv_if_eq (tgt := 24) hx hb dX4_waits_5 (by decide) (fun c_5 => absurd c_5 (by rw [ev2, if_pos hnx]; decide)) (fun c_5 => ?_)
    refine lv_aload_n hx hb dX4_waits_8 rfl (lv_at hl 0 rfl) ?_
    refine qr_get (ci := 4) (C := RX4) (T := TX4) (N := 7) hx hb hts hin4 hown hK hC.self rfl 4 (by decide) (hts (.fieldLink RX4 37 "QuorumLock" "voters" "[LQuorumLock$Voter;") (by decide +kernel)) rfl dX4_waits_9 ?_
    refine lv_iload_n hx hb dX4_waits_12 rfl (lv_at hl 1 rfl) ?_
    refine qr_aald (v := ad 11 i) hx hb hK 3 hC.arV rfl i (by omega) (by omega) rfl rfl dX4_waits_13 ?_
    refine qr_get (ci := 2) (C := RX2) (T := TX2) (N := 4) hx hb hts hin2 hown hK (hC.vot i hi) rfl 0 (by decide) (hts (.fieldLink RX4 130 "QuorumLock$Voter" "row" "LQuorumLock$Row;") (by decide +kernel)) rfl dX4_waits_14 ?_
    refine lv_iload_n hx hb dX4_waits_17 rfl (lv_at hl 2 rfl) ?_
    refine qc_i (va_runV (As := [.int y]) (rest := []) ⟨hx, hb, hml, hown, hts⟩ (c_X1_nodeAt l dd ga (2 * k - 1) (ad 12 i) (ad 13 i) (ad 14 i) (σ.2.2.1 i) (by omega) (by have := hcap.2.1 i hi; omega) y) (cwV 1 hts gX4_waits_X1_nodeAt rfl rfl rfl (by decide +kernel) ⟨Nat.le_of_ble_eq_true rfl, Nat.le_of_ble_eq_true rfl⟩) (qpreV hK (hC.row i hi) ((hC.row i hi).obj) rfl) rfl rfl hl.1 rfl (lv_room (Nat.le_of_ble_eq_true rfl)) dX4_waits_18 ⟨Nat.zero_le _, Nat.zero_le _⟩) hS (fun q h => h.elim) (fun v18 H locs hp9 hz9 ho9 hS => ?_)
    subst hp9
    have hC := hC.same (fun q => ho9 q (fun h => h))
    refine lv_goto (tgt := 25) hx hb dX4_waits_21 (by decide) ?_
    exact q_iret hx hb hr hlocks hS (⟨hI.symm, hC⟩) dX4_waits_25
  · refine Met.ofW (cc := cX4_waits) (maxL := 3) (ret := (some .int)) (by decide) rfl ?_
    intro p e s m args below meth c s₁ B hml hv
    obtain ⟨rfl, hC, hK⟩ := hv
    have hx := B.exec
    have hb := B.bytes
    have hr := B.returns
    have hts := atoms_spec (ws := wsX4_waits) B.pre
    have hown : s.vm.findClass RX4 = some m.cls := findClass_of_methodNamed B.named
    have hlocks := B.notSynchronized
    have hS : qS (qA n ad) s.heap s.heap [] := qS.rf
    have hl := lv_entry ([.ref (ad 0 0), .int x, .int y]) (n := 3) (Nat.le_of_ble_eq_true rfl)
    rw [lg_entry_eq]
    generalize (lg_sl ([.ref (ad 0 0), .int x, .int y]) ++ List.replicate (3 - (lg_sl ([.ref (ad 0 0), .int x, .int y])).length) Slot.unset).toArray = ls at hl ⊢
    have hin2 : ∀ w ∈ wsX20, w ∈ wsX4_waits := by decide +kernel
    have hin4 : ∀ w ∈ wsX40, w ∈ wsX4_waits := by decide +kernel
    have hn1 := hsq.n.1
    have hn16 := hsq.n.2
    have hI : q_waitsI n σ x y = -1 := by rw [q_waitsI, if_neg (by rw [hnx]; decide)]
    refine lv_aload_n hx hb dX4_waits_0 rfl (lv_at hl 0 rfl) ?_
    refine lv_iload_n hx hb dX4_waits_1 rfl (lv_at hl 1 rfl) ?_
    refine qc_i (va_runV (As := [.int x]) (rest := []) ⟨hx, hb, hml, hown, hts⟩ (c_X4_isNode l dd ga n k ad σ hsq hL x) (cwV 1 hts gX4_waits_X4_isNode rfl rfl rfl (by decide +kernel) ⟨Nat.le_of_ble_eq_true rfl, Nat.le_of_ble_eq_true rfl⟩) (qpreV hK hC hC.self rfl) rfl rfl hl.1 rfl (lv_room (Nat.le_of_ble_eq_true rfl)) dX4_waits_2 ⟨Nat.zero_le _, Nat.zero_le _⟩) hS (fun q h => h.elim) (fun v2 H locs hp9 hz9 ho9 hS => ?_)
    have ev2 : v2 = _ := hp9
    have hC := hC.same (fun q => ho9 q (fun h => h))
    refine lv_if_eq (tgt := 24) hx hb dX4_waits_5 (by decide) (fun c_5 => ?_) (fun c_5 => absurd (by rw [ev2, if_neg (by rw [hnx]; decide)]) c_5)
    refine lv_iconst (v := (-1)) hx hb dX4_waits_24 (by decide) ?_
    exact q_iret hx hb hr hlocks hS (⟨hI.symm, hC⟩) dX4_waits_25
set_option maxHeartbeats 4000000 in
set_option maxRecDepth 100000 in
/-- X4_told -/
theorem c_X4_told (l : Launch) (dd : va_G) (ga : Nat → ClassId) (n k : Nat) (ad : Nat → Nat → Nat) (σ : qSt) (hsq : qSq n k) (hL : qL n ad) (x : Int32) (y : Int32) : Met l yX4_told wsX4_told ({ frames := 1, cells := 0, slots := 0, locals := 21 }) (qPc dd ga [.ref (ad 0 0), .int x, .int y] (fun H => qC dd ga n k ad σ H)) (qQi (fun v H => v = q_toldI n σ x y ∧ qC dd ga n k ad σ H) (qA n ad)) 0 0 (qA n ad) := by
  rcases q_nodeC hsq.n.2 x with ⟨hnx, i, hi, rfl⟩ | hnx
  · refine Met.ofW (cc := cX4_told) (maxL := 5) (ret := (some .int)) (by decide) rfl ?_
    intro p e s m args below meth c s₁ B hml hv
    obtain ⟨rfl, hC, hK⟩ := hv
    have hx := B.exec
    have hb := B.bytes
    have hr := B.returns
    have hts := atoms_spec (ws := wsX4_told) B.pre
    have hown : s.vm.findClass RX4 = some m.cls := findClass_of_methodNamed B.named
    have hlocks := B.notSynchronized
    have hS : qS (qA n ad) s.heap s.heap [] := qS.rf
    have hl := lv_entry ([.ref (ad 0 0), .int (nI i), .int y]) (n := 5) (Nat.le_of_ble_eq_true rfl)
    rw [lg_entry_eq]
    generalize (lg_sl ([.ref (ad 0 0), .int (nI i), .int y]) ++ List.replicate (5 - (lg_sl ([.ref (ad 0 0), .int (nI i), .int y])).length) Slot.unset).toArray = ls at hl ⊢
    have hin0 : ∀ w ∈ wsX00, w ∈ wsX4_told := by decide +kernel
    have hin1 : ∀ w ∈ wsX10, w ∈ wsX4_told := by decide +kernel
    have hin2 : ∀ w ∈ wsX20, w ∈ wsX4_told := by decide +kernel
    have hin4 : ∀ w ∈ wsX40, w ∈ wsX4_told := by decide +kernel
    have hn1 := hsq.n.1
    have hn16 := hsq.n.2
    have hI : q_toldI n σ (nI i) y = q_told σ i y := by rw [q_toldI, if_pos hnx, nI_clamp (by omega)]
    refine lv_aload_n hx hb dX4_told_0 rfl (lv_at hl 0 rfl) ?_
    refine lv_iload_n hx hb dX4_told_1 rfl (lv_at hl 1 rfl) ?_
    refine qc_i (va_runV (As := [.int (nI i)]) (rest := []) ⟨hx, hb, hml, hown, hts⟩ (c_X4_isNode l dd ga n k ad σ hsq hL (nI i)) (cwV 1 hts gX4_told_X4_isNode rfl rfl rfl (by decide +kernel) ⟨Nat.le_of_ble_eq_true rfl, Nat.le_of_ble_eq_true rfl⟩) (qpreV hK hC hC.self rfl) rfl rfl hl.1 rfl (lv_room (Nat.le_of_ble_eq_true rfl)) dX4_told_2 ⟨Nat.zero_le _, Nat.zero_le _⟩) hS (fun q h => h.elim) (fun v2 H locs hp9 hz9 ho9 hS => ?_)
    have ev2 : v2 = _ := hp9
    have hC := hC.same (fun q => ho9 q (fun h => h))
    refine lv_if_ne (tgt := 10) hx hb dX4_told_5 (by decide) (fun c_5 => ?_) (fun c_5 => absurd c_5 (by rw [ev2, if_pos hnx]; decide))
    refine lv_aload_n hx hb dX4_told_10 rfl (lv_at hl 0 rfl) ?_
    refine qr_get (ci := 4) (C := RX4) (T := TX4) (N := 7) hx hb hts hin4 hown hK hC.self rfl 3 (by decide) (hts (.fieldLink RX4 31 "QuorumLock" "askers" "[LQuorumLock$Asker;") (by decide +kernel)) rfl dX4_told_11 ?_
    refine lv_iload_n hx hb dX4_told_14 rfl (lv_at hl 1 rfl) ?_
    refine qr_aald (v := ad 10 i) hx hb hK 2 hC.arA rfl i (by omega) (by omega) rfl rfl dX4_told_15 ?_
    refine lv_astore_n (lv' := [(3, .ref (ad 10 i)), (0, .ref (ad 0 0)), (1, .int (nI i)), (2, .int y)]) hx hb dX4_told_16 rfl hl (by decide) rfl (fun ls hl => ?_)
    refine lv_aload_n hx hb dX4_told_17 rfl (lv_at hl 1 rfl) ?_
    refine qr_get (ci := 4) (C := RX4) (T := TX4) (N := 7) hx hb hts hin4 hown hK hC.self rfl 4 (by decide) (hts (.fieldLink RX4 37 "QuorumLock" "voters" "[LQuorumLock$Voter;") (by decide +kernel)) rfl dX4_told_18 ?_
    refine lv_iload_n hx hb dX4_told_21 rfl (lv_at hl 2 rfl) ?_
    refine qr_aald (v := ad 11 i) hx hb hK 3 hC.arV rfl i (by omega) (by omega) rfl rfl dX4_told_22 ?_
    refine lv_astore (lv' := [(4, .ref (ad 11 i)), (3, .ref (ad 10 i)), (0, .ref (ad 0 0)), (1, .int (nI i)), (2, .int y)]) hx hb dX4_told_23 hl (by decide) rfl (fun ls hl => ?_)
    refine lv_iload_n hx hb dX4_told_25 rfl (lv_at hl 4 rfl) ?_
    by_cases hk0 : y = 0
    · refine q_ti (y := 0) hk0 ?_
      refine lv_tableIn (tgt := 72) hx hb dX4_told_26 (by decide) (by decide) rfl (by decide) ?_
      have hT := hI
      rw [q_told, if_pos hk0] at hT
      refine lv_aload_n hx hb dX4_told_72 rfl (lv_at hl 1 rfl) ?_
      refine qr_get (ci := 0) (C := RX0) (T := TX0) (N := 5) hx hb hts hin0 hown hK (hC.ask i hi) rfl 0 (by decide) (hts (.fieldLink RX4 74 "QuorumLock$Asker" "state" "I") (by decide +kernel)) rfl dX4_told_73 ?_
      exact q_iret hx hb hr hlocks hS ⟨hT.symm, hC⟩ dX4_told_76
    · by_cases hk1 : y = 1
      · refine q_ti (y := 1) hk1 ?_
        refine lv_tableIn (tgt := 77) hx hb dX4_told_26 (by decide) (by decide) rfl (by decide) ?_
        have hT := hI
        rw [q_told, if_neg hk0, if_pos hk1] at hT
        refine lv_aload_n hx hb dX4_told_77 rfl (lv_at hl 2 rfl) ?_
        refine qr_get (ci := 4) (C := RX4) (T := TX4) (N := 7) hx hb hts hin4 hown hK hC.self rfl 2 (by decide) (hts (.fieldLink RX4 26 "QuorumLock" "clocks" "[I") (by decide +kernel)) rfl dX4_told_78 ?_
        refine lv_iload_n hx hb dX4_told_81 rfl (lv_at hl 3 rfl) ?_
        refine qr_iald (v := (σ.1 0 i)) hx hb hK hC.clk i (by omega) (by omega) rfl rfl dX4_told_82 ?_
        exact q_iret hx hb hr hlocks hS ⟨hT.symm, hC⟩ dX4_told_83
      · by_cases hk2 : y = 2
        · refine q_ti (y := 2) hk2 ?_
          refine lv_tableIn (tgt := 84) hx hb dX4_told_26 (by decide) (by decide) rfl (by decide) ?_
          have hT := hI
          rw [q_told, if_neg hk0, if_neg hk1, if_pos hk2] at hT
          refine lv_aload_n hx hb dX4_told_84 rfl (lv_at hl 1 rfl) ?_
          refine qr_get (ci := 0) (C := RX0) (T := TX0) (N := 5) hx hb hts hin0 hown hK (hC.ask i hi) rfl 1 (by decide) (hts (.fieldLink RX4 80 "QuorumLock$Asker" "time" "I") (by decide +kernel)) rfl dX4_told_85 ?_
          exact q_iret hx hb hr hlocks hS ⟨hT.symm, hC⟩ dX4_told_88
        · by_cases hk3 : y = 3
          · refine q_ti (y := 3) hk3 ?_
            refine lv_tableIn (tgt := 89) hx hb dX4_told_26 (by decide) (by decide) rfl (by decide) ?_
            have hT := hI
            rw [q_told, if_neg hk0, if_neg hk1, if_neg hk2, if_pos hk3] at hT
            refine lv_aload_n hx hb dX4_told_89 rfl (lv_at hl 1 rfl) ?_
            refine qr_get (ci := 0) (C := RX0) (T := TX0) (N := 5) hx hb hts hin0 hown hK (hC.ask i hi) rfl 3 (by decide) (hts (.fieldLink RX4 120 "QuorumLock$Asker" "failures" "I") (by decide +kernel)) rfl dX4_told_90 ?_
            exact q_iret hx hb hr hlocks hS ⟨hT.symm, hC⟩ dX4_told_93
          · by_cases hk4 : y = 4
            · refine q_ti (y := 4) hk4 ?_
              refine lv_tableIn (tgt := 94) hx hb dX4_told_26 (by decide) (by decide) rfl (by decide) ?_
              have hT := hI
              rw [q_told, if_neg hk0, if_neg hk1, if_neg hk2, if_neg hk3, if_pos hk4] at hT
              refine lv_aload_n hx hb dX4_told_94 rfl (lv_at hl 1 rfl) ?_
              refine qr_get (ci := 0) (C := RX0) (T := TX0) (N := 5) hx hb hts hin0 hown hK (hC.ask i hi) rfl 4 (by decide) (hts (.fieldLink RX4 123 "QuorumLock$Asker" "inquiries" "I") (by decide +kernel)) rfl dX4_told_95 ?_
              exact q_iret hx hb hr hlocks hS ⟨hT.symm, hC⟩ dX4_told_98
            · by_cases hk5 : y = 5
              · refine q_ti (y := 5) hk5 ?_
                refine lv_tableIn (tgt := 99) hx hb dX4_told_26 (by decide) (by decide) rfl (by decide) ?_
                have hT := hI
                rw [q_told, if_neg hk0, if_neg hk1, if_neg hk2, if_neg hk3, if_neg hk4, if_pos hk5] at hT
                refine lv_aload_n hx hb dX4_told_99 rfl (lv_at hl 1 rfl) ?_
                refine qr_get (ci := 0) (C := RX0) (T := TX0) (N := 5) hx hb hts hin0 hown hK (hC.ask i hi) rfl 2 (by decide) (hts (.fieldLink RX4 94 "QuorumLock$Asker" "votes" "I") (by decide +kernel)) rfl dX4_told_100 ?_
                exact q_iret hx hb hr hlocks hS ⟨hT.symm, hC⟩ dX4_told_103
              · by_cases hk6 : y = 6
                · refine q_ti (y := 6) hk6 ?_
                  refine lv_tableIn (tgt := 104) hx hb dX4_told_26 (by decide) (by decide) rfl (by decide) ?_
                  have hT := hI
                  rw [q_told, if_neg hk0, if_neg hk1, if_neg hk2, if_neg hk3, if_neg hk4, if_neg hk5, if_pos hk6] at hT
                  refine lv_aload hx hb dX4_told_104 (lv_at hl 0 rfl) ?_
                  refine qr_get (ci := 2) (C := RX2) (T := TX2) (N := 4) hx hb hts hin2 hown hK (hC.vot i hi) rfl 3 (by decide) (hts (.fieldLink RX4 126 "QuorumLock$Voter" "inquired" "Z") (by decide +kernel)) rfl dX4_told_106 ?_
                  refine lv_if_eq (tgt := 116) hx hb dX4_told_109 (by decide) (fun c_109 => ?_) (fun c_109 => ?_)
                  · refine lv_iconst (v := 0) hx hb dX4_told_116 (by decide) ?_
                    exact q_iret hx hb hr hlocks hS ⟨by rw [hT]; first | rw [if_pos c_109] | rw [if_neg c_109], hC⟩ dX4_told_117
                  · refine lv_iconst (v := 1) hx hb dX4_told_112 (by decide) ?_
                    refine lv_goto (tgt := 117) hx hb dX4_told_113 (by decide) ?_
                    exact q_iret hx hb hr hlocks hS ⟨by rw [hT]; first | rw [if_pos c_109] | rw [if_neg c_109], hC⟩ dX4_told_117
                · by_cases hk7 : y = 7
                  · refine q_ti (y := 7) hk7 ?_
                    refine lv_tableIn (tgt := 118) hx hb dX4_told_26 (by decide) (by decide) rfl (by decide) ?_
                    have hT := hI
                    rw [q_told, if_neg hk0, if_neg hk1, if_neg hk2, if_neg hk3, if_neg hk4, if_neg hk5, if_neg hk6, if_pos hk7] at hT
                    refine lv_aload hx hb dX4_told_118 (lv_at hl 0 rfl) ?_
                    refine qr_get (ci := 2) (C := RX2) (T := TX2) (N := 4) hx hb hts hin2 hown hK (hC.vot i hi) rfl 0 (by decide) (hts (.fieldLink RX4 130 "QuorumLock$Voter" "row" "LQuorumLock$Row;") (by decide +kernel)) rfl dX4_told_120 ?_
                    refine qr_get (ci := 1) (C := RX1) (T := TX1) (N := 3) hx hb hts hin1 hown hK ((hC.row i hi).obj) rfl 2 (by decide) (hts (.fieldLink RX4 134 "QuorumLock$Row" "length" "I") (by decide +kernel)) rfl dX4_told_123 ?_
                    exact q_iret hx hb hr hlocks hS ⟨hT.symm, hC⟩ dX4_told_126
                  · refine lv_tableOut (tgt := 127) hx hb dX4_told_26 (q_sw8 hk0 hk1 hk2 hk3 hk4 hk5 hk6 hk7) (by decide) ?_
                    have hT := hI
                    rw [q_told, if_neg hk0, if_neg hk1, if_neg hk2, if_neg hk3, if_neg hk4, if_neg hk5, if_neg hk6, if_neg hk7] at hT
                    refine lv_iconst (v := (-1)) hx hb dX4_told_127 (by decide) ?_
                    exact q_iret hx hb hr hlocks hS ⟨hT.symm, hC⟩ dX4_told_128
  · refine Met.ofW (cc := cX4_told) (maxL := 5) (ret := (some .int)) (by decide) rfl ?_
    intro p e s m args below meth c s₁ B hml hv
    obtain ⟨rfl, hC, hK⟩ := hv
    have hx := B.exec
    have hb := B.bytes
    have hr := B.returns
    have hts := atoms_spec (ws := wsX4_told) B.pre
    have hown : s.vm.findClass RX4 = some m.cls := findClass_of_methodNamed B.named
    have hlocks := B.notSynchronized
    have hS : qS (qA n ad) s.heap s.heap [] := qS.rf
    have hl := lv_entry ([.ref (ad 0 0), .int x, .int y]) (n := 5) (Nat.le_of_ble_eq_true rfl)
    rw [lg_entry_eq]
    generalize (lg_sl ([.ref (ad 0 0), .int x, .int y]) ++ List.replicate (5 - (lg_sl ([.ref (ad 0 0), .int x, .int y])).length) Slot.unset).toArray = ls at hl ⊢
    have hin0 : ∀ w ∈ wsX00, w ∈ wsX4_told := by decide +kernel
    have hin1 : ∀ w ∈ wsX10, w ∈ wsX4_told := by decide +kernel
    have hin2 : ∀ w ∈ wsX20, w ∈ wsX4_told := by decide +kernel
    have hin4 : ∀ w ∈ wsX40, w ∈ wsX4_told := by decide +kernel
    have hn1 := hsq.n.1
    have hn16 := hsq.n.2
    have hI : q_toldI n σ x y = -1 := by rw [q_toldI, if_neg (by rw [hnx]; decide)]
    refine lv_aload_n hx hb dX4_told_0 rfl (lv_at hl 0 rfl) ?_
    refine lv_iload_n hx hb dX4_told_1 rfl (lv_at hl 1 rfl) ?_
    refine qc_i (va_runV (As := [.int x]) (rest := []) ⟨hx, hb, hml, hown, hts⟩ (c_X4_isNode l dd ga n k ad σ hsq hL x) (cwV 1 hts gX4_told_X4_isNode rfl rfl rfl (by decide +kernel) ⟨Nat.le_of_ble_eq_true rfl, Nat.le_of_ble_eq_true rfl⟩) (qpreV hK hC hC.self rfl) rfl rfl hl.1 rfl (lv_room (Nat.le_of_ble_eq_true rfl)) dX4_told_2 ⟨Nat.zero_le _, Nat.zero_le _⟩) hS (fun q h => h.elim) (fun v2 H locs hp9 hz9 ho9 hS => ?_)
    have ev2 : v2 = _ := hp9
    have hC := hC.same (fun q => ho9 q (fun h => h))
    refine lv_if_ne (tgt := 10) hx hb dX4_told_5 (by decide) (fun c_5 => absurd (by rw [ev2, if_neg (by rw [hnx]; decide)]) c_5) (fun c_5 => ?_)
    refine lv_iconst (v := (-1)) hx hb dX4_told_8 (by decide) ?_
    exact q_iret hx hb hr hlocks hS (⟨hI.symm, hC⟩) dX4_told_9
set_option maxHeartbeats 4000000 in
set_option maxRecDepth 100000 in
/-- X4_entered -/
theorem c_X4_entered (l : Launch) (dd : va_G) (ga : Nat → ClassId) (n k : Nat) (ad : Nat → Nat → Nat) (σ : qSt) (hsq : qSq n k) (hL : qL n ad) : Met l yX4_entered wsX4_entered ({ frames := 0, cells := 0, slots := 0, locals := 0 }) (qPc dd ga [.ref (ad 0 0)] (fun H => qC dd ga n k ad σ H)) (qQi (fun v H => v = σ.2.2.2.2 ∧ qC dd ga n k ad σ H) (qA n ad)) 0 0 (qA n ad) := by
  refine Met.ofW (cc := cX4_entered) (maxL := 1) (ret := (some .int)) (by decide) rfl ?_
  intro p e s m args below meth c s₁ B hml hv
  obtain ⟨rfl, hC, hK⟩ := hv
  have hx := B.exec
  have hb := B.bytes
  have hr := B.returns
  have hts := atoms_spec (ws := wsX4_entered) B.pre
  have hown : s.vm.findClass RX4 = some m.cls := findClass_of_methodNamed B.named
  have hlocks := B.notSynchronized
  have hS : qS (qA n ad) s.heap s.heap [] := qS.rf
  have hl := lv_entry ([.ref (ad 0 0)]) (n := 1) (Nat.le_of_ble_eq_true rfl)
  rw [lg_entry_eq]
  generalize (lg_sl ([.ref (ad 0 0)]) ++ List.replicate (1 - (lg_sl ([.ref (ad 0 0)])).length) Slot.unset).toArray = ls at hl ⊢
  have hin4 : ∀ w ∈ wsX40, w ∈ wsX4_entered := by decide +kernel
  have hn1 := hsq.n.1
  have hn16 := hsq.n.2
  refine lv_aload_n hx hb dX4_entered_0 rfl (lv_at hl 0 rfl) ?_
  refine qr_get (ci := 4) (C := RX4) (T := TX4) (N := 7) hx hb hts hin4 hown hK hC.self rfl 6 (by decide) (hts (.fieldLink RX4 67 "QuorumLock" "entries" "I") (by decide +kernel)) rfl dX4_entered_1 ?_
  exact q_iret hx hb hr hlocks hS (⟨rfl, hC⟩) dX4_entered_4
set_option maxHeartbeats 4000000 in
set_option maxRecDepth 100000 in
/-- X4_holder -/
theorem c_X4_holder (l : Launch) (dd : va_G) (ga : Nat → ClassId) (n k : Nat) (ad : Nat → Nat → Nat) (σ : qSt) (hsq : qSq n k) (hL : qL n ad) : Met l yX4_holder wsX4_holder ({ frames := 0, cells := 0, slots := 0, locals := 0 }) (qPc dd ga [.ref (ad 0 0)] (fun H => qC dd ga n k ad σ H)) (qQi (fun v H => v = q_holder σ n 0 ∧ qC dd ga n k ad σ H) (qA n ad)) 0 0 (qA n ad) := by
  refine Met.ofW (cc := cX4_holder) (maxL := 2) (ret := (some .int)) (by decide) rfl ?_
  intro p e s m args below meth c s₁ B hml hv
  obtain ⟨rfl, hC, hK⟩ := hv
  have hx := B.exec
  have hb := B.bytes
  have hr := B.returns
  have hts := atoms_spec (ws := wsX4_holder) B.pre
  have hown : s.vm.findClass RX4 = some m.cls := findClass_of_methodNamed B.named
  have hlocks := B.notSynchronized
  have hS : qS (qA n ad) s.heap s.heap [] := qS.rf
  have hl := lv_entry ([.ref (ad 0 0)]) (n := 2) (Nat.le_of_ble_eq_true rfl)
  rw [lg_entry_eq]
  generalize (lg_sl ([.ref (ad 0 0)]) ++ List.replicate (2 - (lg_sl ([.ref (ad 0 0)])).length) Slot.unset).toArray = ls at hl ⊢
  have hin0 : ∀ w ∈ wsX00, w ∈ wsX4_holder := by decide +kernel
  have hin4 : ∀ w ∈ wsX40, w ∈ wsX4_holder := by decide +kernel
  have hn1 := hsq.n.1
  have hn16 := hsq.n.2
  have hloop : ∀ (c9 i9 : Nat) (ls : Array Slot), i9 + c9 = n → q_holder σ n 0 = q_holder σ c9 i9 → lv_has ls 2 [(1, .int (nI i9)), (0, .ref (ad 0 0))] → W p l e (headSpec wsX4_holder ({ frames := 0, cells := 0, slots := 0, locals := 0 })).room s m (([.ref (ad 0 0)] : List Value).toArray) below meth c s.heap [] 0 0 (MQ below (qQi (fun v H => v = q_holder σ n 0 ∧ qC dd ga n k ad σ H) (qA n ad)) (([.ref (ad 0 0)] : List Value).toArray) s 0 0 (qA n ad)) (F0 m 2 ls []) := by
    intro c9
    induction c9 with
    | zero =>
      intro i9 ls hc he hl
      refine lv_iload_n hx hb dX4_holder_2 rfl (lv_at hl 0 rfl) ?_
      refine lv_aload_n hx hb dX4_holder_3 rfl (lv_at hl 1 rfl) ?_
      refine qr_get (ci := 4) (C := RX4) (T := TX4) (N := 7) hx hb hts hin4 hown hK hC.self rfl 0 (by decide) (hts (.fieldLink RX4 18 "QuorumLock" "nodes" "I") (by decide +kernel)) rfl dX4_holder_4 ?_
      refine lv_icmp_ge (tgt := 31) hx hb dX4_holder_7 (by decide) (fun c_7 => ?_) (fun c_7 => absurd (nI_le (show n ≤ i9 by omega) (by omega)) c_7)
      refine lv_iconst (v := (-1)) hx hb dX4_holder_31 (by decide) ?_
      exact q_iret hx hb hr hlocks hS (⟨he.symm, hC⟩) dX4_holder_32
    | succ c9 ih =>
      intro i9 ls hc he hl
      have hi9 : i9 < n := by omega
      refine lv_iload_n hx hb dX4_holder_2 rfl (lv_at hl 0 rfl) ?_
      refine lv_aload_n hx hb dX4_holder_3 rfl (lv_at hl 1 rfl) ?_
      refine qr_get (ci := 4) (C := RX4) (T := TX4) (N := 7) hx hb hts hin4 hown hK hC.self rfl 0 (by decide) (hts (.fieldLink RX4 18 "QuorumLock" "nodes" "I") (by decide +kernel)) rfl dX4_holder_4 ?_
      refine lv_icmp_ge (tgt := 31) hx hb dX4_holder_7 (by decide) (fun c_7 => absurd c_7 (nI_ge (by omega) (by omega))) (fun c_7 => ?_)
      refine lv_aload_n hx hb dX4_holder_10 rfl (lv_at hl 1 rfl) ?_
      refine qr_get (ci := 4) (C := RX4) (T := TX4) (N := 7) hx hb hts hin4 hown hK hC.self rfl 3 (by decide) (hts (.fieldLink RX4 31 "QuorumLock" "askers" "[LQuorumLock$Asker;") (by decide +kernel)) rfl dX4_holder_11 ?_
      refine lv_iload_n hx hb dX4_holder_14 rfl (lv_at hl 0 rfl) ?_
      refine qr_aald (v := ad 10 i9) hx hb hK 2 hC.arA rfl i9 (by omega) (by omega) rfl rfl dX4_holder_15 ?_
      refine qr_get (ci := 0) (C := RX0) (T := TX0) (N := 5) hx hb hts hin0 hown hK (hC.ask i9 hi9) rfl 0 (by decide) (hts (.fieldLink RX4 74 "QuorumLock$Asker" "state" "I") (by decide +kernel)) rfl dX4_holder_16 ?_
      refine lv_iconst (v := 2) hx hb dX4_holder_19 (by decide) ?_
      refine lv_icmp_ne (tgt := 25) hx hb dX4_holder_20 (by decide) (fun c_20 => ?_) (fun c_20 => ?_)
      · refine lv_iinc (v := nI (i9 + 1)) (lv' := [(1, .int (nI (i9 + 1))), (0, .ref (ad 0 0))]) hx hb dX4_holder_25 hl (k := 0) rfl (nI_1 _) (by decide) rfl (fun ls hl => ?_)
        refine lv_goto (tgt := 2) hx hb dX4_holder_28 (by decide) ?_
        exact ih (i9 + 1) ls (by omega) (by rw [he, q_holder, if_neg c_20]) (lv_sub hl [0, 1] rfl)
      · refine lv_iload_n hx hb dX4_holder_23 rfl (lv_at hl 0 rfl) ?_
        exact q_iret hx hb hr hlocks hS (⟨by rw [he, q_holder, if_pos c_20], hC⟩) dX4_holder_24
  refine lv_iconst (v := nI 0) hx hb dX4_holder_0 (by decide) ?_
  refine lv_istore_n (lv' := [(1, .int (nI 0)), (0, .ref (ad 0 0))]) hx hb dX4_holder_1 rfl hl (by decide) rfl (fun ls hl => ?_)
  exact hloop n 0 ls (by omega) rfl (lv_sub hl [0, 1] rfl)
set_option maxHeartbeats 4000000 in
set_option maxRecDepth 100000 in
/-- X4_waiting -/
theorem c_X4_waiting (l : Launch) (dd : va_G) (ga : Nat → ClassId) (n k : Nat) (ad : Nat → Nat → Nat) (σ : qSt) (hsq : qSq n k) (hL : qL n ad) (x y : Int32) : Met l yX4_waiting wsX4_waiting ({ frames := 2, cells := 0, slots := 0, locals := 44 }) (qPc dd ga [.ref (ad 0 0), .int x, .int y] (fun H => qC dd ga n k ad σ H)) (qQi (fun v H => v = q_waitingI n σ x y ∧ qC dd ga n k ad σ H) (qA n ad)) 0 0 (qA n ad) := by
  by_cases hnx : q_node n x = true ∧ q_node n y = true
  · obtain ⟨f, hf, rfl⟩ : ∃ f : Nat, f < n ∧ x = nI f := by
      rcases q_nodeC hsq.n.2 x with h | h
      · exact h.2
      · rw [h] at hnx; exact absurd hnx.1 (by decide)
    obtain ⟨t, ht, rfl⟩ : ∃ t : Nat, t < n ∧ y = nI t := by
      rcases q_nodeC hsq.n.2 y with h | h
      · exact h.2
      · rw [h] at hnx; exact absurd hnx.2 (by decide)
    refine Met.ofW (cc := cX4_waiting) (maxL := 3) (ret := (some .int)) (by decide) rfl ?_
    intro p e s m args below meth c s₁ B hml hv
    obtain ⟨rfl, hC, hK⟩ := hv
    have hx := B.exec
    have hb := B.bytes
    have hr := B.returns
    have hts := atoms_spec (ws := wsX4_waiting) B.pre
    have hown : s.vm.findClass RX4 = some m.cls := findClass_of_methodNamed B.named
    have hlocks := B.notSynchronized
    have hS : qS (qA n ad) s.heap s.heap [] := qS.rf
    have hl := lv_entry ([.ref (ad 0 0), .int (nI f), .int (nI t)]) (n := 3) (Nat.le_of_ble_eq_true rfl)
    rw [lg_entry_eq]
    generalize (lg_sl ([.ref (ad 0 0), .int (nI f), .int (nI t)]) ++ List.replicate (3 - (lg_sl ([.ref (ad 0 0), .int (nI f), .int (nI t)])).length) Slot.unset).toArray = ls at hl ⊢
    have hin4 : ∀ w ∈ wsX40, w ∈ wsX4_waiting := by decide +kernel
    have hn1 := hsq.n.1
    have hn16 := hsq.n.2
    have hI : q_waitingI n σ (nI f) (nI t) = nI (σ.2.2.2.1 f t).length := by rw [q_waitingI, if_pos hnx, nI_clamp (by omega), nI_clamp (by omega)]
    refine lv_aload_n hx hb dX4_waiting_0 rfl (lv_at hl 0 rfl) ?_
    refine lv_iload_n hx hb dX4_waiting_1 rfl (lv_at hl 1 rfl) ?_
    refine lv_iload_n hx hb dX4_waiting_2 rfl (lv_at hl 2 rfl) ?_
    refine qc_i (va_runV (As := [.int (nI f), .int (nI t)]) (rest := []) ⟨hx, hb, hml, hown, hts⟩ (c_X4_isWire l dd ga n k ad σ hsq hL (nI f) (nI t)) (cwV 2 hts gX4_waiting_X4_isWire rfl rfl rfl (by decide +kernel) ⟨Nat.le_of_ble_eq_true rfl, Nat.le_of_ble_eq_true rfl⟩) (qpreV hK hC hC.self rfl) rfl rfl hl.1 rfl (lv_room (Nat.le_of_ble_eq_true rfl)) dX4_waiting_3 ⟨Nat.zero_le _, Nat.zero_le _⟩) hS (fun q h => h.elim) (fun v3 H locs hp9 hz9 ho9 hS => ?_)
    have ev3 : v3 = _ := hp9
    have hC := hC.same (fun q => ho9 q (fun h => h))
    refine lv_if_eq (tgt := 21) hx hb dX4_waiting_6 (by decide) (fun c_6 => absurd c_6 (by rw [ev3, if_pos hnx]; decide)) (fun c_6 => ?_)
    refine lv_aload_n hx hb dX4_waiting_9 rfl (lv_at hl 0 rfl) ?_
    refine qr_get (ci := 4) (C := RX4) (T := TX4) (N := 7) hx hb hts hin4 hown hK hC.self rfl 5 (by decide) (hts (.fieldLink RX4 46 "QuorumLock" "wires" "LQuorumLock$Wires;") (by decide +kernel)) rfl dX4_waiting_10 ?_
    refine lv_iload_n hx hb dX4_waiting_13 rfl (lv_at hl 1 rfl) ?_
    refine lv_iload_n hx hb dX4_waiting_14 rfl (lv_at hl 2 rfl) ?_
    refine qc_i (va_runV (As := [.int (nI f), .int (nI t)]) (rest := []) ⟨hx, hb, hml, hown, hts⟩ (c_X3_count l dd ga n (ad 5 0) (ad 6 0) (ad 7 0) (ad 8 0) (ad 9 0) σ.2.2.2.1 f t hn16 hf ht) (cwV 2 hts gX4_waiting_X3_count rfl rfl rfl (by decide +kernel) ⟨Nat.le_of_ble_eq_true rfl, Nat.le_of_ble_eq_true rfl⟩) (qpreV hK hC.wir hC.wir.obj rfl) rfl rfl hl.1 rfl (lv_room (Nat.le_of_ble_eq_true rfl)) dX4_waiting_15 ⟨Nat.zero_le _, Nat.zero_le _⟩) hS (fun q h => h.elim) (fun v15 H locs hp9 hz9 ho9 hS => ?_)
    subst hp9
    have hC := hC.same (fun q => ho9 q (fun h => h))
    refine lv_goto (tgt := 22) hx hb dX4_waiting_18 (by decide) ?_
    exact q_iret hx hb hr hlocks hS (⟨hI.symm, hC⟩) dX4_waiting_22
  · refine Met.ofW (cc := cX4_waiting) (maxL := 3) (ret := (some .int)) (by decide) rfl ?_
    intro p e s m args below meth c s₁ B hml hv
    obtain ⟨rfl, hC, hK⟩ := hv
    have hx := B.exec
    have hb := B.bytes
    have hr := B.returns
    have hts := atoms_spec (ws := wsX4_waiting) B.pre
    have hown : s.vm.findClass RX4 = some m.cls := findClass_of_methodNamed B.named
    have hlocks := B.notSynchronized
    have hS : qS (qA n ad) s.heap s.heap [] := qS.rf
    have hl := lv_entry ([.ref (ad 0 0), .int x, .int y]) (n := 3) (Nat.le_of_ble_eq_true rfl)
    rw [lg_entry_eq]
    generalize (lg_sl ([.ref (ad 0 0), .int x, .int y]) ++ List.replicate (3 - (lg_sl ([.ref (ad 0 0), .int x, .int y])).length) Slot.unset).toArray = ls at hl ⊢
    have hin4 : ∀ w ∈ wsX40, w ∈ wsX4_waiting := by decide +kernel
    have hn1 := hsq.n.1
    have hn16 := hsq.n.2
    have hI : q_waitingI n σ x y = -1 := by rw [q_waitingI, if_neg hnx]
    refine lv_aload_n hx hb dX4_waiting_0 rfl (lv_at hl 0 rfl) ?_
    refine lv_iload_n hx hb dX4_waiting_1 rfl (lv_at hl 1 rfl) ?_
    refine lv_iload_n hx hb dX4_waiting_2 rfl (lv_at hl 2 rfl) ?_
    refine qc_i (va_runV (As := [.int x, .int y]) (rest := []) ⟨hx, hb, hml, hown, hts⟩ (c_X4_isWire l dd ga n k ad σ hsq hL x y) (cwV 2 hts gX4_waiting_X4_isWire rfl rfl rfl (by decide +kernel) ⟨Nat.le_of_ble_eq_true rfl, Nat.le_of_ble_eq_true rfl⟩) (qpreV hK hC hC.self rfl) rfl rfl hl.1 rfl (lv_room (Nat.le_of_ble_eq_true rfl)) dX4_waiting_3 ⟨Nat.zero_le _, Nat.zero_le _⟩) hS (fun q h => h.elim) (fun v3 H locs hp9 hz9 ho9 hS => ?_)
    have ev3 : v3 = _ := hp9
    have hC := hC.same (fun q => ho9 q (fun h => h))
    refine lv_if_eq (tgt := 21) hx hb dX4_waiting_6 (by decide) (fun c_6 => ?_) (fun c_6 => absurd (by rw [ev3, if_neg hnx]) c_6)
    refine lv_iconst (v := (-1)) hx hb dX4_waiting_21 (by decide) ?_
    exact q_iret hx hb hr hlocks hS (⟨hI.symm, hC⟩) dX4_waiting_22
set_option maxHeartbeats 4000000 in
set_option maxRecDepth 100000 in
/-- X4_look -/
theorem c_X4_look (l : Launch) (dd : va_G) (ga : Nat → ClassId) (n k : Nat) (ad : Nat → Nat → Nat) (σ : qSt) (hsq : qSq n k) (hL : qL n ad) (x y : Int32) (u v : Int32) : Met l yX4_look wsX4_look ({ frames := 2, cells := 0, slots := 0, locals := 47 }) (qPc dd ga [.ref (ad 0 0), .int x, .int y, .int u, .int v] (fun H => qC dd ga n k ad σ H)) (qQi (fun z H => z = q_lookI n σ x y u v ∧ qC dd ga n k ad σ H) (qA n ad)) 0 0 (qA n ad) := by
  by_cases hnx : q_node n x = true ∧ q_node n y = true
  · obtain ⟨f, hf, rfl⟩ : ∃ f : Nat, f < n ∧ x = nI f := by
      rcases q_nodeC hsq.n.2 x with h | h
      · exact h.2
      · rw [h] at hnx; exact absurd hnx.1 (by decide)
    obtain ⟨t, ht, rfl⟩ : ∃ t : Nat, t < n ∧ y = nI t := by
      rcases q_nodeC hsq.n.2 y with h | h
      · exact h.2
      · rw [h] at hnx; exact absurd hnx.2 (by decide)
    refine Met.ofW (cc := cX4_look) (maxL := 5) (ret := (some .int)) (by decide) rfl ?_
    intro p e s m args below meth c s₁ B hml hv
    obtain ⟨rfl, hC, hK⟩ := hv
    have hx := B.exec
    have hb := B.bytes
    have hr := B.returns
    have hts := atoms_spec (ws := wsX4_look) B.pre
    have hown : s.vm.findClass RX4 = some m.cls := findClass_of_methodNamed B.named
    have hlocks := B.notSynchronized
    have hS : qS (qA n ad) s.heap s.heap [] := qS.rf
    have hl := lv_entry ([.ref (ad 0 0), .int (nI f), .int (nI t), .int u, .int v]) (n := 5) (Nat.le_of_ble_eq_true rfl)
    rw [lg_entry_eq]
    generalize (lg_sl ([.ref (ad 0 0), .int (nI f), .int (nI t), .int u, .int v]) ++ List.replicate (5 - (lg_sl ([.ref (ad 0 0), .int (nI f), .int (nI t), .int u, .int v])).length) Slot.unset).toArray = ls at hl ⊢
    have hin4 : ∀ w ∈ wsX40, w ∈ wsX4_look := by decide +kernel
    have hn1 := hsq.n.1
    have hn16 := hsq.n.2
    have hI : q_lookI n σ (nI f) (nI t) u v = q_part (σ.2.2.2.1 f t) u v := by rw [q_lookI, if_pos hnx, nI_clamp (by omega), nI_clamp (by omega)]
    refine lv_aload_n hx hb dX4_look_0 rfl (lv_at hl 0 rfl) ?_
    refine lv_iload_n hx hb dX4_look_1 rfl (lv_at hl 1 rfl) ?_
    refine lv_iload_n hx hb dX4_look_2 rfl (lv_at hl 2 rfl) ?_
    refine qc_i (va_runV (As := [.int (nI f), .int (nI t)]) (rest := []) ⟨hx, hb, hml, hown, hts⟩ (c_X4_isWire l dd ga n k ad σ hsq hL (nI f) (nI t)) (cwV 2 hts gX4_look_X4_isWire rfl rfl rfl (by decide +kernel) ⟨Nat.le_of_ble_eq_true rfl, Nat.le_of_ble_eq_true rfl⟩) (qpreV hK hC hC.self rfl) rfl rfl hl.1 rfl (lv_room (Nat.le_of_ble_eq_true rfl)) dX4_look_3 ⟨Nat.zero_le _, Nat.zero_le _⟩) hS (fun q h => h.elim) (fun v3 H locs hp9 hz9 ho9 hS => ?_)
    have ev3 : v3 = _ := hp9
    have hC := hC.same (fun q => ho9 q (fun h => h))
    refine lv_if_eq (tgt := 24) hx hb dX4_look_6 (by decide) (fun c_6 => absurd c_6 (by rw [ev3, if_pos hnx]; decide)) (fun c_6 => ?_)
    refine lv_aload_n hx hb dX4_look_9 rfl (lv_at hl 0 rfl) ?_
    refine qr_get (ci := 4) (C := RX4) (T := TX4) (N := 7) hx hb hts hin4 hown hK hC.self rfl 5 (by decide) (hts (.fieldLink RX4 46 "QuorumLock" "wires" "LQuorumLock$Wires;") (by decide +kernel)) rfl dX4_look_10 ?_
    refine lv_iload_n hx hb dX4_look_13 rfl (lv_at hl 1 rfl) ?_
    refine lv_iload_n hx hb dX4_look_14 rfl (lv_at hl 2 rfl) ?_
    refine lv_iload_n hx hb dX4_look_15 rfl (lv_at hl 3 rfl) ?_
    refine lv_iload hx hb dX4_look_16 (lv_at hl 4 rfl) ?_
    refine qc_i (va_runV (As := [.int (nI f), .int (nI t), .int u, .int v]) (rest := []) ⟨hx, hb, hml, hown, hts⟩ (c_X3_part l dd ga n (ad 5 0) (ad 6 0) (ad 7 0) (ad 8 0) (ad 9 0) σ.2.2.2.1 f t hn16 hf ht u v) (cwV 4 hts gX4_look_X3_part rfl rfl rfl (by decide +kernel) ⟨Nat.le_of_ble_eq_true rfl, Nat.le_of_ble_eq_true rfl⟩) (qpreV hK hC.wir hC.wir.obj rfl) rfl rfl hl.1 rfl (lv_room (Nat.le_of_ble_eq_true rfl)) dX4_look_18 ⟨Nat.zero_le _, Nat.zero_le _⟩) hS (fun q h => h.elim) (fun v18 H locs hp9 hz9 ho9 hS => ?_)
    subst hp9
    have hC := hC.same (fun q => ho9 q (fun h => h))
    refine lv_goto (tgt := 25) hx hb dX4_look_21 (by decide) ?_
    exact q_iret hx hb hr hlocks hS (⟨hI.symm, hC⟩) dX4_look_25
  · refine Met.ofW (cc := cX4_look) (maxL := 5) (ret := (some .int)) (by decide) rfl ?_
    intro p e s m args below meth c s₁ B hml hv
    obtain ⟨rfl, hC, hK⟩ := hv
    have hx := B.exec
    have hb := B.bytes
    have hr := B.returns
    have hts := atoms_spec (ws := wsX4_look) B.pre
    have hown : s.vm.findClass RX4 = some m.cls := findClass_of_methodNamed B.named
    have hlocks := B.notSynchronized
    have hS : qS (qA n ad) s.heap s.heap [] := qS.rf
    have hl := lv_entry ([.ref (ad 0 0), .int x, .int y, .int u, .int v]) (n := 5) (Nat.le_of_ble_eq_true rfl)
    rw [lg_entry_eq]
    generalize (lg_sl ([.ref (ad 0 0), .int x, .int y, .int u, .int v]) ++ List.replicate (5 - (lg_sl ([.ref (ad 0 0), .int x, .int y, .int u, .int v])).length) Slot.unset).toArray = ls at hl ⊢
    have hin4 : ∀ w ∈ wsX40, w ∈ wsX4_look := by decide +kernel
    have hn1 := hsq.n.1
    have hn16 := hsq.n.2
    have hI : q_lookI n σ x y u v = -1 := by rw [q_lookI, if_neg hnx]
    refine lv_aload_n hx hb dX4_look_0 rfl (lv_at hl 0 rfl) ?_
    refine lv_iload_n hx hb dX4_look_1 rfl (lv_at hl 1 rfl) ?_
    refine lv_iload_n hx hb dX4_look_2 rfl (lv_at hl 2 rfl) ?_
    refine qc_i (va_runV (As := [.int x, .int y]) (rest := []) ⟨hx, hb, hml, hown, hts⟩ (c_X4_isWire l dd ga n k ad σ hsq hL x y) (cwV 2 hts gX4_look_X4_isWire rfl rfl rfl (by decide +kernel) ⟨Nat.le_of_ble_eq_true rfl, Nat.le_of_ble_eq_true rfl⟩) (qpreV hK hC hC.self rfl) rfl rfl hl.1 rfl (lv_room (Nat.le_of_ble_eq_true rfl)) dX4_look_3 ⟨Nat.zero_le _, Nat.zero_le _⟩) hS (fun q h => h.elim) (fun v3 H locs hp9 hz9 ho9 hS => ?_)
    have ev3 : v3 = _ := hp9
    have hC := hC.same (fun q => ho9 q (fun h => h))
    refine lv_if_eq (tgt := 24) hx hb dX4_look_6 (by decide) (fun c_6 => ?_) (fun c_6 => absurd (by rw [ev3, if_neg hnx]) c_6)
    refine lv_iconst (v := (-1)) hx hb dX4_look_24 (by decide) ?_
    exact q_iret hx hb hr hlocks hS (⟨hI.symm, hC⟩) dX4_look_25
set_option maxHeartbeats 4000000 in
set_option maxRecDepth 100000 in
/-- X4_deliver -/
theorem c_X4_deliver (l : Launch) (dd : va_G) (ga : Nat → ClassId) (n k : Nat) (ad : Nat → Nat → Nat) (σ : qSt) (hsq : qSq n k) (hL : qL n ad) (x y : Int32) (hcap : qCap n k σ) : Met l yX4_deliver wsX4_deliver ({ frames := 6, cells := 0, slots := 0, locals := 147 }) (qPc dd ga [.ref (ad 0 0), .int x, .int y] (fun H => qC dd ga n k ad σ H)) (qQi (fun v H => v = (q_deliverI n σ x y).1 ∧ qC dd ga n k ad (q_deliverI n σ x y).2 H) (qA n ad)) 0 0 (qA n ad) := by
  by_cases hnx : q_node n x = true ∧ q_node n y = true
  · obtain ⟨f, hf, rfl⟩ : ∃ f : Nat, f < n ∧ x = nI f := by
      rcases q_nodeC hsq.n.2 x with h | h
      · exact h.2
      · rw [h] at hnx; exact absurd hnx.1 (by decide)
    obtain ⟨t, ht, rfl⟩ : ∃ t : Nat, t < n ∧ y = nI t := by
      rcases q_nodeC hsq.n.2 y with h | h
      · exact h.2
      · rw [h] at hnx; exact absurd hnx.2 (by decide)
    refine Met.ofW (cc := cX4_deliver) (maxL := 3) (ret := (some .int)) (by decide) rfl ?_
    intro p e s m args below meth c s₁ B hml hv
    obtain ⟨rfl, hC, hK⟩ := hv
    have hx := B.exec
    have hb := B.bytes
    have hr := B.returns
    have hts := atoms_spec (ws := wsX4_deliver) B.pre
    have hown : s.vm.findClass RX4 = some m.cls := findClass_of_methodNamed B.named
    have hlocks := B.notSynchronized
    have hS : qS (qA n ad) s.heap s.heap [] := qS.rf
    have hl := lv_entry ([.ref (ad 0 0), .int (nI f), .int (nI t)]) (n := 3) (Nat.le_of_ble_eq_true rfl)
    rw [lg_entry_eq]
    generalize (lg_sl ([.ref (ad 0 0), .int (nI f), .int (nI t)]) ++ List.replicate (3 - (lg_sl ([.ref (ad 0 0), .int (nI f), .int (nI t)])).length) Slot.unset).toArray = ls at hl ⊢
    have hin4 : ∀ w ∈ wsX40, w ∈ wsX4_deliver := by decide +kernel
    have hn1 := hsq.n.1
    have hn16 := hsq.n.2
    have hI : q_deliverI n σ (nI f) (nI t) = q_deliver n σ f t := by rw [q_deliverI, if_pos hnx, nI_clamp (by omega), nI_clamp (by omega)]
    refine lv_aload_n hx hb dX4_deliver_0 rfl (lv_at hl 0 rfl) ?_
    refine lv_iload_n hx hb dX4_deliver_1 rfl (lv_at hl 1 rfl) ?_
    refine lv_iload_n hx hb dX4_deliver_2 rfl (lv_at hl 2 rfl) ?_
    refine qc_i (va_runV (As := [.int (nI f), .int (nI t)]) (rest := []) ⟨hx, hb, hml, hown, hts⟩ (c_X4_isWire l dd ga n k ad σ hsq hL (nI f) (nI t)) (cwV 2 hts gX4_deliver_X4_isWire rfl rfl rfl (by decide +kernel) ⟨Nat.le_of_ble_eq_true rfl, Nat.le_of_ble_eq_true rfl⟩) (qpreV hK hC hC.self rfl) rfl rfl hl.1 rfl (lv_room (Nat.le_of_ble_eq_true rfl)) dX4_deliver_3 ⟨Nat.zero_le _, Nat.zero_le _⟩) hS (fun q h => h.elim) (fun v3 H locs hp9 hz9 ho9 hS => ?_)
    have ev3 : v3 = _ := hp9
    have hC := hC.same (fun q => ho9 q (fun h => h))
    refine lv_if_ne (tgt := 11) hx hb dX4_deliver_6 (by decide) (fun c_6 => ?_) (fun c_6 => absurd c_6 (by rw [ev3, if_pos hnx]; decide))
    refine lv_aload_n hx hb dX4_deliver_11 rfl (lv_at hl 0 rfl) ?_
    refine lv_iload_n hx hb dX4_deliver_12 rfl (lv_at hl 1 rfl) ?_
    refine lv_iload_n hx hb dX4_deliver_13 rfl (lv_at hl 2 rfl) ?_
    refine qc_i (va_runV (As := [.int (nI f), .int (nI t)]) (rest := []) ⟨hx, hb, hml, hown, hts⟩ (c_X4_deliverOldest l dd ga n k ad σ hsq hL f t hf ht hcap) (cwV 2 hts gX4_deliver_X4_deliverOldest rfl rfl rfl (by decide +kernel) ⟨Nat.le_of_ble_eq_true rfl, Nat.le_of_ble_eq_true rfl⟩) (qpreV hK hC hC.self rfl) rfl rfl hl.1 rfl (lv_room (Nat.le_of_ble_eq_true rfl)) dX4_deliver_14 ⟨Nat.zero_le _, Nat.zero_le _⟩) hS (fun q h => h) (fun v14 H locs hp9 hz9 ho9 hS => ?_)
    obtain ⟨hv14, hC⟩ := hp9
    exact q_iret hx hb hr hlocks hS (by rw [hI]; exact ⟨hv14, hC⟩) dX4_deliver_17
  · refine Met.ofW (cc := cX4_deliver) (maxL := 3) (ret := (some .int)) (by decide) rfl ?_
    intro p e s m args below meth c s₁ B hml hv
    obtain ⟨rfl, hC, hK⟩ := hv
    have hx := B.exec
    have hb := B.bytes
    have hr := B.returns
    have hts := atoms_spec (ws := wsX4_deliver) B.pre
    have hown : s.vm.findClass RX4 = some m.cls := findClass_of_methodNamed B.named
    have hlocks := B.notSynchronized
    have hS : qS (qA n ad) s.heap s.heap [] := qS.rf
    have hl := lv_entry ([.ref (ad 0 0), .int x, .int y]) (n := 3) (Nat.le_of_ble_eq_true rfl)
    rw [lg_entry_eq]
    generalize (lg_sl ([.ref (ad 0 0), .int x, .int y]) ++ List.replicate (3 - (lg_sl ([.ref (ad 0 0), .int x, .int y])).length) Slot.unset).toArray = ls at hl ⊢
    have hin4 : ∀ w ∈ wsX40, w ∈ wsX4_deliver := by decide +kernel
    have hn1 := hsq.n.1
    have hn16 := hsq.n.2
    have hI : q_deliverI n σ x y = (-1, σ) := by rw [q_deliverI, if_neg hnx]
    refine lv_aload_n hx hb dX4_deliver_0 rfl (lv_at hl 0 rfl) ?_
    refine lv_iload_n hx hb dX4_deliver_1 rfl (lv_at hl 1 rfl) ?_
    refine lv_iload_n hx hb dX4_deliver_2 rfl (lv_at hl 2 rfl) ?_
    refine qc_i (va_runV (As := [.int x, .int y]) (rest := []) ⟨hx, hb, hml, hown, hts⟩ (c_X4_isWire l dd ga n k ad σ hsq hL x y) (cwV 2 hts gX4_deliver_X4_isWire rfl rfl rfl (by decide +kernel) ⟨Nat.le_of_ble_eq_true rfl, Nat.le_of_ble_eq_true rfl⟩) (qpreV hK hC hC.self rfl) rfl rfl hl.1 rfl (lv_room (Nat.le_of_ble_eq_true rfl)) dX4_deliver_3 ⟨Nat.zero_le _, Nat.zero_le _⟩) hS (fun q h => h.elim) (fun v3 H locs hp9 hz9 ho9 hS => ?_)
    have ev3 : v3 = _ := hp9
    have hC := hC.same (fun q => ho9 q (fun h => h))
    refine lv_if_ne (tgt := 11) hx hb dX4_deliver_6 (by decide) (fun c_6 => absurd (by rw [ev3, if_neg hnx]) c_6) (fun c_6 => ?_)
    refine lv_iconst (v := (-1)) hx hb dX4_deliver_9 (by decide) ?_
    exact q_iret hx hb hr hlocks hS (by rw [hI]; exact ⟨rfl, hC⟩) dX4_deliver_10
set_option maxHeartbeats 4000000 in
set_option maxRecDepth 100000 in
/-- X4_settle -/
theorem c_X4_settle (l : Launch) (dd : va_G) (ga : Nat → ClassId) (n k : Nat) (ad : Nat → Nat → Nat) (σ : qSt) (hsq : qSq n k) (hL : qL n ad) (x : Int32) (I : Nat → qSt → Prop) (hI1 : ∀ c τ, I c τ → qCap n k τ) (hI2 : ∀ c τ f t, f < n → t < n → I (c + 1) τ → I c (q_deliver n τ f t).2) (hI0 : I 500 σ) (hI3 : ∀ c d τ, d ≤ c → I c τ → I d τ) : Met l yX4_settle wsX4_settle ({ frames := 6, cells := 0, slots := 0, locals := 147 }) (qPc dd ga [.ref (ad 0 0), .int x] (fun H => qC dd ga n k ad σ H)) (qQi (fun v H => v = (q_settleI n σ x).1 ∧ qC dd ga n k ad (q_settleI n σ x).2 H) (qA n ad)) 0 0 (qA n ad) := by
  refine Met.ofW (cc := cX4_settle) (maxL := 5) (ret := (some .int)) (by decide) rfl ?_
  intro p e s m args below meth c s₁ B hml hv
  obtain ⟨rfl, hC, hK⟩ := hv
  have hx := B.exec
  have hb := B.bytes
  have hr := B.returns
  have hts := atoms_spec (ws := wsX4_settle) B.pre
  have hown : s.vm.findClass RX4 = some m.cls := findClass_of_methodNamed B.named
  have hlocks := B.notSynchronized
  have hS : qS (qA n ad) s.heap s.heap [] := qS.rf
  have hl := lv_entry ([.ref (ad 0 0), .int x]) (n := 5) (Nat.le_of_ble_eq_true rfl)
  rw [lg_entry_eq]
  generalize (lg_sl ([.ref (ad 0 0), .int x]) ++ List.replicate (5 - (lg_sl ([.ref (ad 0 0), .int x])).length) Slot.unset).toArray = ls at hl ⊢
  have hin4 : ∀ w ∈ wsX40, w ∈ wsX4_settle := by decide +kernel
  have hn1 := hsq.n.1
  have hn16 := hsq.n.2
  refine lv_iload_n hx hb dX4_settle_0 rfl (lv_at hl 1 rfl) ?_
  refine lv_iconst (v := 1) hx hb dX4_settle_1 (by decide) ?_
  refine lv_icmp_lt (tgt := 12) hx hb dX4_settle_2 (by decide) (fun c_2 => ?_) (fun c_2 => ?_)
  · have hfin : (-1 : Int32) = (q_settleI n σ x).1 ∧ qC dd ga n k ad (q_settleI n σ x).2 s.heap := by rw [q_settleI, if_pos (Or.inl c_2)]; exact ⟨rfl, hC⟩
    refine lv_iconst (v := (-1)) hx hb dX4_settle_12 (by decide) ?_
    exact q_iret hx hb hr hlocks hS hfin dX4_settle_13
  · refine lv_iload_n hx hb dX4_settle_5 rfl (lv_at hl 1 rfl) ?_
    refine lv_sipush (v := 500) hx hb dX4_settle_6 (by decide) ?_
    refine lv_icmp_le (tgt := 14) hx hb dX4_settle_9 (by decide) (fun c_9 => ?_) (fun c_9 => ?_)
    · have hno : ¬ (x < 1 ∨ 500 < x) := fun h => h.elim c_2 (fun h => absurd c_9 (Int32.not_le.mpr h))
      obtain ⟨j, hj, ej⟩ : ∃ j : Nat, j ≤ 500 ∧ x = nI j := nI_of2 (M := 500) (by decide) (fun h => c_2 (Int32.lt_trans h (by decide))) c_9
      have hsI : q_settleI n σ x = (nI (q_settle n j 0 σ).1, (q_settle n j 0 σ).2) := by rw [q_settleI, if_neg hno, ej, nI_clamp (by omega)]
      subst ej
      have hloop : ∀ (c9 d9 : Nat) (τ : qSt) (ls : Array Slot) (H : Heap) (locs : List Loc), d9 + c9 = j → q_settle n j 0 σ = q_settle n c9 d9 τ → I c9 τ → qC dd ga n k ad τ H → qS (qA n ad) s.heap H locs → lv_has ls 5 [(2, .int (nI d9)), (0, .ref (ad 0 0)), (1, .int (nI j))] → W p l e (headSpec wsX4_settle ({ frames := 6, cells := 0, slots := 0, locals := 147 })).room s m (([.ref (ad 0 0), .int (nI j)] : List Value).toArray) below meth c H locs 0 0 (MQ below (qQi (fun v H => v = (q_settleI n σ (nI j)).1 ∧ qC dd ga n k ad (q_settleI n σ (nI j)).2 H) (qA n ad)) (([.ref (ad 0 0), .int (nI j)] : List Value).toArray) s 0 0 (qA n ad)) (F0 m 16 ls []) := by
        intro c9
        induction c9 with
        | zero =>
          intro d9 τ ls H locs hc he hI hC hS hl
          refine lv_iload_n hx hb dX4_settle_16 rfl (lv_at hl 0 rfl) ?_
          refine lv_iload_n hx hb dX4_settle_17 rfl (lv_at hl 2 rfl) ?_
          refine lv_icmp_ge (tgt := 61) hx hb dX4_settle_18 (by decide) (fun c_18 => ?_) (fun c_18 => absurd (nI_le (show j ≤ d9 by omega) (by omega)) c_18)
          refine lv_iload_n hx hb dX4_settle_61 rfl (lv_at hl 2 rfl) ?_
          exact q_iret hx hb hr hlocks hS (by rw [hsI, he]; exact ⟨by rw [show j = d9 by omega]; rfl, hC⟩) dX4_settle_62
        | succ c9 ih =>
          intro d9 τ ls H locs hc he hI hC hS hl
          have hff := q_lf_from (n := n) (σ := τ) n 0
          have hcp := hI1 _ _ hI
          rcases hfr : q_from n τ n 0 with _ | ⟨f9, t9⟩
          · refine lv_iload_n hx hb dX4_settle_16 rfl (lv_at hl 0 rfl) ?_
            refine lv_iload_n hx hb dX4_settle_17 rfl (lv_at hl 2 rfl) ?_
            refine lv_icmp_ge (tgt := 61) hx hb dX4_settle_18 (by decide) (fun c_18 => absurd c_18 (nI_ge (by omega) (by omega))) (fun c_18 => ?_)
            refine lv_aload_n hx hb dX4_settle_21 rfl (lv_at hl 1 rfl) ?_
            refine qr_get (ci := 4) (C := RX4) (T := TX4) (N := 7) hx hb hts hin4 hown hK hC.self rfl 5 (by decide) (hts (.fieldLink RX4 46 "QuorumLock" "wires" "LQuorumLock$Wires;") (by decide +kernel)) rfl dX4_settle_22 ?_
            refine qc_i (va_runV (As := []) (rest := []) ⟨hx, hb, hml, hown, hts⟩ (c_X3_leastFrom l dd ga n (ad 5 0) (ad 6 0) (ad 7 0) (ad 8 0) (ad 9 0) τ.2.2.2.1 hn16) (cwV 0 hts gX4_settle_X3_leastFrom rfl rfl rfl (by decide +kernel) ⟨Nat.le_of_ble_eq_true rfl, Nat.le_of_ble_eq_true rfl⟩) (qpreV hK hC.wir hC.wir.obj rfl) rfl rfl hl.1 rfl (lv_room (Nat.le_of_ble_eq_true rfl)) dX4_settle_25 ⟨Nat.zero_le _, Nat.zero_le _⟩) hS (fun q h => h.elim) (fun v25 H locs hp9 hz9 ho9 hS => ?_)
            rw [hff.1 hfr] at hp9
            subst hp9
            have hC := hC.same (fun q => ho9 q (fun h => h))
            refine lv_istore_n (lv' := [(3, .int (-1)), (2, .int (nI d9)), (0, .ref (ad 0 0)), (1, .int (nI j))]) hx hb dX4_settle_28 rfl hl (by decide) rfl (fun ls hl => ?_)
            refine lv_aload_n hx hb dX4_settle_29 rfl (lv_at hl 2 rfl) ?_
            refine qr_get (ci := 4) (C := RX4) (T := TX4) (N := 7) hx hb hts hin4 hown hK hC.self rfl 5 (by decide) (hts (.fieldLink RX4 46 "QuorumLock" "wires" "LQuorumLock$Wires;") (by decide +kernel)) rfl dX4_settle_30 ?_
            refine lv_iload_n hx hb dX4_settle_33 rfl (lv_at hl 0 rfl) ?_
            refine qc_i (va_runV (As := [.int (-1)]) (rest := []) ⟨hx, hb, hml, hown, hts⟩ (c_X3_leastTon l dd ga n (ad 5 0) (ad 6 0) (ad 7 0) (ad 8 0) (ad 9 0) τ.2.2.2.1 hn16) (cwV 1 hts gX4_settle_X3_leastTo rfl rfl rfl (by decide +kernel) ⟨Nat.le_of_ble_eq_true rfl, Nat.le_of_ble_eq_true rfl⟩) (qpreV hK hC.wir hC.wir.obj rfl) rfl rfl hl.1 rfl (lv_room (Nat.le_of_ble_eq_true rfl)) dX4_settle_34 ⟨Nat.zero_le _, Nat.zero_le _⟩) hS (fun q h => h.elim) (fun v34 H locs hp9 hz9 ho9 hS => ?_)
            subst hp9
            have hC := hC.same (fun q => ho9 q (fun h => h))
            refine lv_istore (lv' := [(4, .int (-1)), (3, .int (-1)), (2, .int (nI d9)), (0, .ref (ad 0 0)), (1, .int (nI j))]) hx hb dX4_settle_37 hl (by decide) rfl (fun ls hl => ?_)
            refine lv_iload hx hb dX4_settle_39 (lv_at hl 0 rfl) ?_
            refine lv_iconst (v := (-1)) hx hb dX4_settle_41 (by decide) ?_
            refine lv_icmp_ne (tgt := 47) hx hb dX4_settle_42 (by decide) (fun c_42 => absurd rfl c_42) (fun c_42 => ?_)
            refine lv_iload_n hx hb dX4_settle_45 rfl (lv_at hl 2 rfl) ?_
            exact q_iret hx hb hr hlocks hS (by rw [hsI, he, q_settle, hfr]; exact ⟨rfl, hC⟩) dX4_settle_46
          · have hb9 := hff.2 f9 t9 hfr
            have hf9 : f9 < n := by omega
            have ht9 : t9 < n := hb9.2.2.2.1
            refine lv_iload_n hx hb dX4_settle_16 rfl (lv_at hl 0 rfl) ?_
            refine lv_iload_n hx hb dX4_settle_17 rfl (lv_at hl 2 rfl) ?_
            refine lv_icmp_ge (tgt := 61) hx hb dX4_settle_18 (by decide) (fun c_18 => absurd c_18 (nI_ge (by omega) (by omega))) (fun c_18 => ?_)
            refine lv_aload_n hx hb dX4_settle_21 rfl (lv_at hl 1 rfl) ?_
            refine qr_get (ci := 4) (C := RX4) (T := TX4) (N := 7) hx hb hts hin4 hown hK hC.self rfl 5 (by decide) (hts (.fieldLink RX4 46 "QuorumLock" "wires" "LQuorumLock$Wires;") (by decide +kernel)) rfl dX4_settle_22 ?_
            refine qc_i (va_runV (As := []) (rest := []) ⟨hx, hb, hml, hown, hts⟩ (c_X3_leastFrom l dd ga n (ad 5 0) (ad 6 0) (ad 7 0) (ad 8 0) (ad 9 0) τ.2.2.2.1 hn16) (cwV 0 hts gX4_settle_X3_leastFrom rfl rfl rfl (by decide +kernel) ⟨Nat.le_of_ble_eq_true rfl, Nat.le_of_ble_eq_true rfl⟩) (qpreV hK hC.wir hC.wir.obj rfl) rfl rfl hl.1 rfl (lv_room (Nat.le_of_ble_eq_true rfl)) dX4_settle_25 ⟨Nat.zero_le _, Nat.zero_le _⟩) hS (fun q h => h.elim) (fun v25 H locs hp9 hz9 ho9 hS => ?_)
            rw [hb9.1] at hp9
            subst hp9
            have hC := hC.same (fun q => ho9 q (fun h => h))
            refine lv_istore_n (lv' := [(3, .int (nI f9)), (2, .int (nI d9)), (0, .ref (ad 0 0)), (1, .int (nI j))]) hx hb dX4_settle_28 rfl hl (by decide) rfl (fun ls hl => ?_)
            refine lv_aload_n hx hb dX4_settle_29 rfl (lv_at hl 2 rfl) ?_
            refine qr_get (ci := 4) (C := RX4) (T := TX4) (N := 7) hx hb hts hin4 hown hK hC.self rfl 5 (by decide) (hts (.fieldLink RX4 46 "QuorumLock" "wires" "LQuorumLock$Wires;") (by decide +kernel)) rfl dX4_settle_30 ?_
            refine lv_iload_n hx hb dX4_settle_33 rfl (lv_at hl 0 rfl) ?_
            refine qc_i (va_runV (As := [.int (nI f9)]) (rest := []) ⟨hx, hb, hml, hown, hts⟩ (c_X3_leastTo l dd ga n (ad 5 0) (ad 6 0) (ad 7 0) (ad 8 0) (ad 9 0) τ.2.2.2.1 hn16 f9 hf9) (cwV 1 hts gX4_settle_X3_leastTo rfl rfl rfl (by decide +kernel) ⟨Nat.le_of_ble_eq_true rfl, Nat.le_of_ble_eq_true rfl⟩) (qpreV hK hC.wir hC.wir.obj rfl) rfl rfl hl.1 rfl (lv_room (Nat.le_of_ble_eq_true rfl)) dX4_settle_34 ⟨Nat.zero_le _, Nat.zero_le _⟩) hS (fun q h => h.elim) (fun v34 H locs hp9 hz9 ho9 hS => ?_)
            rw [hb9.2.1] at hp9
            subst hp9
            have hC := hC.same (fun q => ho9 q (fun h => h))
            refine lv_istore (lv' := [(4, .int (nI t9)), (3, .int (nI f9)), (2, .int (nI d9)), (0, .ref (ad 0 0)), (1, .int (nI j))]) hx hb dX4_settle_37 hl (by decide) rfl (fun ls hl => ?_)
            refine lv_iload hx hb dX4_settle_39 (lv_at hl 0 rfl) ?_
            refine lv_iconst (v := (-1)) hx hb dX4_settle_41 (by decide) ?_
            refine lv_icmp_ne (tgt := 47) hx hb dX4_settle_42 (by decide) (fun c_42 => ?_) (fun c_42 => absurd c_42 (q_nI_m1 (by omega)))
            refine lv_aload_n hx hb dX4_settle_47 rfl (lv_at hl 3 rfl) ?_
            refine lv_iload_n hx hb dX4_settle_48 rfl (lv_at hl 1 rfl) ?_
            refine lv_iload hx hb dX4_settle_49 (lv_at hl 0 rfl) ?_
            refine qc_i (va_runV (As := [.int (nI f9), .int (nI t9)]) (rest := []) ⟨hx, hb, hml, hown, hts⟩ (c_X4_deliverOldest l dd ga n k ad τ hsq hL f9 t9 hf9 ht9 hcp) (cwV 2 hts gX4_settle_X4_deliverOldest rfl rfl rfl (by decide +kernel) ⟨Nat.le_of_ble_eq_true rfl, Nat.le_of_ble_eq_true rfl⟩) (qpreV hK hC hC.self rfl) rfl rfl hl.1 rfl (lv_room (Nat.le_of_ble_eq_true rfl)) dX4_settle_51 ⟨Nat.zero_le _, Nat.zero_le _⟩) hS (fun q h => h) (fun v51 H locs hp9 hz9 ho9 hS => ?_)
            have hC := hp9.2
            refine lv_pop hx hb dX4_settle_54 rfl ?_
            refine lv_iinc (v := nI (d9 + 1)) (lv' := [(2, .int (nI (d9 + 1))), (4, .int (nI t9)), (3, .int (nI f9)), (0, .ref (ad 0 0)), (1, .int (nI j))]) hx hb dX4_settle_55 hl (k := 2) rfl (nI_1 _) (by decide) rfl (fun ls hl => ?_)
            refine lv_goto (tgt := 16) hx hb dX4_settle_58 (by decide) ?_
            exact ih (d9 + 1) _ ls _ _ (by omega) (by rw [he, q_settle, hfr]) (hI2 _ _ _ _ hf9 ht9 hI) hC hS (lv_sub hl [0, 3, 4] rfl)
      refine lv_iconst (v := nI 0) hx hb dX4_settle_14 (by decide) ?_
      refine lv_istore_n (lv' := [(2, .int (nI 0)), (0, .ref (ad 0 0)), (1, .int (nI j))]) hx hb dX4_settle_15 rfl hl (by decide) rfl (fun ls hl => ?_)
      exact hloop j 0 σ ls _ _ (by omega) rfl (hI3 _ _ _ hj hI0) hC hS hl
    · have hfin : (-1 : Int32) = (q_settleI n σ x).1 ∧ qC dd ga n k ad (q_settleI n σ x).2 s.heap := by rw [q_settleI, if_pos (Or.inr (Int32.not_le.mp c_9))]; exact ⟨rfl, hC⟩
      refine lv_iconst (v := (-1)) hx hb dX4_settle_12 (by decide) ?_
      exact q_iret hx hb hr hlocks hS hfin dX4_settle_13
end
section
theorem q_arr {cA : ClassId} {n : Nat} {f g : Nat → Int32} (h : ∀ j, j < n → f j = g j) : vp_cell cA (n, .inl f) = vp_cell cA (n, .inl g) := by
  rw [vp_cell_i, vp_cell_i]
  unfold arrV
  congr 1
  congr 1
  funext j
  show Value.int (f j.val) = Value.int (g j.val)
  rw [h j.val j.isLt]
theorem q_ati {dd : va_G} {cA : ClassId} {a n : Nat} {f g : Nat → Int32} {H : Heap} (h : ∀ j, j < n → f j = g j) (ha : va_at dd vwCl (a, .inl (cA, n, .inl f)) H) : va_at dd vwCl (a, .inl (cA, n, .inl g)) H := by
  have ha : H[a]? = some (vp_cell cA (n, .inl f)) := ha
  rw [q_arr h] at ha
  exact ha
theorem q_sum_congr {w w' : Nat → Nat → List qM} {f : Nat} : ∀ {m : Nat}, (∀ t, t < m → w' f t = w f t) → q_sum w' f m = q_sum w f m
  | 0, _ => rfl
  | m + 1, h => by
    unfold q_sum
    rw [q_sum_congr (m := m) (fun t ht => h t (by omega)), h m (by omega)]
section QC2
variable {dd : va_G} {ga : Nat → ClassId} {n k : Nat} {ad : Nat → Nat → Nat} {σ σ' : qSt} {H H1 : Heap}
theorem qC.congr (h : qC dd ga n k ad σ H) (e1 : ∀ f i, f ≤ 6 → i < n → σ'.1 f i = σ.1 f i) (e2 : ∀ i, i < n → σ'.2.1 i = σ.2.1 i) (e3 : ∀ i, i < n → σ'.2.2.1 i = σ.2.2.1 i) (e4 : ∀ f t, f < n → t < n → σ'.2.2.2.1 f t = σ.2.2.2.1 f t) (e5 : σ'.2.2.2.2 = σ.2.2.2.2) : qC dd ga n k ad σ' H := by
  refine ⟨by rw [e5]; exact h.self, h.quo, q_ati (fun j hj => (e1 0 j (by omega) hj).symm) h.clk, h.arA, h.arV, ?_, fun i hi => ?_, fun i hi => ?_, fun i hi => ?_⟩
  · obtain ⟨P, O, Y, F, a, b, c, d, e, f, g⟩ := h.wir
    refine ⟨P, O, Y, F, a, b, c, d, e, fun f9 t9 hf ht => ?_, fun f9 hf => ?_⟩
    · rw [e4 f9 t9 hf ht]; exact f f9 t9 hf ht
    · rw [q_sum_congr (fun t ht => e4 f9 t hf ht)]; exact g f9 hf
  · rw [e1 1 i (by omega) hi, e1 2 i (by omega) hi, e1 3 i (by omega) hi, e1 4 i (by omega) hi, e1 5 i (by omega) hi]; exact h.ask i hi
  · rw [e1 6 i (by omega) hi, e2 i hi]; exact h.vot i hi
  · rw [e3 i hi]; exact h.row i hi
theorem qC.putVR (hL : qL n ad) (h : qC dd ga n k ad σ H) {i : Nat} (hi : i < n) (hO : ∀ q : Nat, ¬ (q = ad 11 i ∨ q = ad 12 i) → H1[q]? = H[q]?) (hn : qVot dd (ad 11 i) (ad 12 i) (σ'.2.1 i) (σ'.1 6 i) H1) (hn2 : qRow dd ga (2 * k - 1) (ad 12 i) (ad 13 i) (ad 14 i) (σ'.2.2.1 i) H1)
    (e1 : ∀ f j : Nat, ¬ (f = 6 ∧ j = i) → σ'.1 f j = σ.1 f j) (e2 : ∀ j : Nat, j ≠ i → σ'.2.1 j = σ.2.1 j) (e3 : ∀ j : Nat, j ≠ i → σ'.2.2.1 j = σ.2.2.1 j) (e4 : σ'.2.2.2 = σ.2.2.2) : qC dd ga n k ad σ' H1 := by
  have hx : ∀ a b : Nat, qd n a b → ¬ ((a = 11 ∨ a = 12) ∧ b = i) → H1[ad a b]? = H[ad a b]? := fun a b h1 h2 => hO _ (fun h3 => by
    rcases h3 with h3 | h3
    · have := hL _ _ _ _ h1 (qd.i (by decide) (by decide) hi) h3; omega
    · have := hL _ _ _ _ h1 (qd.i (by decide) (by decide) hi) h3; omega)
  have hz : ∀ a : Nat, a < 10 → H1[ad a 0]? = H[ad a 0]? := fun a ha => hx a 0 (qd.z ha) (by omega)
  refine ⟨?_, qa_kept h.quo (hz 1 (by decide)), ?_, qa_kept h.arA (hz 3 (by decide)), qa_kept h.arV (hz 4 (by decide)), ?_, fun j hjn => ?_, fun j hjn => ?_, fun j hjn => ?_⟩
  · rw [e4]; exact qa_kept h.self (hz 0 (by decide))
  · rw [show σ'.1 0 = σ.1 0 from funext fun j => e1 0 j (by omega)]; exact qa_kept h.clk (hz 2 (by decide))
  · rw [e4]; exact h.wir.kept (hz 5 (by decide)) (hz 6 (by decide)) (hz 7 (by decide)) (hz 8 (by decide)) (hz 9 (by decide))
  · rw [e1 1 j (by omega), e1 2 j (by omega), e1 3 j (by omega), e1 4 j (by omega), e1 5 j (by omega)]
    exact qa_kept (h.ask j hjn) (hx 10 j (qd.i (by decide) (by decide) hjn) (by omega))
  · by_cases hji : j = i
    · subst hji; exact hn
    · rw [e1 6 j (by omega), e2 j hji]; exact qa_kept (h.vot j hjn) (hx 11 j (qd.i (by decide) (by decide) hjn) (by omega))
  · by_cases hji : j = i
    · subst hji; exact hn2
    · rw [e3 j hji]; exact (h.row j hjn).kept (hx 12 j (qd.i (by decide) (by decide) hjn) (by omega)) (hx 13 j (qd.i (by decide) (by decide) hjn) (by omega)) (hx 14 j (qd.i (by decide) (by decide) hjn) (by omega))
end QC2
/-- nodes below i are as new -/
def q_ini (σ : qSt) (i : Nat) : qSt := (fun f j => if j < i then 0 else σ.1 f j, fun j => if j < i then none else σ.2.1 j, fun j => if j < i then [] else σ.2.2.1 j, σ.2.2.2.1, σ.2.2.2.2)
set_option maxHeartbeats 4000000 in
set_option maxRecDepth 100000 in
/-- X4_init_ -/
theorem c_X4_init_ (l : Launch) (dd : va_G) (ga : Nat → ClassId) (n k : Nat) (ad : Nat → Nat → Nat) (σ : qSt) (hsq : qSq n k) (hL : qL n ad) : Met l yX4_init_ wsX4_init_ ({ frames := 2, cells := 0, slots := 0, locals := 40 }) (qPc dd ga [.ref (ad 0 0)] (fun H => qC dd ga n k ad σ H)) (qQv (fun H => qC dd ga n k ad q_init H) (qA n ad)) 0 0 (qA n ad) := by
  refine Met.ofW (cc := cX4_init_) (maxL := 2) (ret := none) (by decide) rfl ?_
  intro p e s m args below meth c s₁ B hml hv
  obtain ⟨rfl, hC, hK⟩ := hv
  have hx := B.exec
  have hb := B.bytes
  have hr := B.returns
  have hts := atoms_spec (ws := wsX4_init_) B.pre
  have hown : s.vm.findClass RX4 = some m.cls := findClass_of_methodNamed B.named
  have hlocks := B.notSynchronized
  have hS : qS (qA n ad) s.heap s.heap [] := qS.rf
  have hl := lv_entry ([.ref (ad 0 0)]) (n := 2) (Nat.le_of_ble_eq_true rfl)
  rw [lg_entry_eq]
  generalize (lg_sl ([.ref (ad 0 0)]) ++ List.replicate (2 - (lg_sl ([.ref (ad 0 0)])).length) Slot.unset).toArray = ls at hl ⊢
  have hin4 : ∀ w ∈ wsX40, w ∈ wsX4_init_ := by decide +kernel
  have hn1 := hsq.n.1
  have hn16 := hsq.n.2
  have hloop : ∀ (c9 i9 : Nat) (ls : Array Slot) (H : Heap) (locs : List Loc), i9 + c9 = n → qC dd ga n k ad (q_ini σ i9) H → qS (qA n ad) s.heap H locs → lv_has ls 2 [(1, .int (nI i9)), (0, .ref (ad 0 0))] → W p l e (headSpec wsX4_init_ ({ frames := 2, cells := 0, slots := 0, locals := 40 })).room s m (([.ref (ad 0 0)] : List Value).toArray) below meth c H locs 0 0 (MQ below (qQv (fun H => qC dd ga n k ad q_init H) (qA n ad)) (([.ref (ad 0 0)] : List Value).toArray) s 0 0 (qA n ad)) (F0 m 2 ls []) := by
    intro c9
    induction c9 with
    | zero =>
      intro i9 ls H locs hc hC hS hl
      refine lv_iload_n hx hb dX4_init__2 rfl (lv_at hl 0 rfl) ?_
      refine lv_aload_n hx hb dX4_init__3 rfl (lv_at hl 1 rfl) ?_
      refine qr_get (ci := 4) (C := RX4) (T := TX4) (N := 7) hx hb hts hin4 hown hK hC.self rfl 0 (by decide) (hts (.fieldLink RX4 18 "QuorumLock" "nodes" "I") (by decide +kernel)) rfl dX4_init__4 ?_
      refine lv_icmp_ge (tgt := 41) hx hb dX4_init__7 (by decide) (fun c_7 => ?_) (fun c_7 => absurd (nI_le (show n ≤ i9 by omega) (by omega)) c_7)
      refine lv_aload_n hx hb dX4_init__41 rfl (lv_at hl 1 rfl) ?_
      refine qr_get (ci := 4) (C := RX4) (T := TX4) (N := 7) hx hb hts hin4 hown hK hC.self rfl 5 (by decide) (hts (.fieldLink RX4 46 "QuorumLock" "wires" "LQuorumLock$Wires;") (by decide +kernel)) rfl dX4_init__42 ?_
      refine qc_v (va_runV (As := []) (rest := []) ⟨hx, hb, hml, hown, hts⟩ (c_X3_emptyAll l dd ga n (ad 5 0) (ad 6 0) (ad 7 0) (ad 8 0) (ad 9 0) (hL.ne (qd.z (by decide)) (qd.z (by decide)) (by decide)) (hL.ne (qd.z (by decide)) (qd.z (by decide)) (by decide)) (hL.ne (qd.z (by decide)) (qd.z (by decide)) (by decide)) (hL.ne (qd.z (by decide)) (qd.z (by decide)) (by decide)) (hL.ne (qd.z (by decide)) (qd.z (by decide)) (by decide)) (hL.ne (qd.z (by decide)) (qd.z (by decide)) (by decide)) (hL.ne (qd.z (by decide)) (qd.z (by decide)) (by decide)) (hL.ne (qd.z (by decide)) (qd.z (by decide)) (by decide)) (hL.ne (qd.z (by decide)) (qd.z (by decide)) (by decide)) (hL.ne (qd.z (by decide)) (qd.z (by decide)) (by decide)) hn16) (cwV 0 hts gX4_init__X3_emptyAll rfl rfl rfl (by decide +kernel) ⟨Nat.le_of_ble_eq_true rfl, Nat.le_of_ble_eq_true rfl⟩) (qpreV hK (by obtain ⟨P, O, Y, F, a, b, c, d, e, -⟩ := hC.wir; exact ⟨P, O, Y, F, a, b, c, d, e⟩) hC.wir.obj rfl) rfl rfl hl.1 rfl (lv_room (Nat.le_of_ble_eq_true rfl)) dX4_init__45 ⟨Nat.zero_le _, Nat.zero_le _⟩) hS (fun q h => qA.wir h) (fun H locs hp9 hz9 ho9 hS => ?_)
      have hC := hC.putWir (σ' := ((q_ini σ i9).1, (q_ini σ i9).2.1, (q_ini σ i9).2.2.1, (fun _ _ => []), (q_ini σ i9).2.2.2.2)) hL ho9 hp9 rfl rfl rfl rfl
      refine lv_aload_n hx hb dX4_init__48 rfl (lv_at hl 1 rfl) ?_
      refine lv_iconst (v := 0) hx hb dX4_init__49 (by decide) ?_
      refine qr_put (ci := 4) (C := RX4) (T := TX4) (N := 7) hx hb hts hin4 tyX4 tyX4_ok nmX4 hown hK hC.self hS (⟨0, 0, qd.z (by decide), rfl⟩) rfl 6 (by decide) (hts (.fieldLink RX4 67 "QuorumLock" "entries" "I") (by decide +kernel)) rfl rfl rfl (Nat.le_of_ble_eq_true rfl) dX4_init__50 (fun H locs hz9 ho9 hat9 hS => ?_)
      have hC := hC.putEn hL ho9 hat9
      exact q_vret hx hb hr hlocks hS (hC.congr (fun f i _ hi => (if_pos (show i < i9 by omega)).symm) (fun i hi => (if_pos (show i < i9 by omega)).symm) (fun i hi => (if_pos (show i < i9 by omega)).symm) (fun f t hf ht => rfl) rfl) dX4_init__53
    | succ c9 ih =>
      intro i9 ls H locs hc hC hS hl
      have hi9 : i9 < n := by omega
      refine lv_iload_n hx hb dX4_init__2 rfl (lv_at hl 0 rfl) ?_
      refine lv_aload_n hx hb dX4_init__3 rfl (lv_at hl 1 rfl) ?_
      refine qr_get (ci := 4) (C := RX4) (T := TX4) (N := 7) hx hb hts hin4 hown hK hC.self rfl 0 (by decide) (hts (.fieldLink RX4 18 "QuorumLock" "nodes" "I") (by decide +kernel)) rfl dX4_init__4 ?_
      refine lv_icmp_ge (tgt := 41) hx hb dX4_init__7 (by decide) (fun c_7 => absurd c_7 (nI_ge (by omega) (by omega))) (fun c_7 => ?_)
      refine lv_aload_n hx hb dX4_init__10 rfl (lv_at hl 1 rfl) ?_
      refine qr_get (ci := 4) (C := RX4) (T := TX4) (N := 7) hx hb hts hin4 hown hK hC.self rfl 2 (by decide) (hts (.fieldLink RX4 26 "QuorumLock" "clocks" "[I") (by decide +kernel)) rfl dX4_init__11 ?_
      refine lv_iload_n hx hb dX4_init__14 rfl (lv_at hl 0 rfl) ?_
      refine lv_iconst (v := 0) hx hb dX4_init__15 (by decide) ?_
      refine qr_iast hx hb hK hC.clk hS (⟨2, 0, qd.z (by decide), rfl⟩) i9 (by omega) (by omega) rfl dX4_init__16 (fun H locs hz9 ho9 hat9 hS => ?_)
      have hC := hC.putClk (σ' := s_tb (q_ini σ i9) 0 i9 0) hL ho9 (by have h9 : ((s_tb (q_ini σ i9) 0 i9 0).1 0) = upd ((q_ini σ i9).1 0) i9 0 := (by funext j; by_cases h : j = i9 <;> simp [s_tb, q2, upd, h]); rw [h9]; exact hat9) (fun f j h => q2_n (by omega)) rfl
      refine lv_aload_n hx hb dX4_init__17 rfl (lv_at hl 1 rfl) ?_
      refine qr_get (ci := 4) (C := RX4) (T := TX4) (N := 7) hx hb hts hin4 hown hK hC.self rfl 3 (by decide) (hts (.fieldLink RX4 31 "QuorumLock" "askers" "[LQuorumLock$Asker;") (by decide +kernel)) rfl dX4_init__18 ?_
      refine lv_iload_n hx hb dX4_init__21 rfl (lv_at hl 0 rfl) ?_
      refine qr_aald (v := ad 10 i9) hx hb hK 2 hC.arA rfl i9 (by omega) (by omega) rfl rfl dX4_init__22 ?_
      refine qc_v (va_runV (As := []) (rest := []) ⟨hx, hb, hml, hown, hts⟩ (c_X0_becomeIdle l dd ga (ad 10 i9) ((s_tb (q_ini σ i9) 0 i9 0).1 1 i9) ((s_tb (q_ini σ i9) 0 i9 0).1 2 i9) ((s_tb (q_ini σ i9) 0 i9 0).1 3 i9) ((s_tb (q_ini σ i9) 0 i9 0).1 4 i9) ((s_tb (q_ini σ i9) 0 i9 0).1 5 i9)) (cwV 0 hts gX4_init__X0_becomeIdle rfl rfl rfl (by decide +kernel) ⟨Nat.le_of_ble_eq_true rfl, Nat.le_of_ble_eq_true rfl⟩) (qpreV hK (hC.ask i9 hi9) (hC.ask i9 hi9) rfl) rfl rfl hl.1 rfl (lv_room (Nat.le_of_ble_eq_true rfl)) dX4_init__23 ⟨Nat.zero_le _, Nat.zero_le _⟩) hS (fun q h => qA.at (by decide) (by decide) hi9 h) (fun H locs hp9 hz9 ho9 hS => ?_)
      have hC := hC.putAsk (σ' := q_empty (s_tb (s_tb (s_tb (q_ini σ i9) 0 i9 0) 1 i9 0) 2 i9 0) i9) hL hi9 ho9 (by simpa [q_empty, s_tb, q2] using hp9) (fun f j h => by simp only [q_empty, s_tb, q2]; repeat rw [if_neg (by omega)]) rfl
      refine lv_aload_n hx hb dX4_init__26 rfl (lv_at hl 1 rfl) ?_
      refine qr_get (ci := 4) (C := RX4) (T := TX4) (N := 7) hx hb hts hin4 hown hK hC.self rfl 4 (by decide) (hts (.fieldLink RX4 37 "QuorumLock" "voters" "[LQuorumLock$Voter;") (by decide +kernel)) rfl dX4_init__27 ?_
      refine lv_iload_n hx hb dX4_init__30 rfl (lv_at hl 0 rfl) ?_
      refine qr_aald (v := ad 11 i9) hx hb hK 3 hC.arV rfl i9 (by omega) (by omega) rfl rfl dX4_init__31 ?_
      refine qc_v (va_runV (As := []) (rest := []) ⟨hx, hb, hml, hown, hts⟩ (c_X2_forgetAll l dd ga (2 * k - 1) (ad 11 i9) (ad 12 i9) (ad 13 i9) (ad 14 i9) (q_on ((q_empty (s_tb (s_tb (s_tb (q_ini σ i9) 0 i9 0) 1 i9 0) 2 i9 0) i9).2.1 i9)) (q_ot ((q_empty (s_tb (s_tb (s_tb (q_ini σ i9) 0 i9 0) 1 i9 0) 2 i9 0) i9).2.1 i9)) ((q_empty (s_tb (s_tb (s_tb (q_ini σ i9) 0 i9 0) 1 i9 0) 2 i9 0) i9).1 6 i9) ((q_empty (s_tb (s_tb (s_tb (q_ini σ i9) 0 i9 0) 1 i9 0) 2 i9 0) i9).2.2.1 i9) (hL.ne (qd.i (by decide) (by decide) hi9) (qd.i (by decide) (by decide) hi9) (by omega)) (hL.ne (qd.i (by decide) (by decide) hi9) (qd.i (by decide) (by decide) hi9) (by omega)) (hL.ne (qd.i (by decide) (by decide) hi9) (qd.i (by decide) (by decide) hi9) (by omega)) (hL.ne (qd.i (by decide) (by decide) hi9) (qd.i (by decide) (by decide) hi9) (by omega)) (hL.ne (qd.i (by decide) (by decide) hi9) (qd.i (by decide) (by decide) hi9) (by omega))) (cwV 0 hts gX4_init__X2_forgetAll rfl rfl rfl (by decide +kernel) ⟨Nat.le_of_ble_eq_true rfl, Nat.le_of_ble_eq_true rfl⟩) (qpreV hK (⟨hC.vot i9 hi9, hC.row i9 hi9⟩) (hC.vot i9 hi9) rfl) rfl rfl hl.1 rfl (lv_room (Nat.le_of_ble_eq_true rfl)) dX4_init__32 ⟨Nat.zero_le _, Nat.zero_le _⟩) hS (fun q h => h.elim (fun h => qA.at (by decide) (by decide) hi9 h) (fun h => qA.at (by decide) (by decide) hi9 h)) (fun H locs hp9 hz9 ho9 hS => ?_)
      have hC := hC.putVR (σ' := s_rw (s_tb (s_ln (q_empty (s_tb (s_tb (s_tb (q_ini σ i9) 0 i9 0) 1 i9 0) 2 i9 0) i9) i9 none) 6 i9 0) i9 []) hL hi9 ho9 (by simpa [qVot, s_tb, s_ln, s_rw, q2, va_up, q_on, q_ot] using hp9.1) (by simpa [s_tb, s_ln, s_rw, q2, va_up] using hp9.2) (fun f j h => q2_n h) (fun j h => va_up_ne _ _ h) (fun j h => va_up_ne _ _ h) rfl
      refine lv_iinc (v := nI (i9 + 1)) (lv' := [(1, .int (nI (i9 + 1))), (0, .ref (ad 0 0))]) hx hb dX4_init__35 hl (k := 0) rfl (nI_1 _) (by decide) rfl (fun ls hl => ?_)
      refine lv_goto (tgt := 2) hx hb dX4_init__38 (by decide) ?_
      refine ih (i9 + 1) ls _ _ (by omega) (hC.congr (fun f i hf6 hi => ?_) (fun i hi => ?_) (fun i hi => ?_) (fun f t hf ht => rfl) rfl) hS (lv_sub hl [0, 1] rfl)
      · show (if i < i9 + 1 then 0 else σ.1 f i) = _
        simp only [q_empty, s_tb, s_ln, s_rw, q2, q_ini]
        by_cases h1 : i < i9
        · rw [if_pos (show i < i9 + 1 by omega)]
          repeat rw [if_neg (show ¬ (_ ∧ i = i9) by omega)]
          rw [if_pos h1]
        · by_cases h2 : i = i9
          · subst h2
            rw [if_pos (show i < i + 1 by omega)]
            rcases (show f = 0 ∨ f = 1 ∨ f = 2 ∨ f = 3 ∨ f = 4 ∨ f = 5 ∨ f = 6 by omega) with h3 | h3 | h3 | h3 | h3 | h3 | h3 <;> subst h3 <;> simp
          · rw [if_neg (show ¬ i < i9 + 1 by omega)]
            repeat rw [if_neg (show ¬ (_ ∧ i = i9) by omega)]
            rw [if_neg h1]
      · show (if i < i9 + 1 then none else σ.2.1 i) = va_up (fun j => if j < i9 then none else σ.2.1 j) i9 none i
        simp only [va_up]
        by_cases h2 : i = i9
        · rw [if_pos h2, if_pos (by omega)]
        · rw [if_neg h2]
          by_cases h1 : i < i9
          · rw [if_pos h1, if_pos (by omega)]
          · rw [if_neg h1, if_neg (by omega)]
      · show (if i < i9 + 1 then [] else σ.2.2.1 i) = va_up (fun j => if j < i9 then [] else σ.2.2.1 j) i9 [] i
        simp only [va_up]
        by_cases h2 : i = i9
        · rw [if_pos h2, if_pos (by omega)]
        · rw [if_neg h2]
          by_cases h1 : i < i9
          · rw [if_pos h1, if_pos (by omega)]
          · rw [if_neg h1, if_neg (by omega)]
  refine lv_iconst (v := nI 0) hx hb dX4_init__0 (by decide) ?_
  refine lv_istore_n (lv' := [(1, .int (nI 0)), (0, .ref (ad 0 0))]) hx hb dX4_init__1 rfl hl (by decide) rfl (fun ls hl => ?_)
  exact hloop n 0 ls _ _ (by omega) (hC.congr (fun f i _ hi => by simp [q_ini]) (fun i hi => by simp [q_ini]) (fun i hi => by simp [q_ini]) (fun f t hf ht => rfl) rfl) hS (lv_sub hl [0, 1] rfl)
end
section
/-! bitCount, as the JDK has it -/
def q_ush (x y : Int32) : Int32 := (x.toUInt32 >>> (y.toUInt32 &&& Int32.toUInt32 31)).toInt32
def q_h1 (x : Int32) : Int32 := x - (q_ush x 1 &&& 1431655765)
def q_h2 (x : Int32) : Int32 := (x &&& 858993459) + (q_ush x 2 &&& 858993459)
def q_h3 (x : Int32) : Int32 := (x + q_ush x 4) &&& 252645135
def q_h4 (x : Int32) : Int32 := x + q_ush x 8
def q_h5 (x : Int32) : Int32 := x + q_ush x 16
def q_hd (x : Int32) : Int32 := q_h5 (q_h4 (q_h3 (q_h2 (q_h1 x)))) &&& 63
def q_votesI (n : Nat) (σ : qSt) (x : Int32) : Int32 := if q_node n x = true then q_hd (σ.1 3 x.toNatClampNeg) else -1
set_option maxHeartbeats 4000000 in
set_option maxRecDepth 100000 in
/-- Integer.bitCount -/
theorem c_J6_bitCount_0f7a4 (l : Launch) (dd : va_G) (ga : Nat → ClassId) (x : Int32) : Met l yJ6_bitCount_0f7a4 wsJ6_bitCount_0f7a4 ({ frames := 0, cells := 0, slots := 0, locals := 0 }) (qPc dd ga [.int x] (fun H => True)) (qQi (fun v _ => v = q_hd x) (fun _ => False)) 0 0 (fun _ => False) := by
  refine Met.ofW (cc := cJ6_bitCount_0f7a4) (maxL := 1) (ret := (some .int)) (by decide) rfl ?_
  intro p e s m args below meth c s₁ B hml hv
  obtain ⟨rfl, hP, hK⟩ := hv
  have hx := B.exec
  have hb := B.bytes
  have hr := B.returns
  have hts := atoms_spec (ws := wsJ6_bitCount_0f7a4) B.pre
  have hown : s.vm.findClass RJ6 = some m.cls := findClass_of_methodNamed B.named
  have hlocks := B.notSynchronized
  have hS : qS (fun _ => False) s.heap s.heap [] := qS.rf
  have hl := lv_entry ([.int x]) (n := 1) (Nat.le_of_ble_eq_true rfl)
  rw [lg_entry_eq]
  generalize (lg_sl ([.int x]) ++ List.replicate (1 - (lg_sl ([.int x])).length) Slot.unset).toArray = ls at hl ⊢
  refine lv_iload_n hx hb dJ6_bitCount_0f7a4_0 rfl (lv_at hl 0 rfl) ?_
  refine lv_iload_n hx hb dJ6_bitCount_0f7a4_1 rfl (lv_at hl 0 rfl) ?_
  refine lv_iconst (v := 1) hx hb dJ6_bitCount_0f7a4_2 (by decide) ?_
  refine lv_iushr hx hb dJ6_bitCount_0f7a4_3 rfl ?_
  refine lv_ldcw (v := (1431655765)) hx hb hown (hts (.constant RJ6 265 (1431655765)) (by decide +kernel)) dJ6_bitCount_0f7a4_4 ?_
  refine lv_iand hx hb dJ6_bitCount_0f7a4_7 ?_
  refine lv_isub hx hb dJ6_bitCount_0f7a4_8 ?_
  refine q_ti (y := q_h1 x) (rfl) ?_
  refine lv_istore_n (lv' := [(0, .int (q_h1 x))]) hx hb dJ6_bitCount_0f7a4_9 rfl hl (by decide) rfl (fun ls hl => ?_)
  refine lv_iload_n hx hb dJ6_bitCount_0f7a4_10 rfl (lv_at hl 0 rfl) ?_
  refine lv_ldcw (v := (858993459)) hx hb hown (hts (.constant RJ6 266 (858993459)) (by decide +kernel)) dJ6_bitCount_0f7a4_11 ?_
  refine lv_iand hx hb dJ6_bitCount_0f7a4_14 ?_
  refine lv_iload_n hx hb dJ6_bitCount_0f7a4_15 rfl (lv_at hl 0 rfl) ?_
  refine lv_iconst (v := 2) hx hb dJ6_bitCount_0f7a4_16 (by decide) ?_
  refine lv_iushr hx hb dJ6_bitCount_0f7a4_17 rfl ?_
  refine lv_ldcw (v := (858993459)) hx hb hown (hts (.constant RJ6 266 (858993459)) (by decide +kernel)) dJ6_bitCount_0f7a4_18 ?_
  refine lv_iand hx hb dJ6_bitCount_0f7a4_21 ?_
  refine lv_iadd hx hb dJ6_bitCount_0f7a4_22 ?_
  refine q_ti (y := q_h2 (q_h1 x)) (rfl) ?_
  refine lv_istore_n (lv' := [(0, .int (q_h2 (q_h1 x)))]) hx hb dJ6_bitCount_0f7a4_23 rfl hl (by decide) rfl (fun ls hl => ?_)
  refine lv_iload_n hx hb dJ6_bitCount_0f7a4_24 rfl (lv_at hl 0 rfl) ?_
  refine lv_iload_n hx hb dJ6_bitCount_0f7a4_25 rfl (lv_at hl 0 rfl) ?_
  refine lv_iconst (v := 4) hx hb dJ6_bitCount_0f7a4_26 (by decide) ?_
  refine lv_iushr hx hb dJ6_bitCount_0f7a4_27 rfl ?_
  refine lv_iadd hx hb dJ6_bitCount_0f7a4_28 ?_
  refine lv_ldcw (v := (252645135)) hx hb hown (hts (.constant RJ6 267 (252645135)) (by decide +kernel)) dJ6_bitCount_0f7a4_29 ?_
  refine lv_iand hx hb dJ6_bitCount_0f7a4_32 ?_
  refine q_ti (y := q_h3 (q_h2 (q_h1 x))) (rfl) ?_
  refine lv_istore_n (lv' := [(0, .int (q_h3 (q_h2 (q_h1 x))))]) hx hb dJ6_bitCount_0f7a4_33 rfl hl (by decide) rfl (fun ls hl => ?_)
  refine lv_iload_n hx hb dJ6_bitCount_0f7a4_34 rfl (lv_at hl 0 rfl) ?_
  refine lv_iload_n hx hb dJ6_bitCount_0f7a4_35 rfl (lv_at hl 0 rfl) ?_
  refine lv_bipush (v := 8) hx hb dJ6_bitCount_0f7a4_36 (by decide) ?_
  refine lv_iushr hx hb dJ6_bitCount_0f7a4_38 rfl ?_
  refine lv_iadd hx hb dJ6_bitCount_0f7a4_39 ?_
  refine q_ti (y := q_h4 (q_h3 (q_h2 (q_h1 x)))) (rfl) ?_
  refine lv_istore_n (lv' := [(0, .int (q_h4 (q_h3 (q_h2 (q_h1 x)))))]) hx hb dJ6_bitCount_0f7a4_40 rfl hl (by decide) rfl (fun ls hl => ?_)
  refine lv_iload_n hx hb dJ6_bitCount_0f7a4_41 rfl (lv_at hl 0 rfl) ?_
  refine lv_iload_n hx hb dJ6_bitCount_0f7a4_42 rfl (lv_at hl 0 rfl) ?_
  refine lv_bipush (v := 16) hx hb dJ6_bitCount_0f7a4_43 (by decide) ?_
  refine lv_iushr hx hb dJ6_bitCount_0f7a4_45 rfl ?_
  refine lv_iadd hx hb dJ6_bitCount_0f7a4_46 ?_
  refine q_ti (y := q_h5 (q_h4 (q_h3 (q_h2 (q_h1 x))))) (rfl) ?_
  refine lv_istore_n (lv' := [(0, .int (q_h5 (q_h4 (q_h3 (q_h2 (q_h1 x))))))]) hx hb dJ6_bitCount_0f7a4_47 rfl hl (by decide) rfl (fun ls hl => ?_)
  refine lv_iload_n hx hb dJ6_bitCount_0f7a4_48 rfl (lv_at hl 0 rfl) ?_
  refine lv_bipush (v := 63) hx hb dJ6_bitCount_0f7a4_49 (by decide) ?_
  refine lv_iand hx hb dJ6_bitCount_0f7a4_51 ?_
  exact q_iret hx hb hr hlocks hS rfl dJ6_bitCount_0f7a4_52
set_option maxHeartbeats 4000000 in
set_option maxRecDepth 100000 in
/-- X4_votesOf -/
theorem c_X4_votesOf (l : Launch) (dd : va_G) (ga : Nat → ClassId) (n k : Nat) (ad : Nat → Nat → Nat) (σ : qSt) (hsq : qSq n k) (hL : qL n ad) (x : Int32) : Met l yX4_votesOf wsX4_votesOf ({ frames := 1, cells := 0, slots := 0, locals := 21 }) (qPc dd ga [.ref (ad 0 0), .int x] (fun H => qC dd ga n k ad σ H)) (qQi (fun v H => v = q_votesI n σ x ∧ qC dd ga n k ad σ H) (qA n ad)) 0 0 (qA n ad) := by
  rcases q_nodeC hsq.n.2 x with ⟨hnx, i, hi, rfl⟩ | hnx
  · refine Met.ofW (cc := cX4_votesOf) (maxL := 2) (ret := (some .int)) (by decide) rfl ?_
    intro p e s m args below meth c s₁ B hml hv
    obtain ⟨rfl, hC, hK⟩ := hv
    have hx := B.exec
    have hb := B.bytes
    have hr := B.returns
    have hts := atoms_spec (ws := wsX4_votesOf) B.pre
    have hown : s.vm.findClass RX4 = some m.cls := findClass_of_methodNamed B.named
    have hlocks := B.notSynchronized
    have hS : qS (qA n ad) s.heap s.heap [] := qS.rf
    have hl := lv_entry ([.ref (ad 0 0), .int (nI i)]) (n := 2) (Nat.le_of_ble_eq_true rfl)
    rw [lg_entry_eq]
    generalize (lg_sl ([.ref (ad 0 0), .int (nI i)]) ++ List.replicate (2 - (lg_sl ([.ref (ad 0 0), .int (nI i)])).length) Slot.unset).toArray = ls at hl ⊢
    have hin0 : ∀ w ∈ wsX00, w ∈ wsX4_votesOf := by decide +kernel
    have hin4 : ∀ w ∈ wsX40, w ∈ wsX4_votesOf := by decide +kernel
    have hn1 := hsq.n.1
    have hn16 := hsq.n.2
    have hI : q_votesI n σ (nI i) = q_hd (σ.1 3 i) := by rw [q_votesI, if_pos hnx, nI_clamp (by omega)]
    refine lv_aload_n hx hb dX4_votesOf_0 rfl (lv_at hl 0 rfl) ?_
    refine lv_iload_n hx hb dX4_votesOf_1 rfl (lv_at hl 1 rfl) ?_
    refine qc_i (va_runV (As := [.int (nI i)]) (rest := []) ⟨hx, hb, hml, hown, hts⟩ (c_X4_isNode l dd ga n k ad σ hsq hL (nI i)) (cwV 1 hts gX4_votesOf_X4_isNode rfl rfl rfl (by decide +kernel) ⟨Nat.le_of_ble_eq_true rfl, Nat.le_of_ble_eq_true rfl⟩) (qpreV hK hC hC.self rfl) rfl rfl hl.1 rfl (lv_room (Nat.le_of_ble_eq_true rfl)) dX4_votesOf_2 ⟨Nat.zero_le _, Nat.zero_le _⟩) hS (fun q h => h.elim) (fun v2 H locs hp9 hz9 ho9 hS => ?_)
    have ev2 : v2 = _ := hp9
    have hC := hC.same (fun q => ho9 q (fun h => h))
    refine lv_if_eq (tgt := 23) hx hb dX4_votesOf_5 (by decide) (fun c_5 => absurd c_5 (by rw [ev2, if_pos hnx]; decide)) (fun c_5 => ?_)
    refine lv_aload_n hx hb dX4_votesOf_8 rfl (lv_at hl 0 rfl) ?_
    refine qr_get (ci := 4) (C := RX4) (T := TX4) (N := 7) hx hb hts hin4 hown hK hC.self rfl 3 (by decide) (hts (.fieldLink RX4 31 "QuorumLock" "askers" "[LQuorumLock$Asker;") (by decide +kernel)) rfl dX4_votesOf_9 ?_
    refine lv_iload_n hx hb dX4_votesOf_12 rfl (lv_at hl 1 rfl) ?_
    refine qr_aald (v := ad 10 i) hx hb hK 2 hC.arA rfl i (by omega) (by omega) rfl rfl dX4_votesOf_13 ?_
    refine qr_get (ci := 0) (C := RX0) (T := TX0) (N := 5) hx hb hts hin0 hown hK (hC.ask i hi) rfl 2 (by decide) (hts (.fieldLink RX4 94 "QuorumLock$Asker" "votes" "I") (by decide +kernel)) rfl dX4_votesOf_14 ?_
    refine qc_i (va_runS (As := [.int (σ.1 3 i)]) (rest := []) ⟨hx, hb, hml, hown, hts⟩ (c_J6_bitCount_0f7a4 l dd ga (σ.1 3 i)) (va_cwS 1 hts gX4_votesOf_J6_bitCount_0f7a4 rfl rfl rfl (by decide +kernel) ⟨Nat.le_of_ble_eq_true rfl, Nat.le_of_ble_eq_true rfl⟩) (qpreS hK trivial) rfl rfl hl.1 rfl (lv_room (Nat.le_of_ble_eq_true rfl)) dX4_votesOf_17 ⟨Nat.zero_le _, Nat.zero_le _⟩) hS (fun q h => h.elim) (fun v17 H locs hp9 hz9 ho9 hS => ?_)
    subst hp9
    have hC := hC.same (fun q => ho9 q (fun h => h))
    refine lv_goto (tgt := 24) hx hb dX4_votesOf_20 (by decide) ?_
    exact q_iret hx hb hr hlocks hS (⟨hI.symm, hC⟩) dX4_votesOf_24
  · refine Met.ofW (cc := cX4_votesOf) (maxL := 2) (ret := (some .int)) (by decide) rfl ?_
    intro p e s m args below meth c s₁ B hml hv
    obtain ⟨rfl, hC, hK⟩ := hv
    have hx := B.exec
    have hb := B.bytes
    have hr := B.returns
    have hts := atoms_spec (ws := wsX4_votesOf) B.pre
    have hown : s.vm.findClass RX4 = some m.cls := findClass_of_methodNamed B.named
    have hlocks := B.notSynchronized
    have hS : qS (qA n ad) s.heap s.heap [] := qS.rf
    have hl := lv_entry ([.ref (ad 0 0), .int x]) (n := 2) (Nat.le_of_ble_eq_true rfl)
    rw [lg_entry_eq]
    generalize (lg_sl ([.ref (ad 0 0), .int x]) ++ List.replicate (2 - (lg_sl ([.ref (ad 0 0), .int x])).length) Slot.unset).toArray = ls at hl ⊢
    have hin0 : ∀ w ∈ wsX00, w ∈ wsX4_votesOf := by decide +kernel
    have hin4 : ∀ w ∈ wsX40, w ∈ wsX4_votesOf := by decide +kernel
    have hn1 := hsq.n.1
    have hn16 := hsq.n.2
    have hI : q_votesI n σ x = -1 := by rw [q_votesI, if_neg (by rw [hnx]; decide)]
    refine lv_aload_n hx hb dX4_votesOf_0 rfl (lv_at hl 0 rfl) ?_
    refine lv_iload_n hx hb dX4_votesOf_1 rfl (lv_at hl 1 rfl) ?_
    refine qc_i (va_runV (As := [.int x]) (rest := []) ⟨hx, hb, hml, hown, hts⟩ (c_X4_isNode l dd ga n k ad σ hsq hL x) (cwV 1 hts gX4_votesOf_X4_isNode rfl rfl rfl (by decide +kernel) ⟨Nat.le_of_ble_eq_true rfl, Nat.le_of_ble_eq_true rfl⟩) (qpreV hK hC hC.self rfl) rfl rfl hl.1 rfl (lv_room (Nat.le_of_ble_eq_true rfl)) dX4_votesOf_2 ⟨Nat.zero_le _, Nat.zero_le _⟩) hS (fun q h => h.elim) (fun v2 H locs hp9 hz9 ho9 hS => ?_)
    have ev2 : v2 = _ := hp9
    have hC := hC.same (fun q => ho9 q (fun h => h))
    refine lv_if_eq (tgt := 23) hx hb dX4_votesOf_5 (by decide) (fun c_5 => ?_) (fun c_5 => absurd (by rw [ev2, if_neg (by rw [hnx]; decide)]) c_5)
    refine lv_iconst (v := (-1)) hx hb dX4_votesOf_23 (by decide) ?_
    exact q_iret hx hb hr hlocks hS (⟨hI.symm, hC⟩) dX4_votesOf_24
end
section
/-! THE REFERENCE'S WORLD: one object, sixteen arrays (by their fields' order) -/
def q_aty (ga : Nat → ClassId) (a : Nat) : ClassId := if a = 9 then ga 1 else ga 0
def q_alen (a : Nat) : Nat := if a ≤ 10 then 16 else if a ≤ 12 then 1024 else if a = 13 then 256 else 16384
def qLr (ar : Nat → Nat) : Prop := ∀ a b : Nat, a ≤ 16 → b ≤ 16 → ar a = ar b → a = b
def qAr (ar : Nat → Nat) : Nat → Prop := fun q => ∃ a : Nat, a ≤ 16 ∧ q = ar a
def qR0 (dd : va_G) (ga : Nat → ClassId) (n k : Nat) (ar : Nat → Nat) (ρ : Nat → Nat → Int32) (en : Int32) (H : Heap) : Prop :=
  va_at dd vwCl (ar 0, .inr (5, [.int (nI k), .int (nI n), .ref (ar 1), .ref (ar 2), .ref (ar 3), .ref (ar 4), .ref (ar 5), .ref (ar 6), .ref (ar 7), .ref (ar 8), .ref (ar 9), .ref (ar 10), .ref (ar 11), .ref (ar 12), .ref (ar 13), .ref (ar 14), .ref (ar 15), .ref (ar 16), .int en])) H ∧ ∀ a : Nat, 1 ≤ a → a ≤ 16 → va_at dd vwCl (ar a, .inl (q_aty ga a, q_alen a, .inl (ρ a))) H
/-- where the table's rows lie -/
def q_ai (f : Nat) : Nat := if f = 6 then 9 else f + 1
/-- what the arrays hold of a state -/
def qRp (n : Nat) (σ : qSt) (ρ : Nat → Nat → Int32) : Prop :=
  (∀ f i : Nat, f ≤ 6 → i < n → ρ (q_ai f) i = σ.1 f i) ∧
  (∀ i : Nat, i < n → ρ 7 i = q_on (σ.2.1 i) ∧ (∀ x : Nat × Int32, σ.2.1 i = some x → ρ 8 i = x.2)) ∧
  (∀ i : Nat, i < n → ρ 10 i = nI (σ.2.2.1 i).length ∧ (σ.2.2.1 i).length ≤ 32 ∧ ∀ (j : Nat) (x : Nat × Int32), (σ.2.2.1 i)[j]? = some x → ρ 11 (64 * i + j) = nI x.1 ∧ ρ 12 (64 * i + j) = x.2) ∧
  (∀ f t : Nat, f < 16 → t < 16 → ρ 13 (16 * f + t) = nI (σ.2.2.2.1 f t).length ∧ (σ.2.2.2.1 f t).length ≤ 32 ∧ ∀ (j : Nat) (x : qM), (σ.2.2.2.1 f t)[j]? = some x → ρ 14 (64 * (16 * f + t) + j) = x.1 ∧ ρ 15 (64 * (16 * f + t) + j) = x.2.1 ∧ ρ 16 (64 * (16 * f + t) + j) = x.2.2) ∧
  (∀ f t : Nat, ¬ (f < n ∧ t < n) → σ.2.2.2.1 f t = [])
def qR (dd : va_G) (ga : Nat → ClassId) (n k : Nat) (ar : Nat → Nat) (σ : qSt) (H : Heap) : Prop := ∃ ρ : Nat → Nat → Int32, qRp n σ ρ ∧ qR0 dd ga n k ar ρ σ.2.2.2.2 H
section QR0
variable {dd : va_G} {ga : Nat → ClassId} {n k : Nat} {ar : Nat → Nat} {ρ : Nat → Nat → Int32} {en : Int32} {H H1 : Heap} {σ : qSt}
theorem qR0.self (h : qR0 dd ga n k ar ρ en H) : va_at dd vwCl (ar 0, .inr (5, [.int (nI k), .int (nI n), .ref (ar 1), .ref (ar 2), .ref (ar 3), .ref (ar 4), .ref (ar 5), .ref (ar 6), .ref (ar 7), .ref (ar 8), .ref (ar 9), .ref (ar 10), .ref (ar 11), .ref (ar 12), .ref (ar 13), .ref (ar 14), .ref (ar 15), .ref (ar 16), .int en])) H := h.1
theorem qR0.a1 (h : qR0 dd ga n k ar ρ en H) : va_at dd vwCl (ar 1, .inl (ga 0, 16, .inl (ρ 1))) H := h.2 1 (by decide) (by decide)
theorem qR0.a2 (h : qR0 dd ga n k ar ρ en H) : va_at dd vwCl (ar 2, .inl (ga 0, 16, .inl (ρ 2))) H := h.2 2 (by decide) (by decide)
theorem qR0.a3 (h : qR0 dd ga n k ar ρ en H) : va_at dd vwCl (ar 3, .inl (ga 0, 16, .inl (ρ 3))) H := h.2 3 (by decide) (by decide)
theorem qR0.a4 (h : qR0 dd ga n k ar ρ en H) : va_at dd vwCl (ar 4, .inl (ga 0, 16, .inl (ρ 4))) H := h.2 4 (by decide) (by decide)
theorem qR0.a5 (h : qR0 dd ga n k ar ρ en H) : va_at dd vwCl (ar 5, .inl (ga 0, 16, .inl (ρ 5))) H := h.2 5 (by decide) (by decide)
theorem qR0.a6 (h : qR0 dd ga n k ar ρ en H) : va_at dd vwCl (ar 6, .inl (ga 0, 16, .inl (ρ 6))) H := h.2 6 (by decide) (by decide)
theorem qR0.a7 (h : qR0 dd ga n k ar ρ en H) : va_at dd vwCl (ar 7, .inl (ga 0, 16, .inl (ρ 7))) H := h.2 7 (by decide) (by decide)
theorem qR0.a8 (h : qR0 dd ga n k ar ρ en H) : va_at dd vwCl (ar 8, .inl (ga 0, 16, .inl (ρ 8))) H := h.2 8 (by decide) (by decide)
theorem qR0.a9 (h : qR0 dd ga n k ar ρ en H) : va_at dd vwCl (ar 9, .inl (ga 1, 16, .inl (ρ 9))) H := h.2 9 (by decide) (by decide)
theorem qR0.a10 (h : qR0 dd ga n k ar ρ en H) : va_at dd vwCl (ar 10, .inl (ga 0, 16, .inl (ρ 10))) H := h.2 10 (by decide) (by decide)
theorem qR0.a11 (h : qR0 dd ga n k ar ρ en H) : va_at dd vwCl (ar 11, .inl (ga 0, 1024, .inl (ρ 11))) H := h.2 11 (by decide) (by decide)
theorem qR0.a12 (h : qR0 dd ga n k ar ρ en H) : va_at dd vwCl (ar 12, .inl (ga 0, 1024, .inl (ρ 12))) H := h.2 12 (by decide) (by decide)
theorem qR0.a13 (h : qR0 dd ga n k ar ρ en H) : va_at dd vwCl (ar 13, .inl (ga 0, 256, .inl (ρ 13))) H := h.2 13 (by decide) (by decide)
theorem qR0.a14 (h : qR0 dd ga n k ar ρ en H) : va_at dd vwCl (ar 14, .inl (ga 0, 16384, .inl (ρ 14))) H := h.2 14 (by decide) (by decide)
theorem qR0.a15 (h : qR0 dd ga n k ar ρ en H) : va_at dd vwCl (ar 15, .inl (ga 0, 16384, .inl (ρ 15))) H := h.2 15 (by decide) (by decide)
theorem qR0.a16 (h : qR0 dd ga n k ar ρ en H) : va_at dd vwCl (ar 16, .inl (ga 0, 16384, .inl (ρ 16))) H := h.2 16 (by decide) (by decide)
theorem qR0.same (h : qR0 dd ga n k ar ρ en H) (hO : ∀ q : Nat, H1[q]? = H[q]?) : qR0 dd ga n k ar ρ en H1 := ⟨qa_kept h.1 (hO _), fun a h1 h2 => qa_kept (h.2 a h1 h2) (hO _)⟩
theorem qR.same (h : qR dd ga n k ar σ H) (hO : ∀ q : Nat, H1[q]? = H[q]?) : qR dd ga n k ar σ H1 := by obtain ⟨ρ, h1, h2⟩ := h; exact ⟨ρ, h1, h2.same hO⟩
theorem qR0.put (hL : qLr ar) (h : qR0 dd ga n k ar ρ en H) (a i : Nat) (v : Int32) (h1 : 1 ≤ a) (h2 : a ≤ 16) (hO : ∀ q : Nat, q ≠ ar a → H1[q]? = H[q]?) (hn : va_at dd vwCl (ar a, .inl (q_aty ga a, q_alen a, .inl (upd (ρ a) i v))) H1) : qR0 dd ga n k ar (q2 ρ a i v) en H1 := by
  refine ⟨qa_kept h.1 (hO _ (fun e => by have := hL 0 a (by decide) h2 e; omega)), fun b h3 h4 => ?_⟩
  by_cases hb : b = a
  · subst hb
    rw [show q2 ρ b i v b = upd (ρ b) i v from by funext j; by_cases hj : j = i <;> simp [q2, upd, hj]]
    exact hn
  · rw [show q2 ρ a i v b = ρ b from by funext j; simp [q2, hb]]
    exact qa_kept (h.2 b h3 h4) (hO _ (fun e => hb (hL b a h4 h2 e)))
theorem qR0.putEn (hL : qLr ar) (h : qR0 dd ga n k ar ρ en H) {v : Int32} (hO : ∀ q : Nat, q ≠ ar 0 → H1[q]? = H[q]?) (hn : va_at dd vwCl (ar 0, .inr (5, [.int (nI k), .int (nI n), .ref (ar 1), .ref (ar 2), .ref (ar 3), .ref (ar 4), .ref (ar 5), .ref (ar 6), .ref (ar 7), .ref (ar 8), .ref (ar 9), .ref (ar 10), .ref (ar 11), .ref (ar 12), .ref (ar 13), .ref (ar 14), .ref (ar 15), .ref (ar 16), .int v])) H1) : qR0 dd ga n k ar ρ v H1 :=
  ⟨hn, fun b h3 h4 => qa_kept (h.2 b h3 h4) (hO _ (fun e => by have := hL b 0 h4 (by decide) e; omega))⟩
end QR0
section QRP
variable {n : Nat} {σ : qSt} {ρ : Nat → Nat → Int32}
theorem q_ai_inj {f g : Nat} (hf : f ≤ 6) (hg : g ≤ 6) (h : q_ai f = q_ai g) : f = g := by
  unfold q_ai at h
  split at h <;> split at h <;> omega
theorem q_ai_n {f : Nat} (hf : f ≤ 6) : q_ai f ≠ 7 ∧ q_ai f ≠ 8 ∧ q_ai f ≠ 10 ∧ q_ai f ≠ 11 ∧ q_ai f ≠ 12 ∧ q_ai f ≠ 13 ∧ q_ai f ≠ 14 ∧ q_ai f ≠ 15 ∧ q_ai f ≠ 16 := by
  unfold q_ai
  split <;> omega
theorem qRp.t (h : qRp n σ ρ) (f i : Nat) (hf : f ≤ 6) (hi : i < n) : ρ (q_ai f) i = σ.1 f i := h.1 f i hf hi
theorem qRp.stb (h : qRp n σ ρ) (f i : Nat) (v : Int32) (hf : f ≤ 6) : qRp n (s_tb σ f i v) (q2 ρ (q_ai f) i v) := by
  have hn := q_ai_n hf
  refine ⟨fun g j hg hj => ?_, fun j hj => ?_, fun j hj => ?_, fun f9 t9 hf9 ht9 => ?_, h.2.2.2.2⟩
  · show q2 ρ (q_ai f) i v (q_ai g) j = q2 σ.1 f i v g j
    by_cases hc : g = f ∧ j = i
    · obtain ⟨rfl, rfl⟩ := hc; rw [q2_s, q2_s]
    · rw [q2_n hc, q2_n (fun hc2 => hc ⟨q_ai_inj hg hf hc2.1, hc2.2⟩)]; exact h.1 g j hg hj
  · rw [q2_n (by omega), q2_n (by omega)]; exact h.2.1 j hj
  · refine ⟨?_, (h.2.2.1 j hj).2.1, fun j9 x9 hx => ?_⟩
    · rw [q2_n (by omega)]; exact (h.2.2.1 j hj).1
    · rw [q2_n (by omega), q2_n (by omega)]; exact (h.2.2.1 j hj).2.2 j9 x9 hx
  · refine ⟨?_, (h.2.2.2.1 f9 t9 hf9 ht9).2.1, fun j9 x9 hx => ?_⟩
    · rw [q2_n (by omega)]; exact (h.2.2.2.1 f9 t9 hf9 ht9).1
    · rw [q2_n (by omega), q2_n (by omega), q2_n (by omega)]; exact (h.2.2.2.1 f9 t9 hf9 ht9).2.2 j9 x9 hx
theorem qRp.en (h : qRp n σ ρ) (v : Int32) : qRp n (s_en σ v) ρ := h
theorem qRp.send (hn : n ≤ 16) (h : qRp n σ ρ) {f t : Nat} (hf : f < n) (ht : t < n) (kd tm : Int32) (hl : (σ.2.2.2.1 f t).length ≤ 8) : qRp n (s_send σ f t kd tm) (q2 (q2 (q2 (q2 ρ 14 (64 * (16 * f + t) + (σ.2.2.2.1 f t).length) kd) 15 (64 * (16 * f + t) + (σ.2.2.2.1 f t).length) tm) 16 (64 * (16 * f + t) + (σ.2.2.2.1 f t).length) (σ.1 0 f)) 13 (16 * f + t) (nI ((σ.2.2.2.1 f t).length + 1))) := by
  refine ⟨fun g j hg hj => ?_, fun j hj => ?_, fun j hj => ?_, fun f9 t9 hf9 ht9 => ?_, fun f9 t9 hc => ?_⟩
  · have := q_ai_n hg
    rw [q2_n (by omega), q2_n (by omega), q2_n (by omega), q2_n (by omega)]; exact h.1 g j hg hj
  · rw [q2_n (by omega), q2_n (by omega), q2_n (by omega), q2_n (by omega), q2_n (by omega), q2_n (by omega), q2_n (by omega), q2_n (by omega)]; exact h.2.1 j hj
  · refine ⟨?_, (h.2.2.1 j hj).2.1, fun j9 x9 hx => ?_⟩
    · rw [q2_n (by omega), q2_n (by omega), q2_n (by omega), q2_n (by omega)]; exact (h.2.2.1 j hj).1
    · rw [q2_n (by omega), q2_n (by omega), q2_n (by omega), q2_n (by omega), q2_n (by omega), q2_n (by omega), q2_n (by omega), q2_n (by omega)]; exact (h.2.2.1 j hj).2.2 j9 x9 hx
  · have hb := h.2.2.2.1 f9 t9 hf9 ht9
    show _ = nI (q2 σ.2.2.2.1 f t _ f9 t9).length ∧ (q2 σ.2.2.2.1 f t _ f9 t9).length ≤ 32 ∧ ∀ (j : Nat) (x : qM), (q2 σ.2.2.2.1 f t _ f9 t9)[j]? = some x → _
    by_cases hc : f9 = f ∧ t9 = t
    · obtain ⟨rfl, rfl⟩ := hc
      rw [q2_s, q2_s]
      refine ⟨by rw [List.length_append]; rfl, by rw [List.length_append]; simp; omega, fun j x hx => ?_⟩
      rcases Nat.lt_or_ge j (σ.2.2.2.1 f9 t9).length with hj | hj
      · rw [List.getElem?_append_left hj] at hx
        have hne : ¬ j = (σ.2.2.2.1 f9 t9).length := by omega
        simp only [q2]
        refine ⟨?_, ?_, ?_⟩
        · rw [if_neg (by omega), if_neg (by omega), if_neg (by omega), if_neg (by omega)]; exact (hb.2.2 j x hx).1
        · rw [if_neg (by omega), if_neg (by omega), if_neg (by omega), if_neg (by omega)]; exact (hb.2.2 j x hx).2.1
        · rw [if_neg (by omega), if_neg (by omega), if_neg (by omega), if_neg (by omega)]; exact (hb.2.2 j x hx).2.2
      · rw [List.getElem?_append_right hj] at hx
        have h4 := (List.getElem?_eq_some_iff.mp hx).1
        have h5 : j = (σ.2.2.2.1 f9 t9).length := by simp at h4; omega
        subst h5
        rw [Nat.sub_self] at hx
        cases hx
        simp only [q2]
        refine ⟨?_, ?_, ?_⟩
        · simp
        · simp
        · simp
    · rw [q2_n hc, q2_n (by omega), q2_n (by omega), q2_n (by omega), q2_n (by omega)]
      refine ⟨hb.1, hb.2.1, fun j x hx => ?_⟩
      have h4 := (List.getElem?_eq_some_iff.mp hx).1
      rw [q2_n (by omega), q2_n (by omega), q2_n (by omega), q2_n (by omega), q2_n (by omega), q2_n (by omega), q2_n (by omega), q2_n (by omega), q2_n (by omega), q2_n (by omega), q2_n (by omega), q2_n (by omega)]
      exact hb.2.2 j x hx
  · show q2 σ.2.2.2.1 f t _ f9 t9 = []
    rw [q2_n (fun h9 => hc (by obtain ⟨rfl, rfl⟩ := h9; exact ⟨hf, ht⟩))]
    exact h.2.2.2.2 f9 t9 hc
end QRP
end
section
/-! the reference's small methods -/
theorem qRp.sln {n : Nat} {σ : qSt} {ρ : Nat → Nat → Int32} (h : qRp n σ ρ) (i a : Nat) (t : Int32) : qRp n (s_ln σ i (some (a, t))) (q2 (q2 ρ 7 i (nI a)) 8 i t) := by
  refine ⟨fun g j hg hj => ?_, fun j hj => ?_, fun j hj => ?_, fun f9 t9 hf9 ht9 => ?_, h.2.2.2.2⟩
  · have := q_ai_n hg
    rw [q2_n (by omega), q2_n (by omega)]; exact h.1 g j hg hj
  · show _ = q_on (va_up σ.2.1 i (some (a, t)) j) ∧ ∀ x, va_up σ.2.1 i (some (a, t)) j = some x → _
    by_cases hc : j = i
    · subst hc
      rw [va_up_self]
      refine ⟨by simp [q2, q_on], fun x hx => ?_⟩
      cases hx
      simp [q2]
    · rw [va_up_ne _ _ hc, q2_n (by omega), q2_n (by omega), q2_n (by omega), q2_n (by omega)]; exact h.2.1 j hj
  · refine ⟨?_, (h.2.2.1 j hj).2.1, fun j9 x9 hx => ?_⟩
    · rw [q2_n (by omega), q2_n (by omega)]; exact (h.2.2.1 j hj).1
    · rw [q2_n (by omega), q2_n (by omega), q2_n (by omega), q2_n (by omega)]; exact (h.2.2.1 j hj).2.2 j9 x9 hx
  · refine ⟨?_, (h.2.2.2.1 f9 t9 hf9 ht9).2.1, fun j9 x9 hx => ?_⟩
    · rw [q2_n (by omega), q2_n (by omega)]; exact (h.2.2.2.1 f9 t9 hf9 ht9).1
    · rw [q2_n (by omega), q2_n (by omega), q2_n (by omega), q2_n (by omega), q2_n (by omega), q2_n (by omega)]; exact (h.2.2.2.1 f9 t9 hf9 ht9).2.2 j9 x9 hx
theorem qRp.sln0 {n : Nat} {σ : qSt} {ρ : Nat → Nat → Int32} (h : qRp n σ ρ) (i : Nat) : qRp n (s_ln σ i none) (q2 ρ 7 i (-1)) := by
  refine ⟨fun g j hg hj => ?_, fun j hj => ?_, fun j hj => ?_, fun f9 t9 hf9 ht9 => ?_, h.2.2.2.2⟩
  · have := q_ai_n hg
    rw [q2_n (by omega)]; exact h.1 g j hg hj
  · show _ = q_on (va_up σ.2.1 i none j) ∧ ∀ x, va_up σ.2.1 i none j = some x → _
    by_cases hc : j = i
    · subst hc
      rw [va_up_self]
      exact ⟨by simp [q2, q_on], fun x hx => by cases hx⟩
    · rw [va_up_ne _ _ hc, q2_n (by omega), q2_n (by omega)]; exact h.2.1 j hj
  · refine ⟨?_, (h.2.2.1 j hj).2.1, fun j9 x9 hx => ?_⟩
    · rw [q2_n (by omega)]; exact (h.2.2.1 j hj).1
    · rw [q2_n (by omega), q2_n (by omega)]; exact (h.2.2.1 j hj).2.2 j9 x9 hx
  · refine ⟨?_, (h.2.2.2.1 f9 t9 hf9 ht9).2.1, fun j9 x9 hx => ?_⟩
    · rw [q2_n (by omega)]; exact (h.2.2.2.1 f9 t9 hf9 ht9).1
    · rw [q2_n (by omega), q2_n (by omega), q2_n (by omega)]; exact (h.2.2.2.1 f9 t9 hf9 ht9).2.2 j9 x9 hx
theorem q_hasI {m : Int32} {j : Nat} : (m >>> (nI j &&& 31)) &&& 1 = 1 ↔ q_has m j = true := by simp [q_has]
/-- how many bits of a set lie below m -/
def q_cnt (x : Int32) : Nat → Int32
  | 0 => 0
  | j + 1 => q_cnt x j + ((x >>> (nI j &&& 31)) &&& 1)
set_option maxHeartbeats 4000000 in
set_option maxRecDepth 100000 in
/-- X5_isBefore -/
theorem c_X5_isBefore (l : Launch) (dd : va_G) (ga : Nat → ClassId) (x0 x1 x2 x3 : Int32) : Met l yX5_isBefore wsX5_isBefore ({ frames := 0, cells := 0, slots := 0, locals := 0 }) (qPc dd ga [.int x0, .int x1, .int x2, .int x3] (fun H => True)) (qQi (fun r _ => r = if x0 < x2 ∨ x0 = x2 ∧ x1 < x3 then 1 else 0) (fun _ => False)) 0 0 (fun _ => False) := by
  refine Met.ofW (cc := cX5_isBefore) (maxL := 4) (ret := (some .boolean)) (by decide) rfl ?_
  intro p e s m args below meth c s₁ B hml hv
  obtain ⟨rfl, hP, hK⟩ := hv
  have hx := B.exec
  have hb := B.bytes
  have hr := B.returns
  have hts := atoms_spec (ws := wsX5_isBefore) B.pre
  have hown : s.vm.findClass RX5 = some m.cls := findClass_of_methodNamed B.named
  have hlocks := B.notSynchronized
  have hS : qS (fun _ => False) s.heap s.heap [] := qS.rf
  have hl := lv_entry ([.int x0, .int x1, .int x2, .int x3]) (n := 4) (Nat.le_of_ble_eq_true rfl)
  rw [lg_entry_eq]
  generalize (lg_sl ([.int x0, .int x1, .int x2, .int x3]) ++ List.replicate (4 - (lg_sl ([.int x0, .int x1, .int x2, .int x3])).length) Slot.unset).toArray = ls at hl ⊢
  refine lv_iload_n hx hb dX5_isBefore_0 rfl (lv_at hl 0 rfl) ?_
  refine lv_iload_n hx hb dX5_isBefore_1 rfl (lv_at hl 2 rfl) ?_
  refine lv_icmp_lt (tgt := 15) hx hb dX5_isBefore_2 (by decide) (fun c_2 => ?_) (fun c_2 => ?_)
  · refine lv_iconst (v := 1) hx hb dX5_isBefore_15 (by decide) ?_
    refine lv_goto (tgt := 20) hx hb dX5_isBefore_16 (by decide) ?_
    exact q_zret hx hb hr hlocks rfl hS (by first | rw [if_pos (Or.inl (by assumption))] | (rw [if_pos]; exact Or.inr ⟨by assumption, Int32.not_le.mp (by assumption)⟩)) dX5_isBefore_20
  · refine lv_iload_n hx hb dX5_isBefore_5 rfl (lv_at hl 0 rfl) ?_
    refine lv_iload_n hx hb dX5_isBefore_6 rfl (lv_at hl 2 rfl) ?_
    refine lv_icmp_ne (tgt := 19) hx hb dX5_isBefore_7 (by decide) (fun c_7 => ?_) (fun c_7 => ?_)
    · refine lv_iconst (v := 0) hx hb dX5_isBefore_19 (by decide) ?_
      exact q_zret hx hb hr hlocks rfl hS (by rw [if_neg]; rintro (h | ⟨h1, h2⟩) <;> first | contradiction | exact absurd h2 (Int32.not_lt.mpr (by assumption))) dX5_isBefore_20
    · refine lv_iload_n hx hb dX5_isBefore_10 rfl (lv_at hl 1 rfl) ?_
      refine lv_iload_n hx hb dX5_isBefore_11 rfl (lv_at hl 3 rfl) ?_
      refine lv_icmp_ge (tgt := 19) hx hb dX5_isBefore_12 (by decide) (fun c_12 => ?_) (fun c_12 => ?_)
      · refine lv_iconst (v := 0) hx hb dX5_isBefore_19 (by decide) ?_
        exact q_zret hx hb hr hlocks rfl hS (by rw [if_neg]; rintro (h | ⟨h1, h2⟩) <;> first | contradiction | exact absurd h2 (Int32.not_lt.mpr (by assumption))) dX5_isBefore_20
      · refine lv_iconst (v := 1) hx hb dX5_isBefore_15 (by decide) ?_
        refine lv_goto (tgt := 20) hx hb dX5_isBefore_16 (by decide) ?_
        exact q_zret hx hb hr hlocks rfl hS (by first | rw [if_pos (Or.inl (by assumption))] | (rw [if_pos]; exact Or.inr ⟨by assumption, Int32.not_le.mp (by assumption)⟩)) dX5_isBefore_20
set_option maxHeartbeats 4000000 in
set_option maxRecDepth 100000 in
/-- X5_isNode -/
theorem c_X5_isNode (l : Launch) (dd : va_G) (ga : Nat → ClassId) (n k : Nat) (ar : Nat → Nat) (σ : qSt) (hsq : qSq n k) (hL : qLr ar) (x : Int32) : Met l yX5_isNode wsX5_isNode ({ frames := 0, cells := 0, slots := 0, locals := 0 }) (qPc dd ga [.ref (ar 0), .int x] (fun H => qR dd ga n k ar σ H)) (qQi (fun v _ => v = if q_node n x = true then 1 else 0) (fun _ => False)) 0 0 (fun _ => False) := by
  refine Met.ofW (cc := cX5_isNode) (maxL := 2) (ret := (some .boolean)) (by decide) rfl ?_
  intro p e s m args below meth c s₁ B hml hv
  obtain ⟨rfl, ⟨ρ, hRp, hW⟩, hK⟩ := hv
  have hx := B.exec
  have hb := B.bytes
  have hr := B.returns
  have hts := atoms_spec (ws := wsX5_isNode) B.pre
  have hown : s.vm.findClass RX5 = some m.cls := findClass_of_methodNamed B.named
  have hlocks := B.notSynchronized
  have hS : qS (fun _ => False) s.heap s.heap [] := qS.rf
  have hl := lv_entry ([.ref (ar 0), .int x]) (n := 2) (Nat.le_of_ble_eq_true rfl)
  rw [lg_entry_eq]
  generalize (lg_sl ([.ref (ar 0), .int x]) ++ List.replicate (2 - (lg_sl ([.ref (ar 0), .int x])).length) Slot.unset).toArray = ls at hl ⊢
  have hin5 : ∀ w ∈ wsX50, w ∈ wsX5_isNode := by decide +kernel
  have hn1 := hsq.n.1
  have hn16 := hsq.n.2
  refine lv_iload_n hx hb dX5_isNode_0 rfl (lv_at hl 1 rfl) ?_
  refine lv_if_lt (tgt := 16) hx hb dX5_isNode_1 (by decide) (fun c_1 => ?_) (fun c_1 => ?_)
  · refine lv_iconst (v := 0) hx hb dX5_isNode_16 (by decide) ?_
    exact q_zret hx hb hr hlocks rfl hS (by simp_all [q_node]) dX5_isNode_17
  · refine lv_iload_n hx hb dX5_isNode_4 rfl (lv_at hl 1 rfl) ?_
    refine lv_aload_n hx hb dX5_isNode_5 rfl (lv_at hl 0 rfl) ?_
    refine qr_get (ci := 5) (C := RX5) (T := TX5) (N := 19) hx hb hts hin5 hown hK hW.self rfl 1 (by decide) (hts (.fieldLink RX5 63 "QuorumLockModel" "n" "I") (by decide +kernel)) rfl dX5_isNode_6 ?_
    refine lv_icmp_ge (tgt := 16) hx hb dX5_isNode_9 (by decide) (fun c_9 => ?_) (fun c_9 => ?_)
    · refine lv_iconst (v := 0) hx hb dX5_isNode_16 (by decide) ?_
      exact q_zret hx hb hr hlocks rfl hS (by simp_all [q_node]) dX5_isNode_17
    · refine lv_iconst (v := 1) hx hb dX5_isNode_12 (by decide) ?_
      refine lv_goto (tgt := 17) hx hb dX5_isNode_13 (by decide) ?_
      exact q_zret hx hb hr hlocks rfl hS (by simp_all [q_node]) dX5_isNode_17
set_option maxHeartbeats 4000000 in
set_option maxRecDepth 100000 in
/-- X5_quorum -/
theorem c_X5_quorum (l : Launch) (dd : va_G) (ga : Nat → ClassId) (n k : Nat) (ar : Nat → Nat) (σ : qSt) (hsq : qSq n k) (hL : qLr ar) (i : Nat) (hi : i < n) : Met l yX5_quorum wsX5_quorum ({ frames := 0, cells := 0, slots := 0, locals := 0 }) (qPc dd ga [.ref (ar 0), .int (nI i)] (fun H => qR dd ga n k ar σ H)) (qQi (fun v _ => v = q_quo k i n) (fun _ => False)) 0 0 (fun _ => False) := by
  refine Met.ofW (cc := cX5_quorum) (maxL := 4) (ret := (some .int)) (by decide) rfl ?_
  intro p e s m args below meth c s₁ B hml hv
  obtain ⟨rfl, ⟨ρ, hRp, hW⟩, hK⟩ := hv
  have hx := B.exec
  have hb := B.bytes
  have hr := B.returns
  have hts := atoms_spec (ws := wsX5_quorum) B.pre
  have hown : s.vm.findClass RX5 = some m.cls := findClass_of_methodNamed B.named
  have hlocks := B.notSynchronized
  have hS : qS (fun _ => False) s.heap s.heap [] := qS.rf
  have hl := lv_entry ([.ref (ar 0), .int (nI i)]) (n := 4) (Nat.le_of_ble_eq_true rfl)
  rw [lg_entry_eq]
  generalize (lg_sl ([.ref (ar 0), .int (nI i)]) ++ List.replicate (4 - (lg_sl ([.ref (ar 0), .int (nI i)])).length) Slot.unset).toArray = ls at hl ⊢
  have hin5 : ∀ w ∈ wsX50, w ∈ wsX5_quorum := by decide +kernel
  have hn1 := hsq.n.1
  have hn16 := hsq.n.2
  have hk1 := hsq.2.1
  have hk4 := hsq.2.2
  have hloop : ∀ (c9 j9 : Nat) (ls : Array Slot), j9 + c9 = n → lv_has ls 4 [(3, .int (nI j9)), (2, .int (q_quo k i j9)), (0, .ref (ar 0)), (1, .int (nI i))] → W p l e (headSpec wsX5_quorum ({ frames := 0, cells := 0, slots := 0, locals := 0 })).room s m (([.ref (ar 0), .int (nI i)] : List Value).toArray) below meth c s.heap [] 0 0 (MQ below (qQi (fun v _ => v = q_quo k i n) (fun _ => False)) (([.ref (ar 0), .int (nI i)] : List Value).toArray) s 0 0 (fun _ => False)) (F0 m 4 ls []) := by
    intro c9
    induction c9 with
    | zero =>
      intro j9 ls hc hl
      refine lv_iload_n hx hb dX5_quorum_4 rfl (lv_at hl 0 rfl) ?_
      refine lv_aload_n hx hb dX5_quorum_5 rfl (lv_at hl 2 rfl) ?_
      refine qr_get (ci := 5) (C := RX5) (T := TX5) (N := 19) hx hb hts hin5 hown hK hW.self rfl 1 (by decide) (hts (.fieldLink RX5 63 "QuorumLockModel" "n" "I") (by decide +kernel)) rfl dX5_quorum_6 ?_
      refine lv_icmp_ge (tgt := 58) hx hb dX5_quorum_9 (by decide) (fun c_9 => ?_) (fun c_9 => absurd (nI_le (show n ≤ j9 by omega) (by omega)) c_9)
      refine lv_iload_n hx hb dX5_quorum_58 rfl (lv_at hl 1 rfl) ?_
      exact q_iret hx hb hr hlocks hS (by rw [show j9 = n by omega]) dX5_quorum_59
    | succ c9 ih =>
      intro j9 ls hc hl
      refine lv_iload_n hx hb dX5_quorum_4 rfl (lv_at hl 0 rfl) ?_
      refine lv_aload_n hx hb dX5_quorum_5 rfl (lv_at hl 2 rfl) ?_
      refine qr_get (ci := 5) (C := RX5) (T := TX5) (N := 19) hx hb hts hin5 hown hK hW.self rfl 1 (by decide) (hts (.fieldLink RX5 63 "QuorumLockModel" "n" "I") (by decide +kernel)) rfl dX5_quorum_6 ?_
      refine lv_icmp_ge (tgt := 58) hx hb dX5_quorum_9 (by decide) (fun c_9 => absurd c_9 (nI_ge (by omega) (by omega))) (fun c_9 => ?_)
      refine lv_iload_n hx hb dX5_quorum_12 rfl (lv_at hl 1 rfl) ?_
      refine lv_iload_n hx hb dX5_quorum_13 rfl (lv_at hl 0 rfl) ?_
      refine lv_aload_n hx hb dX5_quorum_14 rfl (lv_at hl 2 rfl) ?_
      refine qr_get (ci := 5) (C := RX5) (T := TX5) (N := 19) hx hb hts hin5 hown hK hW.self rfl 0 (by decide) (hts (.fieldLink RX5 59 "QuorumLockModel" "k" "I") (by decide +kernel)) rfl dX5_quorum_15 ?_
      refine lv_idiv hx hb dX5_quorum_18 (nI_ne0 (by omega) (by omega)) ?_
      refine q_ti (y := nI (j9 / k)) (pk_div (by omega) (by omega) (by omega)) ?_
      refine lv_iload_n hx hb dX5_quorum_19 rfl (lv_at hl 3 rfl) ?_
      refine lv_aload_n hx hb dX5_quorum_20 rfl (lv_at hl 2 rfl) ?_
      refine qr_get (ci := 5) (C := RX5) (T := TX5) (N := 19) hx hb hts hin5 hown hK hW.self rfl 0 (by decide) (hts (.fieldLink RX5 59 "QuorumLockModel" "k" "I") (by decide +kernel)) rfl dX5_quorum_21 ?_
      refine lv_idiv hx hb dX5_quorum_24 (nI_ne0 (by omega) (by omega)) ?_
      refine q_ti (y := nI (i / k)) (pk_div (by omega) (by omega) (by omega)) ?_
      have hd1 : j9 / k ≤ j9 := Nat.div_le_self _ _
      have hd2 : i / k ≤ i := Nat.div_le_self _ _
      have hd3 : j9 % k < k := Nat.mod_lt _ (by omega)
      have hd4 : i % k < k := Nat.mod_lt _ (by omega)
      refine lv_icmp_eq (tgt := 43) hx hb dX5_quorum_25 (by decide) (fun c_25 => ?_) (fun c_25 => ?_)
      · have hq9 : j9 / k = i / k ∨ j9 % k = i % k := Or.inl ((nI_eq (by omega) (by omega)).mp c_25)
        refine lv_iconst (v := 1) hx hb dX5_quorum_43 (by decide) ?_
        refine lv_iload_n hx hb dX5_quorum_44 rfl (lv_at hl 0 rfl) ?_
        refine lv_ishl hx hb dX5_quorum_45 ?_
        refine lv_goto (tgt := 50) hx hb dX5_quorum_46 (by decide) ?_
        refine lv_ior hx hb dX5_quorum_50 ?_
        refine q_ti (y := q_quo k i (j9 + 1)) (by rw [q_quo, if_pos hq9]; rfl) ?_
        refine lv_istore_n (lv' := [(2, .int (q_quo k i (j9 + 1))), (3, .int (nI j9)), (0, .ref (ar 0)), (1, .int (nI i))]) hx hb dX5_quorum_51 rfl hl (by decide) rfl (fun ls hl => ?_)
        refine lv_iinc (v := nI (j9 + 1)) (lv' := [(3, .int (nI (j9 + 1))), (2, .int (q_quo k i (j9 + 1))), (0, .ref (ar 0)), (1, .int (nI i))]) hx hb dX5_quorum_52 hl (k := 1) rfl (nI_1 _) (by decide) rfl (fun ls hl => ?_)
        refine lv_goto (tgt := 4) hx hb dX5_quorum_55 (by decide) ?_
        exact ih (j9 + 1) ls (by omega) (lv_sub hl [0, 1, 2, 3] rfl)
      · refine lv_iload_n hx hb dX5_quorum_28 rfl (lv_at hl 0 rfl) ?_
        refine lv_aload_n hx hb dX5_quorum_29 rfl (lv_at hl 2 rfl) ?_
        refine qr_get (ci := 5) (C := RX5) (T := TX5) (N := 19) hx hb hts hin5 hown hK hW.self rfl 0 (by decide) (hts (.fieldLink RX5 59 "QuorumLockModel" "k" "I") (by decide +kernel)) rfl dX5_quorum_30 ?_
        refine lv_irem hx hb dX5_quorum_33 (nI_ne0 (by omega) (by omega)) ?_
        refine q_ti (y := nI (j9 % k)) (pk_rem (by omega) (by omega) (by omega)) ?_
        refine lv_iload_n hx hb dX5_quorum_34 rfl (lv_at hl 3 rfl) ?_
        refine lv_aload_n hx hb dX5_quorum_35 rfl (lv_at hl 2 rfl) ?_
        refine qr_get (ci := 5) (C := RX5) (T := TX5) (N := 19) hx hb hts hin5 hown hK hW.self rfl 0 (by decide) (hts (.fieldLink RX5 59 "QuorumLockModel" "k" "I") (by decide +kernel)) rfl dX5_quorum_36 ?_
        refine lv_irem hx hb dX5_quorum_39 (nI_ne0 (by omega) (by omega)) ?_
        refine q_ti (y := nI (i % k)) (pk_rem (by omega) (by omega) (by omega)) ?_
        refine lv_icmp_ne (tgt := 49) hx hb dX5_quorum_40 (by decide) (fun c_40 => ?_) (fun c_40 => ?_)
        · have hq9 : ¬ (j9 / k = i / k ∨ j9 % k = i % k) := fun h => h.elim (fun h => c_25 (by rw [h])) (fun h => c_40 (by rw [h]))
          refine lv_iconst (v := 0) hx hb dX5_quorum_49 (by decide) ?_
          refine lv_ior hx hb dX5_quorum_50 ?_
          refine q_ti (y := q_quo k i (j9 + 1)) (by rw [q_quo, if_neg hq9]) ?_
          refine lv_istore_n (lv' := [(2, .int (q_quo k i (j9 + 1))), (3, .int (nI j9)), (0, .ref (ar 0)), (1, .int (nI i))]) hx hb dX5_quorum_51 rfl hl (by decide) rfl (fun ls hl => ?_)
          refine lv_iinc (v := nI (j9 + 1)) (lv' := [(3, .int (nI (j9 + 1))), (2, .int (q_quo k i (j9 + 1))), (0, .ref (ar 0)), (1, .int (nI i))]) hx hb dX5_quorum_52 hl (k := 1) rfl (nI_1 _) (by decide) rfl (fun ls hl => ?_)
          refine lv_goto (tgt := 4) hx hb dX5_quorum_55 (by decide) ?_
          exact ih (j9 + 1) ls (by omega) (lv_sub hl [0, 1, 2, 3] rfl)
        · have hq9 : j9 / k = i / k ∨ j9 % k = i % k := Or.inr ((nI_eq (by omega) (by omega)).mp c_40)
          refine lv_iconst (v := 1) hx hb dX5_quorum_43 (by decide) ?_
          refine lv_iload_n hx hb dX5_quorum_44 rfl (lv_at hl 0 rfl) ?_
          refine lv_ishl hx hb dX5_quorum_45 ?_
          refine lv_goto (tgt := 50) hx hb dX5_quorum_46 (by decide) ?_
          refine lv_ior hx hb dX5_quorum_50 ?_
          refine q_ti (y := q_quo k i (j9 + 1)) (by rw [q_quo, if_pos hq9]; rfl) ?_
          refine lv_istore_n (lv' := [(2, .int (q_quo k i (j9 + 1))), (3, .int (nI j9)), (0, .ref (ar 0)), (1, .int (nI i))]) hx hb dX5_quorum_51 rfl hl (by decide) rfl (fun ls hl => ?_)
          refine lv_iinc (v := nI (j9 + 1)) (lv' := [(3, .int (nI (j9 + 1))), (2, .int (q_quo k i (j9 + 1))), (0, .ref (ar 0)), (1, .int (nI i))]) hx hb dX5_quorum_52 hl (k := 1) rfl (nI_1 _) (by decide) rfl (fun ls hl => ?_)
          refine lv_goto (tgt := 4) hx hb dX5_quorum_55 (by decide) ?_
          exact ih (j9 + 1) ls (by omega) (lv_sub hl [0, 1, 2, 3] rfl)
  refine lv_iconst (v := 0) hx hb dX5_quorum_0 (by decide) ?_
  refine lv_istore_n (lv' := [(2, .int 0), (0, .ref (ar 0)), (1, .int (nI i))]) hx hb dX5_quorum_1 rfl hl (by decide) rfl (fun ls hl => ?_)
  refine lv_iconst (v := nI 0) hx hb dX5_quorum_2 (by decide) ?_
  refine lv_istore_n (lv' := [(3, .int (nI 0)), (2, .int 0), (0, .ref (ar 0)), (1, .int (nI i))]) hx hb dX5_quorum_3 rfl hl (by decide) rfl (fun ls hl => ?_)
  exact hloop n 0 ls (by omega) (lv_sub hl [0, 1, 2, 3] rfl)
set_option maxHeartbeats 4000000 in
set_option maxRecDepth 100000 in
/-- X5_count -/
theorem c_X5_count (l : Launch) (dd : va_G) (ga : Nat → ClassId) (n k : Nat) (ar : Nat → Nat) (σ : qSt) (hsq : qSq n k) (hL : qLr ar) (x : Int32) : Met l yX5_count wsX5_count ({ frames := 0, cells := 0, slots := 0, locals := 0 }) (qPc dd ga [.ref (ar 0), .int x] (fun H => qR dd ga n k ar σ H)) (qQi (fun v _ => v = q_cnt x n) (fun _ => False)) 0 0 (fun _ => False) := by
  refine Met.ofW (cc := cX5_count) (maxL := 4) (ret := (some .int)) (by decide) rfl ?_
  intro p e s m args below meth c s₁ B hml hv
  obtain ⟨rfl, ⟨ρ, hRp, hW⟩, hK⟩ := hv
  have hx := B.exec
  have hb := B.bytes
  have hr := B.returns
  have hts := atoms_spec (ws := wsX5_count) B.pre
  have hown : s.vm.findClass RX5 = some m.cls := findClass_of_methodNamed B.named
  have hlocks := B.notSynchronized
  have hS : qS (fun _ => False) s.heap s.heap [] := qS.rf
  have hl := lv_entry ([.ref (ar 0), .int x]) (n := 4) (Nat.le_of_ble_eq_true rfl)
  rw [lg_entry_eq]
  generalize (lg_sl ([.ref (ar 0), .int x]) ++ List.replicate (4 - (lg_sl ([.ref (ar 0), .int x])).length) Slot.unset).toArray = ls at hl ⊢
  have hin5 : ∀ w ∈ wsX50, w ∈ wsX5_count := by decide +kernel
  have hn1 := hsq.n.1
  have hn16 := hsq.n.2
  have hloop : ∀ (c9 j9 : Nat) (ls : Array Slot), j9 + c9 = n → lv_has ls 4 [(3, .int (nI j9)), (2, .int (q_cnt x j9)), (0, .ref (ar 0)), (1, .int x)] → W p l e (headSpec wsX5_count ({ frames := 0, cells := 0, slots := 0, locals := 0 })).room s m (([.ref (ar 0), .int x] : List Value).toArray) below meth c s.heap [] 0 0 (MQ below (qQi (fun v _ => v = q_cnt x n) (fun _ => False)) (([.ref (ar 0), .int x] : List Value).toArray) s 0 0 (fun _ => False)) (F0 m 4 ls []) := by
    intro c9
    induction c9 with
    | zero =>
      intro j9 ls hc hl
      refine lv_iload_n hx hb dX5_count_4 rfl (lv_at hl 0 rfl) ?_
      refine lv_aload_n hx hb dX5_count_5 rfl (lv_at hl 2 rfl) ?_
      refine qr_get (ci := 5) (C := RX5) (T := TX5) (N := 19) hx hb hts hin5 hown hK hW.self rfl 1 (by decide) (hts (.fieldLink RX5 63 "QuorumLockModel" "n" "I") (by decide +kernel)) rfl dX5_count_6 ?_
      refine lv_icmp_ge (tgt := 26) hx hb dX5_count_9 (by decide) (fun c_9 => ?_) (fun c_9 => absurd (nI_le (show n ≤ j9 by omega) (by omega)) c_9)
      refine lv_iload_n hx hb dX5_count_26 rfl (lv_at hl 1 rfl) ?_
      exact q_iret hx hb hr hlocks hS (by rw [show j9 = n by omega]) dX5_count_27
    | succ c9 ih =>
      intro j9 ls hc hl
      refine lv_iload_n hx hb dX5_count_4 rfl (lv_at hl 0 rfl) ?_
      refine lv_aload_n hx hb dX5_count_5 rfl (lv_at hl 2 rfl) ?_
      refine qr_get (ci := 5) (C := RX5) (T := TX5) (N := 19) hx hb hts hin5 hown hK hW.self rfl 1 (by decide) (hts (.fieldLink RX5 63 "QuorumLockModel" "n" "I") (by decide +kernel)) rfl dX5_count_6 ?_
      refine lv_icmp_ge (tgt := 26) hx hb dX5_count_9 (by decide) (fun c_9 => absurd c_9 (nI_ge (by omega) (by omega))) (fun c_9 => ?_)
      refine lv_iload_n hx hb dX5_count_12 rfl (lv_at hl 1 rfl) ?_
      refine lv_iload_n hx hb dX5_count_13 rfl (lv_at hl 3 rfl) ?_
      refine lv_iload_n hx hb dX5_count_14 rfl (lv_at hl 0 rfl) ?_
      refine lv_ishr hx hb dX5_count_15 ?_
      refine lv_iconst (v := 1) hx hb dX5_count_16 (by decide) ?_
      refine lv_iand hx hb dX5_count_17 ?_
      refine lv_iadd hx hb dX5_count_18 ?_
      refine q_ti (y := q_cnt x (j9 + 1)) (rfl) ?_
      refine lv_istore_n (lv' := [(2, .int (q_cnt x (j9 + 1))), (3, .int (nI j9)), (0, .ref (ar 0)), (1, .int x)]) hx hb dX5_count_19 rfl hl (by decide) rfl (fun ls hl => ?_)
      refine lv_iinc (v := nI (j9 + 1)) (lv' := [(3, .int (nI (j9 + 1))), (2, .int (q_cnt x (j9 + 1))), (0, .ref (ar 0)), (1, .int x)]) hx hb dX5_count_20 hl (k := 1) rfl (nI_1 _) (by decide) rfl (fun ls hl => ?_)
      refine lv_goto (tgt := 4) hx hb dX5_count_23 (by decide) ?_
      exact ih (j9 + 1) ls (by omega) (lv_sub hl [0, 1, 2, 3] rfl)
  refine lv_iconst (v := 0) hx hb dX5_count_0 (by decide) ?_
  refine lv_istore_n (lv' := [(2, .int 0), (0, .ref (ar 0)), (1, .int x)]) hx hb dX5_count_1 rfl hl (by decide) rfl (fun ls hl => ?_)
  refine lv_iconst (v := nI 0) hx hb dX5_count_2 (by decide) ?_
  refine lv_istore_n (lv' := [(3, .int (nI 0)), (2, .int 0), (0, .ref (ar 0)), (1, .int x)]) hx hb dX5_count_3 rfl hl (by decide) rfl (fun ls hl => ?_)
  exact hloop n 0 ls (by omega) (lv_sub hl [0, 1, 2, 3] rfl)
set_option maxHeartbeats 4000000 in
set_option maxRecDepth 100000 in
/-- X5_send -/
theorem c_X5_send (l : Launch) (dd : va_G) (ga : Nat → ClassId) (n k : Nat) (ar : Nat → Nat) (σ : qSt) (hsq : qSq n k) (hL : qLr ar) (f t : Nat) (hf : f < n) (ht : t < n) (x y : Int32) (hroom : (σ.2.2.2.1 f t).length ≤ 8) : Met l yX5_send wsX5_send ({ frames := 0, cells := 0, slots := 0, locals := 0 }) (qPc dd ga [.ref (ar 0), .int (nI f), .int (nI t), .int x, .int y] (fun H => qR dd ga n k ar σ H)) (qQv (fun H => qR dd ga n k ar (s_send σ f t x y) H) (qAr ar)) 0 0 (qAr ar) := by
  refine Met.ofW (cc := cX5_send) (maxL := 7) (ret := none) (by decide) rfl ?_
  intro p e s m args below meth c s₁ B hml hv
  obtain ⟨rfl, ⟨ρ, hRp, hW⟩, hK⟩ := hv
  have hx := B.exec
  have hb := B.bytes
  have hr := B.returns
  have hts := atoms_spec (ws := wsX5_send) B.pre
  have hown : s.vm.findClass RX5 = some m.cls := findClass_of_methodNamed B.named
  have hlocks := B.notSynchronized
  have hS : qS (qAr ar) s.heap s.heap [] := qS.rf
  have hl := lv_entry ([.ref (ar 0), .int (nI f), .int (nI t), .int x, .int y]) (n := 7) (Nat.le_of_ble_eq_true rfl)
  rw [lg_entry_eq]
  generalize (lg_sl ([.ref (ar 0), .int (nI f), .int (nI t), .int x, .int y]) ++ List.replicate (7 - (lg_sl ([.ref (ar 0), .int (nI f), .int (nI t), .int x, .int y])).length) Slot.unset).toArray = ls at hl ⊢
  have hin5 : ∀ w ∈ wsX50, w ∈ wsX5_send := by decide +kernel
  have hn1 := hsq.n.1
  have hn16 := hsq.n.2
  have hw9 := hRp.2.2.2.1 f t (by omega) (by omega)
  refine lv_bipush (v := nI 16) hx hb dX5_send_0 (by decide) ?_
  refine lv_iload_n hx hb dX5_send_2 rfl (lv_at hl 1 rfl) ?_
  refine lv_imul hx hb dX5_send_3 ?_
  refine q_ti (y := nI (16 * f)) (pk_mul _ _) ?_
  refine lv_iload_n hx hb dX5_send_4 rfl (lv_at hl 2 rfl) ?_
  refine lv_iadd hx hb dX5_send_5 ?_
  refine q_ti (y := nI (16 * f + t)) (nI_add _ _) ?_
  refine lv_istore (lv' := [(5, .int (nI (16 * f + t))), (0, .ref (ar 0)), (1, .int (nI f)), (2, .int (nI t)), (3, .int x), (4, .int y)]) hx hb dX5_send_6 hl (by decide) rfl (fun ls hl => ?_)
  refine lv_bipush (v := nI 64) hx hb dX5_send_8 (by decide) ?_
  refine lv_iload hx hb dX5_send_10 (lv_at hl 0 rfl) ?_
  refine lv_imul hx hb dX5_send_12 ?_
  refine q_ti (y := nI (64 * (16 * f + t))) (pk_mul _ _) ?_
  refine lv_aload_n hx hb dX5_send_13 rfl (lv_at hl 1 rfl) ?_
  refine qr_get (ci := 5) (C := RX5) (T := TX5) (N := 19) hx hb hts hin5 hown hK hW.self rfl 14 (by decide) (hts (.fieldLink RX5 47 "QuorumLockModel" "lying" "[I") (by decide +kernel)) rfl dX5_send_14 ?_
  refine lv_iload hx hb dX5_send_17 (lv_at hl 0 rfl) ?_
  refine qr_iald (v := (nI (σ.2.2.2.1 f t).length)) hx hb hK hW.a13 (16 * f + t) (by omega) (by omega) rfl hw9.1 dX5_send_19 ?_
  refine lv_iadd hx hb dX5_send_20 ?_
  refine q_ti (y := nI (64 * (16 * f + t) + (σ.2.2.2.1 f t).length)) (nI_add _ _) ?_
  refine lv_istore (lv' := [(6, .int (nI (64 * (16 * f + t) + (σ.2.2.2.1 f t).length))), (5, .int (nI (16 * f + t))), (0, .ref (ar 0)), (1, .int (nI f)), (2, .int (nI t)), (3, .int x), (4, .int y)]) hx hb dX5_send_21 hl (by decide) rfl (fun ls hl => ?_)
  refine lv_aload_n hx hb dX5_send_23 rfl (lv_at hl 2 rfl) ?_
  refine qr_get (ci := 5) (C := RX5) (T := TX5) (N := 19) hx hb hts hin5 hown hK hW.self rfl 15 (by decide) (hts (.fieldLink RX5 50 "QuorumLockModel" "kinds" "[I") (by decide +kernel)) rfl dX5_send_24 ?_
  refine lv_iload hx hb dX5_send_27 (lv_at hl 0 rfl) ?_
  refine lv_iload_n hx hb dX5_send_29 rfl (lv_at hl 5 rfl) ?_
  refine qr_iast hx hb hK hW.a14 hS (⟨14, by decide, rfl⟩) (64 * (16 * f + t) + (σ.2.2.2.1 f t).length) (by omega) (by omega) rfl dX5_send_30 (fun H locs hz9 ho9 hat9 hS => ?_)
  have hW := hW.put hL 14 (64 * (16 * f + t) + (σ.2.2.2.1 f t).length) x (by decide) (by decide) ho9 hat9
  refine lv_aload_n hx hb dX5_send_31 rfl (lv_at hl 2 rfl) ?_
  refine qr_get (ci := 5) (C := RX5) (T := TX5) (N := 19) hx hb hts hin5 hown hK hW.self rfl 16 (by decide) (hts (.fieldLink RX5 53 "QuorumLockModel" "times" "[I") (by decide +kernel)) rfl dX5_send_32 ?_
  refine lv_iload hx hb dX5_send_35 (lv_at hl 0 rfl) ?_
  refine lv_iload hx hb dX5_send_37 (lv_at hl 6 rfl) ?_
  refine qr_iast hx hb hK hW.a15 hS (⟨15, by decide, rfl⟩) (64 * (16 * f + t) + (σ.2.2.2.1 f t).length) (by omega) (by omega) rfl dX5_send_39 (fun H locs hz9 ho9 hat9 hS => ?_)
  have hW := hW.put hL 15 (64 * (16 * f + t) + (σ.2.2.2.1 f t).length) y (by decide) (by decide) ho9 hat9
  refine lv_aload_n hx hb dX5_send_40 rfl (lv_at hl 2 rfl) ?_
  refine qr_get (ci := 5) (C := RX5) (T := TX5) (N := 19) hx hb hts hin5 hown hK hW.self rfl 17 (by decide) (hts (.fieldLink RX5 56 "QuorumLockModel" "clocks" "[I") (by decide +kernel)) rfl dX5_send_41 ?_
  refine lv_iload hx hb dX5_send_44 (lv_at hl 0 rfl) ?_
  refine lv_aload_n hx hb dX5_send_46 rfl (lv_at hl 2 rfl) ?_
  refine qr_get (ci := 5) (C := RX5) (T := TX5) (N := 19) hx hb hts hin5 hown hK hW.self rfl 2 (by decide) (hts (.fieldLink RX5 7 "QuorumLockModel" "clock" "[I") (by decide +kernel)) rfl dX5_send_47 ?_
  refine lv_iload_n hx hb dX5_send_50 rfl (lv_at hl 3 rfl) ?_
  refine qr_iald (v := (σ.1 0 f)) hx hb hK hW.a1 f (by omega) (by omega) rfl (by simp [q2]; exact hRp.t 0 f (by decide) hf) dX5_send_51 ?_
  refine qr_iast hx hb hK hW.a16 hS (⟨16, by decide, rfl⟩) (64 * (16 * f + t) + (σ.2.2.2.1 f t).length) (by omega) (by omega) rfl dX5_send_52 (fun H locs hz9 ho9 hat9 hS => ?_)
  have hW := hW.put hL 16 (64 * (16 * f + t) + (σ.2.2.2.1 f t).length) (σ.1 0 f) (by decide) (by decide) ho9 hat9
  refine lv_aload_n hx hb dX5_send_53 rfl (lv_at hl 2 rfl) ?_
  refine qr_get (ci := 5) (C := RX5) (T := TX5) (N := 19) hx hb hts hin5 hown hK hW.self rfl 14 (by decide) (hts (.fieldLink RX5 47 "QuorumLockModel" "lying" "[I") (by decide +kernel)) rfl dX5_send_54 ?_
  refine lv_iload hx hb dX5_send_57 (lv_at hl 1 rfl) ?_
  refine lv_dup2_11 hx hb dX5_send_59 rfl rfl ?_
  refine qr_iald (v := (nI (σ.2.2.2.1 f t).length)) hx hb hK hW.a13 (16 * f + t) (by omega) (by omega) rfl (by simp [q2]; exact hw9.1) dX5_send_60 ?_
  refine lv_iconst (v := 1) hx hb dX5_send_61 (by decide) ?_
  refine lv_iadd hx hb dX5_send_62 ?_
  refine q_ti (y := nI ((σ.2.2.2.1 f t).length + 1)) (nI_1 _) ?_
  refine qr_iast hx hb hK hW.a13 hS (⟨13, by decide, rfl⟩) (16 * f + t) (by omega) (by omega) rfl dX5_send_63 (fun H locs hz9 ho9 hat9 hS => ?_)
  have hW := hW.put hL 13 (16 * f + t) (nI ((σ.2.2.2.1 f t).length + 1)) (by decide) (by decide) ho9 hat9
  exact q_vret hx hb hr hlocks hS (⟨_, hRp.send hn16 hf ht x y hroom, hW⟩) dX5_send_64
set_option maxHeartbeats 4000000 in
set_option maxRecDepth 100000 in
/-- X5_sendAll -/
theorem c_X5_sendAll (l : Launch) (dd : va_G) (ga : Nat → ClassId) (n k : Nat) (ar : Nat → Nat) (σ : qSt) (hsq : qSq n k) (hL : qLr ar) (i : Nat) (hi : i < n) (x y : Int32) (hroom : ∀ t : Nat, t < n → (σ.2.2.2.1 i t).length ≤ 6) : Met l yX5_sendAll wsX5_sendAll ({ frames := 1, cells := 0, slots := 0, locals := 26 }) (qPc dd ga [.ref (ar 0), .int (nI i), .int x, .int y] (fun H => qR dd ga n k ar σ H)) (qQv (fun H => qR dd ga n k ar (q_all i (q_quo k i n) x y n 0 σ) H) (qAr ar)) 0 0 (qAr ar) := by
  refine Met.ofW (cc := cX5_sendAll) (maxL := 5) (ret := none) (by decide) rfl ?_
  intro p e s m args below meth c s₁ B hml hv
  obtain ⟨rfl, ⟨ρ, hRp, hW⟩, hK⟩ := hv
  have hx := B.exec
  have hb := B.bytes
  have hr := B.returns
  have hts := atoms_spec (ws := wsX5_sendAll) B.pre
  have hown : s.vm.findClass RX5 = some m.cls := findClass_of_methodNamed B.named
  have hlocks := B.notSynchronized
  have hS : qS (qAr ar) s.heap s.heap [] := qS.rf
  have hl := lv_entry ([.ref (ar 0), .int (nI i), .int x, .int y]) (n := 5) (Nat.le_of_ble_eq_true rfl)
  rw [lg_entry_eq]
  generalize (lg_sl ([.ref (ar 0), .int (nI i), .int x, .int y]) ++ List.replicate (5 - (lg_sl ([.ref (ar 0), .int (nI i), .int x, .int y])).length) Slot.unset).toArray = ls at hl ⊢
  have hin5 : ∀ w ∈ wsX50, w ∈ wsX5_sendAll := by decide +kernel
  have hn1 := hsq.n.1
  have hn16 := hsq.n.2
  have hloop : ∀ (c9 j9 : Nat) (τ : qSt) (ls : Array Slot) (H : Heap) (locs : List Loc), j9 + c9 = n → q_all i (q_quo k i n) x y n 0 σ = q_all i (q_quo k i n) x y c9 j9 τ → (∀ t : Nat, j9 ≤ t → t < n → (τ.2.2.2.1 i t).length ≤ 6) → qR dd ga n k ar τ H → qS (qAr ar) s.heap H locs → lv_has ls 5 [(4, .int (nI j9)), (0, .ref (ar 0)), (1, .int (nI i)), (2, .int x), (3, .int y)] → W p l e (headSpec wsX5_sendAll ({ frames := 1, cells := 0, slots := 0, locals := 26 })).room s m (([.ref (ar 0), .int (nI i), .int x, .int y] : List Value).toArray) below meth c H locs 0 0 (MQ below (qQv (fun H => qR dd ga n k ar (q_all i (q_quo k i n) x y n 0 σ) H) (qAr ar)) (([.ref (ar 0), .int (nI i), .int x, .int y] : List Value).toArray) s 0 0 (qAr ar)) (F0 m 3 ls []) := by
    intro c9
    induction c9 with
    | zero =>
      intro j9 τ ls H locs hc he hw hR hS hl
      obtain ⟨ρ, hRp, hW⟩ := hR
      refine lv_iload hx hb dX5_sendAll_3 (lv_at hl 0 rfl) ?_
      refine lv_aload_n hx hb dX5_sendAll_5 rfl (lv_at hl 1 rfl) ?_
      refine qr_get (ci := 5) (C := RX5) (T := TX5) (N := 19) hx hb hts hin5 hown hK hW.self rfl 1 (by decide) (hts (.fieldLink RX5 63 "QuorumLockModel" "n" "I") (by decide +kernel)) rfl dX5_sendAll_6 ?_
      refine lv_icmp_ge (tgt := 41) hx hb dX5_sendAll_9 (by decide) (fun c_9 => ?_) (fun c_9 => absurd (nI_le (show n ≤ j9 by omega) (by omega)) c_9)
      exact q_vret hx hb hr hlocks hS (by rw [he]; exact ⟨ρ, hRp, hW⟩) dX5_sendAll_41
    | succ c9 ih =>
      intro j9 τ ls H locs hc he hw hR hS hl
      obtain ⟨ρ, hRp, hW⟩ := hR
      refine lv_iload hx hb dX5_sendAll_3 (lv_at hl 0 rfl) ?_
      refine lv_aload_n hx hb dX5_sendAll_5 rfl (lv_at hl 1 rfl) ?_
      refine qr_get (ci := 5) (C := RX5) (T := TX5) (N := 19) hx hb hts hin5 hown hK hW.self rfl 1 (by decide) (hts (.fieldLink RX5 63 "QuorumLockModel" "n" "I") (by decide +kernel)) rfl dX5_sendAll_6 ?_
      refine lv_icmp_ge (tgt := 41) hx hb dX5_sendAll_9 (by decide) (fun c_9 => absurd c_9 (nI_ge (by omega) (by omega))) (fun c_9 => ?_)
      refine lv_aload_n hx hb dX5_sendAll_12 rfl (lv_at hl 1 rfl) ?_
      refine lv_iload_n hx hb dX5_sendAll_13 rfl (lv_at hl 2 rfl) ?_
      refine qc_i (va_runV (As := [.int (nI i)]) (rest := []) ⟨hx, hb, hml, hown, hts⟩ (c_X5_quorum l dd ga n k ar τ hsq hL i hi) (cwV 1 hts gX5_sendAll_X5_quorum rfl rfl rfl (by decide +kernel) ⟨Nat.le_of_ble_eq_true rfl, Nat.le_of_ble_eq_true rfl⟩) (qpreV hK (⟨ρ, hRp, hW⟩) hW.self rfl) rfl rfl hl.1 rfl (lv_room (Nat.le_of_ble_eq_true rfl)) dX5_sendAll_14 ⟨Nat.zero_le _, Nat.zero_le _⟩) hS (fun q h => h.elim) (fun v14 H locs hp9 hz9 ho9 hS => ?_)
      subst hp9
      have hW := hW.same (fun q => ho9 q (fun h => h))
      refine lv_iload hx hb dX5_sendAll_17 (lv_at hl 0 rfl) ?_
      refine lv_ishr hx hb dX5_sendAll_19 ?_
      refine lv_iconst (v := 1) hx hb dX5_sendAll_20 (by decide) ?_
      refine lv_iand hx hb dX5_sendAll_21 ?_
      refine lv_iconst (v := 1) hx hb dX5_sendAll_22 (by decide) ?_
      refine lv_icmp_ne (tgt := 35) hx hb dX5_sendAll_23 (by decide) (fun c_23 => ?_) (fun c_23 => ?_)
      · refine lv_iinc (v := nI (j9 + 1)) (lv' := [(4, .int (nI (j9 + 1))), (0, .ref (ar 0)), (1, .int (nI i)), (2, .int x), (3, .int y)]) hx hb dX5_sendAll_35 hl (k := 0) rfl (nI_1 _) (by decide) rfl (fun ls hl => ?_)
        refine lv_goto (tgt := 3) hx hb dX5_sendAll_38 (by decide) ?_
        refine ih (j9 + 1) (τ) ls _ _ (by omega) (by rw [he, q_all, if_neg (fun h => c_23 (q_hasI.mpr h))]) (fun t h1 h2 => ?_) ⟨ρ, hRp, hW⟩ hS (lv_sub hl [0, 1, 2, 3, 4] rfl)
        exact hw t (by omega) h2
      · refine lv_aload_n hx hb dX5_sendAll_26 rfl (lv_at hl 1 rfl) ?_
        refine lv_iload_n hx hb dX5_sendAll_27 rfl (lv_at hl 2 rfl) ?_
        refine lv_iload hx hb dX5_sendAll_28 (lv_at hl 0 rfl) ?_
        refine lv_iload_n hx hb dX5_sendAll_30 rfl (lv_at hl 3 rfl) ?_
        refine lv_iload_n hx hb dX5_sendAll_31 rfl (lv_at hl 4 rfl) ?_
        refine qc_v (va_runV (As := [.int (nI i), .int (nI j9), .int x, .int y]) (rest := []) ⟨hx, hb, hml, hown, hts⟩ (c_X5_send l dd ga n k ar τ hsq hL i j9 hi (by omega) x y (by have := hw j9 (Nat.le_refl _) (by omega); omega)) (cwV 4 hts gX5_sendAll_X5_send rfl rfl rfl (by decide +kernel) ⟨Nat.le_of_ble_eq_true rfl, Nat.le_of_ble_eq_true rfl⟩) (qpreV hK (⟨ρ, hRp, hW⟩) hW.self rfl) rfl rfl hl.1 rfl (lv_room (Nat.le_of_ble_eq_true rfl)) dX5_sendAll_32 ⟨Nat.zero_le _, Nat.zero_le _⟩) hS (fun q h => h) (fun H locs hp9 hz9 ho9 hS => ?_)
        obtain ⟨ρ, hRp, hW⟩ := hp9
        refine lv_iinc (v := nI (j9 + 1)) (lv' := [(4, .int (nI (j9 + 1))), (0, .ref (ar 0)), (1, .int (nI i)), (2, .int x), (3, .int y)]) hx hb dX5_sendAll_35 hl (k := 0) rfl (nI_1 _) (by decide) rfl (fun ls hl => ?_)
        refine lv_goto (tgt := 3) hx hb dX5_sendAll_38 (by decide) ?_
        refine ih (j9 + 1) (s_send τ i j9 x y) ls _ _ (by omega) (by rw [he, q_all, if_pos (q_hasI.mp c_23)]) (fun t h1 h2 => ?_) ⟨ρ, hRp, hW⟩ hS (lv_sub hl [0, 1, 2, 3, 4] rfl)
        rw [show (s_send τ i j9 x y).2.2.2.1 i t = τ.2.2.2.1 i t from q2_n (by omega)]; exact hw t (by omega) h2
  refine lv_iconst (v := nI 0) hx hb dX5_sendAll_0 (by decide) ?_
  refine lv_istore (lv' := [(4, .int (nI 0)), (0, .ref (ar 0)), (1, .int (nI i)), (2, .int x), (3, .int y)]) hx hb dX5_sendAll_1 hl (by decide) rfl (fun ls hl => ?_)
  exact hloop n 0 σ ls _ _ (by omega) rfl (fun t _ h => hroom t h) ⟨ρ, hRp, hW⟩ hS (lv_sub hl [0, 1, 2, 3, 4] rfl)
set_option maxHeartbeats 4000000 in
set_option maxRecDepth 100000 in
/-- X5_empty -/
theorem c_X5_empty (l : Launch) (dd : va_G) (ga : Nat → ClassId) (n k : Nat) (ar : Nat → Nat) (σ : qSt) (hsq : qSq n k) (hL : qLr ar) (i : Nat) (hi : i < n) : Met l yX5_empty wsX5_empty ({ frames := 0, cells := 0, slots := 0, locals := 0 }) (qPc dd ga [.ref (ar 0), .int (nI i)] (fun H => qR dd ga n k ar σ H)) (qQv (fun H => qR dd ga n k ar (q_empty σ i) H) (qAr ar)) 0 0 (qAr ar) := by
  refine Met.ofW (cc := cX5_empty) (maxL := 2) (ret := none) (by decide) rfl ?_
  intro p e s m args below meth c s₁ B hml hv
  obtain ⟨rfl, ⟨ρ, hRp, hW⟩, hK⟩ := hv
  have hx := B.exec
  have hb := B.bytes
  have hr := B.returns
  have hts := atoms_spec (ws := wsX5_empty) B.pre
  have hown : s.vm.findClass RX5 = some m.cls := findClass_of_methodNamed B.named
  have hlocks := B.notSynchronized
  have hS : qS (qAr ar) s.heap s.heap [] := qS.rf
  have hl := lv_entry ([.ref (ar 0), .int (nI i)]) (n := 2) (Nat.le_of_ble_eq_true rfl)
  rw [lg_entry_eq]
  generalize (lg_sl ([.ref (ar 0), .int (nI i)]) ++ List.replicate (2 - (lg_sl ([.ref (ar 0), .int (nI i)])).length) Slot.unset).toArray = ls at hl ⊢
  have hin5 : ∀ w ∈ wsX50, w ∈ wsX5_empty := by decide +kernel
  have hn1 := hsq.n.1
  have hn16 := hsq.n.2
  refine lv_aload_n hx hb dX5_empty_0 rfl (lv_at hl 0 rfl) ?_
  refine qr_get (ci := 5) (C := RX5) (T := TX5) (N := 19) hx hb hts hin5 hown hK hW.self rfl 5 (by decide) (hts (.fieldLink RX5 19 "QuorumLockModel" "votes" "[I") (by decide +kernel)) rfl dX5_empty_1 ?_
  refine lv_iload_n hx hb dX5_empty_4 rfl (lv_at hl 1 rfl) ?_
  refine lv_iconst (v := 0) hx hb dX5_empty_5 (by decide) ?_
  refine qr_iast hx hb hK hW.a4 hS (⟨4, by decide, rfl⟩) i (by omega) (by omega) rfl dX5_empty_6 (fun H locs hz9 ho9 hat9 hS => ?_)
  have hW := hW.put hL 4 i 0 (by decide) (by decide) ho9 hat9
  refine lv_aload_n hx hb dX5_empty_7 rfl (lv_at hl 0 rfl) ?_
  refine qr_get (ci := 5) (C := RX5) (T := TX5) (N := 19) hx hb hts hin5 hown hK hW.self rfl 6 (by decide) (hts (.fieldLink RX5 22 "QuorumLockModel" "failures" "[I") (by decide +kernel)) rfl dX5_empty_8 ?_
  refine lv_iload_n hx hb dX5_empty_11 rfl (lv_at hl 1 rfl) ?_
  refine lv_iconst (v := 0) hx hb dX5_empty_12 (by decide) ?_
  refine qr_iast hx hb hK hW.a5 hS (⟨5, by decide, rfl⟩) i (by omega) (by omega) rfl dX5_empty_13 (fun H locs hz9 ho9 hat9 hS => ?_)
  have hW := hW.put hL 5 i 0 (by decide) (by decide) ho9 hat9
  refine lv_aload_n hx hb dX5_empty_14 rfl (lv_at hl 0 rfl) ?_
  refine qr_get (ci := 5) (C := RX5) (T := TX5) (N := 19) hx hb hts hin5 hown hK hW.self rfl 7 (by decide) (hts (.fieldLink RX5 25 "QuorumLockModel" "inquiries" "[I") (by decide +kernel)) rfl dX5_empty_15 ?_
  refine lv_iload_n hx hb dX5_empty_18 rfl (lv_at hl 1 rfl) ?_
  refine lv_iconst (v := 0) hx hb dX5_empty_19 (by decide) ?_
  refine qr_iast hx hb hK hW.a6 hS (⟨6, by decide, rfl⟩) i (by omega) (by omega) rfl dX5_empty_20 (fun H locs hz9 ho9 hat9 hS => ?_)
  have hW := hW.put hL 6 i 0 (by decide) (by decide) ho9 hat9
  exact q_vret hx hb hr hlocks hS (⟨_, ((hRp.stb 3 i 0 (by decide)).stb 4 i 0 (by decide)).stb 5 i 0 (by decide), hW⟩) dX5_empty_21
set_option maxHeartbeats 4000000 in
set_option maxRecDepth 100000 in
/-- X5_giveUp -/
theorem c_X5_giveUp (l : Launch) (dd : va_G) (ga : Nat → ClassId) (n k : Nat) (ar : Nat → Nat) (σ : qSt) (hsq : qSq n k) (hL : qLr ar) (i j : Nat) (hi : i < n) (hj : j < n) (hroom : (σ.2.2.2.1 i j).length ≤ 8) : Met l yX5_giveUp wsX5_giveUp ({ frames := 1, cells := 0, slots := 0, locals := 26 }) (qPc dd ga [.ref (ar 0), .int (nI i), .int (nI j)] (fun H => qR dd ga n k ar σ H)) (qQv (fun H => qR dd ga n k ar (q_giveUp σ i j) H) (qAr ar)) 0 0 (qAr ar) := by
  refine Met.ofW (cc := cX5_giveUp) (maxL := 3) (ret := none) (by decide) rfl ?_
  intro p e s m args below meth c s₁ B hml hv
  obtain ⟨rfl, ⟨ρ, hRp, hW⟩, hK⟩ := hv
  have hx := B.exec
  have hb := B.bytes
  have hr := B.returns
  have hts := atoms_spec (ws := wsX5_giveUp) B.pre
  have hown : s.vm.findClass RX5 = some m.cls := findClass_of_methodNamed B.named
  have hlocks := B.notSynchronized
  have hS : qS (qAr ar) s.heap s.heap [] := qS.rf
  have hl := lv_entry ([.ref (ar 0), .int (nI i), .int (nI j)]) (n := 3) (Nat.le_of_ble_eq_true rfl)
  rw [lg_entry_eq]
  generalize (lg_sl ([.ref (ar 0), .int (nI i), .int (nI j)]) ++ List.replicate (3 - (lg_sl ([.ref (ar 0), .int (nI i), .int (nI j)])).length) Slot.unset).toArray = ls at hl ⊢
  have hin5 : ∀ w ∈ wsX50, w ∈ wsX5_giveUp := by decide +kernel
  have hn1 := hsq.n.1
  have hn16 := hsq.n.2
  refine lv_aload_n hx hb dX5_giveUp_0 rfl (lv_at hl 0 rfl) ?_
  refine lv_iload_n hx hb dX5_giveUp_1 rfl (lv_at hl 1 rfl) ?_
  refine lv_iload_n hx hb dX5_giveUp_2 rfl (lv_at hl 2 rfl) ?_
  refine lv_iconst (v := 5) hx hb dX5_giveUp_3 (by decide) ?_
  refine lv_aload_n hx hb dX5_giveUp_4 rfl (lv_at hl 0 rfl) ?_
  refine qr_get (ci := 5) (C := RX5) (T := TX5) (N := 19) hx hb hts hin5 hown hK hW.self rfl 4 (by decide) (hts (.fieldLink RX5 16 "QuorumLockModel" "time" "[I") (by decide +kernel)) rfl dX5_giveUp_5 ?_
  refine lv_iload_n hx hb dX5_giveUp_8 rfl (lv_at hl 1 rfl) ?_
  refine qr_iald (v := (σ.1 2 i)) hx hb hK hW.a3 i (by omega) (by omega) rfl (hRp.t 2 i (by decide) hi) dX5_giveUp_9 ?_
  refine qc_v (va_runV (As := [.int (nI i), .int (nI j), .int 5, .int (σ.1 2 i)]) (rest := []) ⟨hx, hb, hml, hown, hts⟩ (c_X5_send l dd ga n k ar σ hsq hL i j hi hj 5 (σ.1 2 i) hroom) (cwV 4 hts gX5_giveUp_X5_send rfl rfl rfl (by decide +kernel) ⟨Nat.le_of_ble_eq_true rfl, Nat.le_of_ble_eq_true rfl⟩) (qpreV hK (⟨ρ, hRp, hW⟩) hW.self rfl) rfl rfl hl.1 rfl (lv_room (Nat.le_of_ble_eq_true rfl)) dX5_giveUp_10 ⟨Nat.zero_le _, Nat.zero_le _⟩) hS (fun q h => h) (fun H locs hp9 hz9 ho9 hS => ?_)
  obtain ⟨ρ, hRp, hW⟩ := hp9
  refine lv_aload_n hx hb dX5_giveUp_13 rfl (lv_at hl 0 rfl) ?_
  refine qr_get (ci := 5) (C := RX5) (T := TX5) (N := 19) hx hb hts hin5 hown hK hW.self rfl 5 (by decide) (hts (.fieldLink RX5 19 "QuorumLockModel" "votes" "[I") (by decide +kernel)) rfl dX5_giveUp_14 ?_
  refine lv_iload_n hx hb dX5_giveUp_17 rfl (lv_at hl 1 rfl) ?_
  refine lv_dup2_11 hx hb dX5_giveUp_18 rfl rfl ?_
  refine qr_iald (v := (σ.1 3 i)) hx hb hK hW.a4 i (by omega) (by omega) rfl (hRp.t 3 i (by decide) hi) dX5_giveUp_19 ?_
  refine lv_iconst (v := 1) hx hb dX5_giveUp_20 (by decide) ?_
  refine lv_iload_n hx hb dX5_giveUp_21 rfl (lv_at hl 2 rfl) ?_
  refine lv_ishl hx hb dX5_giveUp_22 ?_
  refine lv_iconst (v := (-1)) hx hb dX5_giveUp_23 (by decide) ?_
  refine lv_ixor hx hb dX5_giveUp_24 ?_
  refine lv_iand hx hb dX5_giveUp_25 ?_
  refine q_ti (y := σ.1 3 i &&& q_nbit j) (rfl) ?_
  refine qr_iast hx hb hK hW.a4 hS (⟨4, by decide, rfl⟩) i (by omega) (by omega) rfl dX5_giveUp_26 (fun H locs hz9 ho9 hat9 hS => ?_)
  have hW := hW.put hL 4 i (σ.1 3 i &&& q_nbit j) (by decide) (by decide) ho9 hat9
  refine lv_aload_n hx hb dX5_giveUp_27 rfl (lv_at hl 0 rfl) ?_
  refine qr_get (ci := 5) (C := RX5) (T := TX5) (N := 19) hx hb hts hin5 hown hK hW.self rfl 7 (by decide) (hts (.fieldLink RX5 25 "QuorumLockModel" "inquiries" "[I") (by decide +kernel)) rfl dX5_giveUp_28 ?_
  refine lv_iload_n hx hb dX5_giveUp_31 rfl (lv_at hl 1 rfl) ?_
  refine lv_dup2_11 hx hb dX5_giveUp_32 rfl rfl ?_
  refine qr_iald (v := (σ.1 5 i)) hx hb hK hW.a6 i (by omega) (by omega) rfl (by simp [q2]; exact hRp.t 5 i (by decide) hi) dX5_giveUp_33 ?_
  refine lv_iconst (v := 1) hx hb dX5_giveUp_34 (by decide) ?_
  refine lv_iload_n hx hb dX5_giveUp_35 rfl (lv_at hl 2 rfl) ?_
  refine lv_ishl hx hb dX5_giveUp_36 ?_
  refine lv_iconst (v := (-1)) hx hb dX5_giveUp_37 (by decide) ?_
  refine lv_ixor hx hb dX5_giveUp_38 ?_
  refine lv_iand hx hb dX5_giveUp_39 ?_
  refine q_ti (y := σ.1 5 i &&& q_nbit j) (rfl) ?_
  refine qr_iast hx hb hK hW.a6 hS (⟨6, by decide, rfl⟩) i (by omega) (by omega) rfl dX5_giveUp_40 (fun H locs hz9 ho9 hat9 hS => ?_)
  have hW := hW.put hL 6 i (σ.1 5 i &&& q_nbit j) (by decide) (by decide) ho9 hat9
  refine lv_aload_n hx hb dX5_giveUp_41 rfl (lv_at hl 0 rfl) ?_
  refine qr_get (ci := 5) (C := RX5) (T := TX5) (N := 19) hx hb hts hin5 hown hK hW.self rfl 6 (by decide) (hts (.fieldLink RX5 22 "QuorumLockModel" "failures" "[I") (by decide +kernel)) rfl dX5_giveUp_42 ?_
  refine lv_iload_n hx hb dX5_giveUp_45 rfl (lv_at hl 1 rfl) ?_
  refine lv_dup2_11 hx hb dX5_giveUp_46 rfl rfl ?_
  refine qr_iald (v := (σ.1 4 i)) hx hb hK hW.a5 i (by omega) (by omega) rfl (by simp [q2]; exact hRp.t 4 i (by decide) hi) dX5_giveUp_47 ?_
  refine lv_iconst (v := 1) hx hb dX5_giveUp_48 (by decide) ?_
  refine lv_iload_n hx hb dX5_giveUp_49 rfl (lv_at hl 2 rfl) ?_
  refine lv_ishl hx hb dX5_giveUp_50 ?_
  refine lv_ior hx hb dX5_giveUp_51 ?_
  refine q_ti (y := σ.1 4 i ||| q_bit j) (rfl) ?_
  refine qr_iast hx hb hK hW.a5 hS (⟨5, by decide, rfl⟩) i (by omega) (by omega) rfl dX5_giveUp_52 (fun H locs hz9 ho9 hat9 hS => ?_)
  have hW := hW.put hL 5 i (σ.1 4 i ||| q_bit j) (by decide) (by decide) ho9 hat9
  exact q_vret hx hb hr hlocks hS (⟨_, ((hRp.stb 3 i (σ.1 3 i &&& q_nbit j) (by decide)).stb 5 i (σ.1 5 i &&& q_nbit j) (by decide)).stb 4 i (σ.1 4 i ||| q_bit j) (by decide), hW⟩) dX5_giveUp_53
set_option maxHeartbeats 4000000 in
set_option maxRecDepth 100000 in
/-- X5_lend -/
theorem c_X5_lend (l : Launch) (dd : va_G) (ga : Nat → ClassId) (n k : Nat) (ar : Nat → Nat) (σ : qSt) (hsq : qSq n k) (hL : qLr ar) (i a : Nat) (hi : i < n) (ha : a < n) (t : Int32) (hroom : (σ.2.2.2.1 i a).length ≤ 8) : Met l yX5_lend wsX5_lend ({ frames := 1, cells := 0, slots := 0, locals := 26 }) (qPc dd ga [.ref (ar 0), .int (nI i), .int (nI a), .int t] (fun H => qR dd ga n k ar σ H)) (qQv (fun H => qR dd ga n k ar (q_lend σ i a t) H) (qAr ar)) 0 0 (qAr ar) := by
  refine Met.ofW (cc := cX5_lend) (maxL := 4) (ret := none) (by decide) rfl ?_
  intro p e s m args below meth c s₁ B hml hv
  obtain ⟨rfl, ⟨ρ, hRp, hW⟩, hK⟩ := hv
  have hx := B.exec
  have hb := B.bytes
  have hr := B.returns
  have hts := atoms_spec (ws := wsX5_lend) B.pre
  have hown : s.vm.findClass RX5 = some m.cls := findClass_of_methodNamed B.named
  have hlocks := B.notSynchronized
  have hS : qS (qAr ar) s.heap s.heap [] := qS.rf
  have hl := lv_entry ([.ref (ar 0), .int (nI i), .int (nI a), .int t]) (n := 4) (Nat.le_of_ble_eq_true rfl)
  rw [lg_entry_eq]
  generalize (lg_sl ([.ref (ar 0), .int (nI i), .int (nI a), .int t]) ++ List.replicate (4 - (lg_sl ([.ref (ar 0), .int (nI i), .int (nI a), .int t])).length) Slot.unset).toArray = ls at hl ⊢
  have hin5 : ∀ w ∈ wsX50, w ∈ wsX5_lend := by decide +kernel
  have hn1 := hsq.n.1
  have hn16 := hsq.n.2
  refine lv_aload_n hx hb dX5_lend_0 rfl (lv_at hl 0 rfl) ?_
  refine qr_get (ci := 5) (C := RX5) (T := TX5) (N := 19) hx hb hts hin5 hown hK hW.self rfl 8 (by decide) (hts (.fieldLink RX5 28 "QuorumLockModel" "lent" "[I") (by decide +kernel)) rfl dX5_lend_1 ?_
  refine lv_iload_n hx hb dX5_lend_4 rfl (lv_at hl 1 rfl) ?_
  refine lv_iload_n hx hb dX5_lend_5 rfl (lv_at hl 2 rfl) ?_
  refine qr_iast hx hb hK hW.a7 hS (⟨7, by decide, rfl⟩) i (by omega) (by omega) rfl dX5_lend_6 (fun H locs hz9 ho9 hat9 hS => ?_)
  have hW := hW.put hL 7 i (nI a) (by decide) (by decide) ho9 hat9
  refine lv_aload_n hx hb dX5_lend_7 rfl (lv_at hl 0 rfl) ?_
  refine qr_get (ci := 5) (C := RX5) (T := TX5) (N := 19) hx hb hts hin5 hown hK hW.self rfl 9 (by decide) (hts (.fieldLink RX5 31 "QuorumLockModel" "lentTime" "[I") (by decide +kernel)) rfl dX5_lend_8 ?_
  refine lv_iload_n hx hb dX5_lend_11 rfl (lv_at hl 1 rfl) ?_
  refine lv_iload_n hx hb dX5_lend_12 rfl (lv_at hl 3 rfl) ?_
  refine qr_iast hx hb hK hW.a8 hS (⟨8, by decide, rfl⟩) i (by omega) (by omega) rfl dX5_lend_13 (fun H locs hz9 ho9 hat9 hS => ?_)
  have hW := hW.put hL 8 i t (by decide) (by decide) ho9 hat9
  refine lv_aload_n hx hb dX5_lend_14 rfl (lv_at hl 0 rfl) ?_
  refine qr_get (ci := 5) (C := RX5) (T := TX5) (N := 19) hx hb hts hin5 hown hK hW.self rfl 10 (by decide) (hts (.fieldLink RX5 34 "QuorumLockModel" "inquired" "[Z") (by decide +kernel)) rfl dX5_lend_15 ?_
  refine lv_iload_n hx hb dX5_lend_18 rfl (lv_at hl 1 rfl) ?_
  refine lv_iconst (v := 0) hx hb dX5_lend_19 (by decide) ?_
  refine qr_zast hx hb hK hW.a9 hS (⟨9, by decide, rfl⟩) i (by omega) (by omega) rfl rfl dX5_lend_20 (fun H locs hz9 ho9 hat9 hS => ?_)
  have hW := hW.put hL 9 i 0 (by decide) (by decide) ho9 hat9
  refine lv_aload_n hx hb dX5_lend_21 rfl (lv_at hl 0 rfl) ?_
  refine lv_iload_n hx hb dX5_lend_22 rfl (lv_at hl 1 rfl) ?_
  refine lv_iload_n hx hb dX5_lend_23 rfl (lv_at hl 2 rfl) ?_
  refine lv_iconst (v := 2) hx hb dX5_lend_24 (by decide) ?_
  refine lv_iload_n hx hb dX5_lend_25 rfl (lv_at hl 3 rfl) ?_
  refine qc_v (va_runV (As := [.int (nI i), .int (nI a), .int 2, .int t]) (rest := []) ⟨hx, hb, hml, hown, hts⟩ (c_X5_send l dd ga n k ar (s_tb (s_ln σ i (some (a, t))) 6 i 0) hsq hL i a hi ha 2 t hroom) (cwV 4 hts gX5_lend_X5_send rfl rfl rfl (by decide +kernel) ⟨Nat.le_of_ble_eq_true rfl, Nat.le_of_ble_eq_true rfl⟩) (qpreV hK (⟨_, (hRp.sln i a t).stb 6 i 0 (by decide), hW⟩) hW.self rfl) rfl rfl hl.1 rfl (lv_room (Nat.le_of_ble_eq_true rfl)) dX5_lend_26 ⟨Nat.zero_le _, Nat.zero_le _⟩) hS (fun q h => h) (fun H locs hp9 hz9 ho9 hS => ?_)
  obtain ⟨ρ, hRp, hW⟩ := hp9
  exact q_vret hx hb hr hlocks hS (⟨ρ, hRp, hW⟩) dX5_lend_29
end
section
/-! the reference's rows -/
theorem qRp.srw {n : Nat} {σ : qSt} {ρ ρ' : Nat → Nat → Int32} {i : Nat} {r : List (Nat × Int32)} (h : qRp n σ ρ) (e0 : ∀ a j, a ≠ 10 → a ≠ 11 → a ≠ 12 → ρ' a j = ρ a j) (e1 : ∀ j, j ≠ i → ρ' 10 j = ρ 10 j) (e2 : ∀ a j, (a = 11 ∨ a = 12) → ¬ (64 * i ≤ j ∧ j < 64 * i + 64) → ρ' a j = ρ a j) (e3 : ρ' 10 i = nI r.length) (e4 : r.length ≤ 32) (e5 : ∀ (j : Nat) (x : Nat × Int32), r[j]? = some x → ρ' 11 (64 * i + j) = nI x.1 ∧ ρ' 12 (64 * i + j) = x.2) : qRp n (s_rw σ i r) ρ' := by
  refine ⟨fun g j hg hj => ?_, fun j hj => ?_, fun j hj => ?_, fun f9 t9 hf9 ht9 => ?_, h.2.2.2.2⟩
  · have := q_ai_n hg
    rw [e0 _ _ (by omega) (by omega) (by omega)]; exact h.1 g j hg hj
  · rw [e0 7 j (by omega) (by omega) (by omega), e0 8 j (by omega) (by omega) (by omega)]; exact h.2.1 j hj
  · show _ = nI (va_up σ.2.2.1 i r j).length ∧ (va_up σ.2.2.1 i r j).length ≤ 32 ∧ ∀ (j9 : Nat) (x : Nat × Int32), (va_up σ.2.2.1 i r j)[j9]? = some x → _
    by_cases hc : j = i
    · subst hc
      rw [va_up_self]
      exact ⟨e3, e4, e5⟩
    · rw [va_up_ne _ _ hc]
      have hb := h.2.2.1 j hj
      refine ⟨by rw [e1 j hc]; exact hb.1, hb.2.1, fun j9 x hx => ?_⟩
      have h4 := (List.getElem?_eq_some_iff.mp hx).1
      rw [e2 11 _ (by omega) (by omega), e2 12 _ (by omega) (by omega)]
      exact hb.2.2 j9 x hx
  · rw [e0 13 _ (by omega) (by omega) (by omega)]
    refine ⟨(h.2.2.2.1 f9 t9 hf9 ht9).1, (h.2.2.2.1 f9 t9 hf9 ht9).2.1, fun j9 x9 hx => ?_⟩
    rw [e0 14 _ (by omega) (by omega) (by omega), e0 15 _ (by omega) (by omega) (by omega), e0 16 _ (by omega) (by omega) (by omega)]
    exact (h.2.2.2.1 f9 t9 hf9 ht9).2.2 j9 x9 hx
theorem q_send_tb6 (σ : qSt) (i f t : Nat) (x y v : Int32) : s_send (s_tb σ 6 i v) f t x y = s_tb (s_send σ f t x y) 6 i v := by
  unfold s_send s_tb s_wr
  simp only
  rw [q2_n (show ¬ (0 = 6 ∧ f = i) by omega)]
set_option maxHeartbeats 4000000 in
set_option maxRecDepth 100000 in
/-- X5_line -/
theorem c_X5_line (l : Launch) (dd : va_G) (ga : Nat → ClassId) (n k : Nat) (ar : Nat → Nat) (σ : qSt) (hsq : qSq n k) (hL : qLr ar) (i a : Nat) (hi : i < n) (ha : a < n) (t : Int32) (hrl : (σ.2.2.1 i).length ≤ 16) (hrn : ∀ x ∈ σ.2.2.1 i, x.1 < n) : Met l yX5_line wsX5_line ({ frames := 1, cells := 0, slots := 0, locals := 23 }) (qPc dd ga [.ref (ar 0), .int (nI i), .int (nI a), .int t] (fun H => qR dd ga n k ar σ H)) (qQi (fun v H => v = nI (q_pl (σ.2.2.1 i) a t (σ.2.2.1 i).length) ∧ qR dd ga n k ar (s_rw σ i (q_ins (σ.2.2.1 i) a t)) H) (qAr ar)) 0 0 (qAr ar) := by
  refine Met.ofW (cc := cX5_line) (maxL := 5) (ret := (some .int)) (by decide) rfl ?_
  intro p e s m args below meth c s₁ B hml hv
  obtain ⟨rfl, ⟨ρ, hRp, hW⟩, hK⟩ := hv
  have hx := B.exec
  have hb := B.bytes
  have hr := B.returns
  have hts := atoms_spec (ws := wsX5_line) B.pre
  have hown : s.vm.findClass RX5 = some m.cls := findClass_of_methodNamed B.named
  have hlocks := B.notSynchronized
  have hS : qS (qAr ar) s.heap s.heap [] := qS.rf
  have hl := lv_entry ([.ref (ar 0), .int (nI i), .int (nI a), .int t]) (n := 5) (Nat.le_of_ble_eq_true rfl)
  rw [lg_entry_eq]
  generalize (lg_sl ([.ref (ar 0), .int (nI i), .int (nI a), .int t]) ++ List.replicate (5 - (lg_sl ([.ref (ar 0), .int (nI i), .int (nI a), .int t])).length) Slot.unset).toArray = ls at hl ⊢
  have hin5 : ∀ w ∈ wsX50, w ∈ wsX5_line := by decide +kernel
  have hn1 := hsq.n.1
  have hn16 := hsq.n.2
  have hb9 := hRp.2.2.1 i hi
  generalize hre : σ.2.2.1 i = r at *
  have hdone : ∀ (p9 : Nat) (ρ9 : Nat → Nat → Int32) (H : Heap) (locs : List Loc) (ls : Array Slot), p9 ≤ r.length → q_pl r a t r.length = p9 → (∀ b j : Nat, b ≠ 11 → b ≠ 12 → ρ9 b j = ρ b j) → (∀ b j : Nat, ¬ (64 * i ≤ j ∧ j < 64 * i + 64) → ρ9 b j = ρ b j) → (∀ j : Nat, j < p9 → ρ9 11 (64 * i + j) = ρ 11 (64 * i + j) ∧ ρ9 12 (64 * i + j) = ρ 12 (64 * i + j)) → (∀ j : Nat, p9 < j → j ≤ r.length → ρ9 11 (64 * i + j) = ρ 11 (64 * i + (j - 1)) ∧ ρ9 12 (64 * i + j) = ρ 12 (64 * i + (j - 1))) → qR0 dd ga n k ar ρ9 σ.2.2.2.2 H → qS (qAr ar) s.heap H locs → lv_has ls 5 [(4, .int (nI p9)), (0, .ref (ar 0)), (1, .int (nI i)), (2, .int (nI a)), (3, .int t)] → W p l e (headSpec wsX5_line ({ frames := 1, cells := 0, slots := 0, locals := 23 })).room s m (([.ref (ar 0), .int (nI i), .int (nI a), .int t] : List Value).toArray) below meth c H locs 0 0 (MQ below (qQi (fun v H => v = nI (q_pl r a t r.length) ∧ qR dd ga n k ar (s_rw σ i (q_ins r a t)) H) (qAr ar)) (([.ref (ar 0), .int (nI i), .int (nI a), .int t] : List Value).toArray) s 0 0 (qAr ar)) (F0 m 107 ls []) := by
    intro p9 ρ9 H locs ls hp he h0 h1 h2 h3 hW hS hl
    refine lv_aload_n hx hb dX5_line_107 rfl (lv_at hl 1 rfl) ?_
    refine qr_get (ci := 5) (C := RX5) (T := TX5) (N := 19) hx hb hts hin5 hown hK hW.self rfl 13 (by decide) (hts (.fieldLink RX5 44 "QuorumLockModel" "rowTime" "[I") (by decide +kernel)) rfl dX5_line_108 ?_
    refine lv_bipush (v := nI 64) hx hb dX5_line_111 (by decide) ?_
    refine lv_iload_n hx hb dX5_line_113 rfl (lv_at hl 2 rfl) ?_
    refine lv_imul hx hb dX5_line_114 ?_
    refine q_ti (y := nI (64 * i)) (pk_mul _ _) ?_
    refine lv_iload hx hb dX5_line_115 (lv_at hl 0 rfl) ?_
    refine lv_iadd hx hb dX5_line_117 ?_
    refine q_ti (y := nI (64 * i + p9)) (nI_add _ _) ?_
    refine lv_iload_n hx hb dX5_line_118 rfl (lv_at hl 4 rfl) ?_
    refine qr_iast hx hb hK hW.a12 hS (⟨12, by decide, rfl⟩) (64 * i + p9) (by omega) (by omega) rfl dX5_line_119 (fun H locs hz9 ho9 hat9 hS => ?_)
    have hW := hW.put hL 12 (64 * i + p9) t (by decide) (by decide) ho9 hat9
    refine lv_aload_n hx hb dX5_line_120 rfl (lv_at hl 1 rfl) ?_
    refine qr_get (ci := 5) (C := RX5) (T := TX5) (N := 19) hx hb hts hin5 hown hK hW.self rfl 12 (by decide) (hts (.fieldLink RX5 41 "QuorumLockModel" "rowNode" "[I") (by decide +kernel)) rfl dX5_line_121 ?_
    refine lv_bipush (v := nI 64) hx hb dX5_line_124 (by decide) ?_
    refine lv_iload_n hx hb dX5_line_126 rfl (lv_at hl 2 rfl) ?_
    refine lv_imul hx hb dX5_line_127 ?_
    refine q_ti (y := nI (64 * i)) (pk_mul _ _) ?_
    refine lv_iload hx hb dX5_line_128 (lv_at hl 0 rfl) ?_
    refine lv_iadd hx hb dX5_line_130 ?_
    refine q_ti (y := nI (64 * i + p9)) (nI_add _ _) ?_
    refine lv_iload_n hx hb dX5_line_131 rfl (lv_at hl 3 rfl) ?_
    refine qr_iast hx hb hK hW.a11 hS (⟨11, by decide, rfl⟩) (64 * i + p9) (by omega) (by omega) rfl dX5_line_132 (fun H locs hz9 ho9 hat9 hS => ?_)
    have hW := hW.put hL 11 (64 * i + p9) (nI a) (by decide) (by decide) ho9 hat9
    refine lv_aload_n hx hb dX5_line_133 rfl (lv_at hl 1 rfl) ?_
    refine qr_get (ci := 5) (C := RX5) (T := TX5) (N := 19) hx hb hts hin5 hown hK hW.self rfl 11 (by decide) (hts (.fieldLink RX5 38 "QuorumLockModel" "rows" "[I") (by decide +kernel)) rfl dX5_line_134 ?_
    refine lv_iload_n hx hb dX5_line_137 rfl (lv_at hl 2 rfl) ?_
    refine lv_dup2_11 hx hb dX5_line_138 rfl rfl ?_
    refine qr_iald (v := (nI r.length)) hx hb hK hW.a10 i (by omega) (by omega) rfl (by simp [q2]; rw [h0 10 i (by omega) (by omega)]; exact hb9.1) dX5_line_139 ?_
    refine lv_iconst (v := 1) hx hb dX5_line_140 (by decide) ?_
    refine lv_iadd hx hb dX5_line_141 ?_
    refine q_ti (y := nI (r.length + 1)) (nI_1 _) ?_
    refine qr_iast hx hb hK hW.a10 hS (⟨10, by decide, rfl⟩) i (by omega) (by omega) rfl dX5_line_142 (fun H locs hz9 ho9 hat9 hS => ?_)
    have hW := hW.put hL 10 i (nI (r.length + 1)) (by decide) (by decide) ho9 hat9
    refine lv_iload hx hb dX5_line_143 (lv_at hl 0 rfl) ?_
    refine q_iret hx hb hr hlocks hS ⟨by rw [he], _, ?_, hW⟩ dX5_line_145
    refine hRp.srw (fun b j g1 g2 g3 => ?_) (fun j g1 => ?_) (fun b j g1 g2 => ?_) ?_ (by rw [q_ins_len]; omega) (fun j x hj => ?_)
    · rw [q2_n (by omega), q2_n (by omega), q2_n (by omega)]; exact h0 b j g2 g3
    · rw [q2_n (by omega), q2_n (by omega), q2_n (by omega)]; exact h0 10 j (by omega) (by omega)
    · rw [q2_n (by omega), q2_n (by omega), q2_n (by omega)]; exact h1 b j g2
    · rw [q2_s, q_ins_len]
    · simp only [q2]
      rcases q_ins_get hj with ⟨g1, g2⟩ | ⟨g1, g2⟩ | ⟨g1, g2⟩
      · rw [he] at g1
        have g3 := hb9.2.2 j x g2
        have g4 := h2 j g1
        rw [if_neg (by omega), if_neg (by omega), if_neg (by omega), if_neg (by omega), if_neg (by omega), if_neg (by omega)]
        exact ⟨g4.1.trans g3.1, g4.2.trans g3.2⟩
      · rw [he] at g1
        subst g1 g2
        exact ⟨by simp, by simp⟩
      · rw [he] at g1
        have g5 := (List.getElem?_eq_some_iff.mp g2).1
        have g3 := hb9.2.2 (j - 1) x g2
        have g4 := h3 j g1 (by omega)
        rw [if_neg (by omega), if_neg (by omega), if_neg (by omega), if_neg (by omega), if_neg (by omega), if_neg (by omega)]
        exact ⟨g4.1.trans g3.1, g4.2.trans g3.2⟩
  have hloop : ∀ (p9 : Nat) (ρ9 : Nat → Nat → Int32) (H : Heap) (locs : List Loc) (ls : Array Slot), p9 ≤ r.length → q_pl r a t r.length = q_pl r a t p9 → (∀ b j : Nat, b ≠ 11 → b ≠ 12 → ρ9 b j = ρ b j) → (∀ b j : Nat, ¬ (64 * i ≤ j ∧ j < 64 * i + 64) → ρ9 b j = ρ b j) → (∀ j : Nat, j < p9 → ρ9 11 (64 * i + j) = ρ 11 (64 * i + j) ∧ ρ9 12 (64 * i + j) = ρ 12 (64 * i + j)) → (∀ j : Nat, p9 < j → j ≤ r.length → ρ9 11 (64 * i + j) = ρ 11 (64 * i + (j - 1)) ∧ ρ9 12 (64 * i + j) = ρ 12 (64 * i + (j - 1))) → qR0 dd ga n k ar ρ9 σ.2.2.2.2 H → qS (qAr ar) s.heap H locs → lv_has ls 5 [(4, .int (nI p9)), (0, .ref (ar 0)), (1, .int (nI i)), (2, .int (nI a)), (3, .int t)] → W p l e (headSpec wsX5_line ({ frames := 1, cells := 0, slots := 0, locals := 23 })).room s m (([.ref (ar 0), .int (nI i), .int (nI a), .int t] : List Value).toArray) below meth c H locs 0 0 (MQ below (qQi (fun v H => v = nI (q_pl r a t r.length) ∧ qR dd ga n k ar (s_rw σ i (q_ins r a t)) H) (qAr ar)) (([.ref (ar 0), .int (nI i), .int (nI a), .int t] : List Value).toArray) s 0 0 (qAr ar)) (F0 m 8 ls []) := by
    intro p9
    induction p9 with
    | zero =>
      intro ρ9 H locs ls hp he h0 h1 h2 h3 hW hS hl
      refine lv_iload hx hb dX5_line_8 (lv_at hl 0 rfl) ?_
      refine lv_if_le (tgt := 107) hx hb dX5_line_10 (by decide) (fun c_10 => ?_) (fun c_10 => absurd (by rw [nI_0]; decide) c_10)
      exact hdone 0 ρ9 _ _ ls hp he h0 h1 h2 h3 hW hS (lv_sub hl [0, 1, 2, 3, 4] rfl)
    | succ p9 ih =>
      intro ρ9 H locs ls hp he h0 h1 h2 h3 hW hS hl
      have hx9 := q_gd (d := (0, 0)) (show p9 < r.length by omega)
      have hm9 : (r.getD p9 (0, 0)).1 < 2 ^ 31 := by have := hrn _ (List.mem_of_getElem? hx9); omega
      have hj9 := hb9.2.2 p9 _ hx9
      have hf9 := h2 p9 (by omega)
      refine lv_iload hx hb dX5_line_8 (lv_at hl 0 rfl) ?_
      refine lv_if_le (tgt := 107) hx hb dX5_line_10 (by decide) (fun c_10 => absurd c_10 (nI_nle (by omega) (by omega))) (fun c_10 => ?_)
      refine lv_iload_n hx hb dX5_line_13 rfl (lv_at hl 4 rfl) ?_
      refine lv_iload_n hx hb dX5_line_14 rfl (lv_at hl 3 rfl) ?_
      refine lv_aload_n hx hb dX5_line_15 rfl (lv_at hl 1 rfl) ?_
      refine qr_get (ci := 5) (C := RX5) (T := TX5) (N := 19) hx hb hts hin5 hown hK hW.self rfl 13 (by decide) (hts (.fieldLink RX5 44 "QuorumLockModel" "rowTime" "[I") (by decide +kernel)) rfl dX5_line_16 ?_
      refine lv_bipush (v := nI 64) hx hb dX5_line_19 (by decide) ?_
      refine lv_iload_n hx hb dX5_line_21 rfl (lv_at hl 2 rfl) ?_
      refine lv_imul hx hb dX5_line_22 ?_
      refine q_ti (y := nI (64 * i)) (pk_mul _ _) ?_
      refine lv_iload hx hb dX5_line_23 (lv_at hl 0 rfl) ?_
      refine lv_iadd hx hb dX5_line_25 ?_
      refine q_ti (y := nI (64 * i + (p9 + 1))) (nI_add _ _) ?_
      refine lv_iconst (v := 1) hx hb dX5_line_26 (by decide) ?_
      refine lv_isub hx hb dX5_line_27 ?_
      refine q_ti (y := nI (64 * i + p9)) (nI_pred (64 * i + p9)) ?_
      refine qr_iald (v := (r.getD p9 (0, 0)).2) hx hb hK hW.a12 (64 * i + p9) (by omega) (by omega) rfl (hf9.2.trans hj9.2) dX5_line_28 ?_
      refine lv_aload_n hx hb dX5_line_29 rfl (lv_at hl 1 rfl) ?_
      refine qr_get (ci := 5) (C := RX5) (T := TX5) (N := 19) hx hb hts hin5 hown hK hW.self rfl 12 (by decide) (hts (.fieldLink RX5 41 "QuorumLockModel" "rowNode" "[I") (by decide +kernel)) rfl dX5_line_30 ?_
      refine lv_bipush (v := nI 64) hx hb dX5_line_33 (by decide) ?_
      refine lv_iload_n hx hb dX5_line_35 rfl (lv_at hl 2 rfl) ?_
      refine lv_imul hx hb dX5_line_36 ?_
      refine q_ti (y := nI (64 * i)) (pk_mul _ _) ?_
      refine lv_iload hx hb dX5_line_37 (lv_at hl 0 rfl) ?_
      refine lv_iadd hx hb dX5_line_39 ?_
      refine q_ti (y := nI (64 * i + (p9 + 1))) (nI_add _ _) ?_
      refine lv_iconst (v := 1) hx hb dX5_line_40 (by decide) ?_
      refine lv_isub hx hb dX5_line_41 ?_
      refine q_ti (y := nI (64 * i + p9)) (nI_pred (64 * i + p9)) ?_
      refine qr_iald (v := (nI (r.getD p9 (0, 0)).1)) hx hb hK hW.a11 (64 * i + p9) (by omega) (by omega) rfl (hf9.1.trans hj9.1) dX5_line_42 ?_
      refine qc_i (va_runS (As := [.int t, .int (nI a), .int ((r.getD p9 (0, 0)).2), .int (nI (r.getD p9 (0, 0)).1)]) (rest := []) ⟨hx, hb, hml, hown, hts⟩ (c_X5_isBefore l dd ga t (nI a) (r.getD p9 (0, 0)).2 (nI (r.getD p9 (0, 0)).1)) (va_cwS 4 hts gX5_line_X5_isBefore rfl rfl rfl (by decide +kernel) ⟨Nat.le_of_ble_eq_true rfl, Nat.le_of_ble_eq_true rfl⟩) (qpreS hK trivial) rfl rfl hl.1 rfl (lv_room (Nat.le_of_ble_eq_true rfl)) dX5_line_43 ⟨Nat.zero_le _, Nat.zero_le _⟩) hS (fun q h => h.elim) (fun v43 H locs hp9 hz9 ho9 hS => ?_)
      have e43 : v43 = _ := hp9
      have hW := hW.same (fun q => ho9 q (fun h => h))
      refine lv_if_eq (tgt := 107) hx hb dX5_line_46 (by decide) (fun c_46 => ?_) (fun c_46 => ?_)
      · have hn9 : ¬ q_bef t a (r.getD p9 (0, 0)).2 (r.getD p9 (0, 0)).1 = true := fun h => by rw [if_pos ((q_befI (by omega) hm9).mpr h)] at e43; rw [e43] at c_46; exact absurd c_46 (by decide)
        exact hdone (p9 + 1) ρ9 _ _ ls hp (by rw [he, q_pl, if_neg hn9]) h0 h1 h2 h3 hW hS (lv_sub hl [0, 1, 2, 3, 4] rfl)
      · have hy9 : q_bef t a (r.getD p9 (0, 0)).2 (r.getD p9 (0, 0)).1 = true := Classical.byContradiction fun h => by rw [if_neg (fun h2 => h ((q_befI (by omega) hm9).mp h2))] at e43; exact c_46 e43
        refine lv_aload_n hx hb dX5_line_49 rfl (lv_at hl 1 rfl) ?_
        refine qr_get (ci := 5) (C := RX5) (T := TX5) (N := 19) hx hb hts hin5 hown hK hW.self rfl 13 (by decide) (hts (.fieldLink RX5 44 "QuorumLockModel" "rowTime" "[I") (by decide +kernel)) rfl dX5_line_50 ?_
        refine lv_bipush (v := nI 64) hx hb dX5_line_53 (by decide) ?_
        refine lv_iload_n hx hb dX5_line_55 rfl (lv_at hl 2 rfl) ?_
        refine lv_imul hx hb dX5_line_56 ?_
        refine q_ti (y := nI (64 * i)) (pk_mul _ _) ?_
        refine lv_iload hx hb dX5_line_57 (lv_at hl 0 rfl) ?_
        refine lv_iadd hx hb dX5_line_59 ?_
        refine q_ti (y := nI (64 * i + (p9 + 1))) (nI_add _ _) ?_
        refine lv_aload_n hx hb dX5_line_60 rfl (lv_at hl 1 rfl) ?_
        refine qr_get (ci := 5) (C := RX5) (T := TX5) (N := 19) hx hb hts hin5 hown hK hW.self rfl 13 (by decide) (hts (.fieldLink RX5 44 "QuorumLockModel" "rowTime" "[I") (by decide +kernel)) rfl dX5_line_61 ?_
        refine lv_bipush (v := nI 64) hx hb dX5_line_64 (by decide) ?_
        refine lv_iload_n hx hb dX5_line_66 rfl (lv_at hl 2 rfl) ?_
        refine lv_imul hx hb dX5_line_67 ?_
        refine q_ti (y := nI (64 * i)) (pk_mul _ _) ?_
        refine lv_iload hx hb dX5_line_68 (lv_at hl 0 rfl) ?_
        refine lv_iadd hx hb dX5_line_70 ?_
        refine q_ti (y := nI (64 * i + (p9 + 1))) (nI_add _ _) ?_
        refine lv_iconst (v := 1) hx hb dX5_line_71 (by decide) ?_
        refine lv_isub hx hb dX5_line_72 ?_
        refine q_ti (y := nI (64 * i + p9)) (nI_pred (64 * i + p9)) ?_
        refine qr_iald (v := (r.getD p9 (0, 0)).2) hx hb hK hW.a12 (64 * i + p9) (by omega) (by omega) rfl (hf9.2.trans hj9.2) dX5_line_73 ?_
        refine qr_iast hx hb hK hW.a12 hS (⟨12, by decide, rfl⟩) (64 * i + (p9 + 1)) (by omega) (by omega) rfl dX5_line_74 (fun H locs hz9 ho9 hat9 hS => ?_)
        have hW := hW.put hL 12 (64 * i + (p9 + 1)) ((r.getD p9 (0, 0)).2) (by decide) (by decide) ho9 hat9
        refine lv_aload_n hx hb dX5_line_75 rfl (lv_at hl 1 rfl) ?_
        refine qr_get (ci := 5) (C := RX5) (T := TX5) (N := 19) hx hb hts hin5 hown hK hW.self rfl 12 (by decide) (hts (.fieldLink RX5 41 "QuorumLockModel" "rowNode" "[I") (by decide +kernel)) rfl dX5_line_76 ?_
        refine lv_bipush (v := nI 64) hx hb dX5_line_79 (by decide) ?_
        refine lv_iload_n hx hb dX5_line_81 rfl (lv_at hl 2 rfl) ?_
        refine lv_imul hx hb dX5_line_82 ?_
        refine q_ti (y := nI (64 * i)) (pk_mul _ _) ?_
        refine lv_iload hx hb dX5_line_83 (lv_at hl 0 rfl) ?_
        refine lv_iadd hx hb dX5_line_85 ?_
        refine q_ti (y := nI (64 * i + (p9 + 1))) (nI_add _ _) ?_
        refine lv_aload_n hx hb dX5_line_86 rfl (lv_at hl 1 rfl) ?_
        refine qr_get (ci := 5) (C := RX5) (T := TX5) (N := 19) hx hb hts hin5 hown hK hW.self rfl 12 (by decide) (hts (.fieldLink RX5 41 "QuorumLockModel" "rowNode" "[I") (by decide +kernel)) rfl dX5_line_87 ?_
        refine lv_bipush (v := nI 64) hx hb dX5_line_90 (by decide) ?_
        refine lv_iload_n hx hb dX5_line_92 rfl (lv_at hl 2 rfl) ?_
        refine lv_imul hx hb dX5_line_93 ?_
        refine q_ti (y := nI (64 * i)) (pk_mul _ _) ?_
        refine lv_iload hx hb dX5_line_94 (lv_at hl 0 rfl) ?_
        refine lv_iadd hx hb dX5_line_96 ?_
        refine q_ti (y := nI (64 * i + (p9 + 1))) (nI_add _ _) ?_
        refine lv_iconst (v := 1) hx hb dX5_line_97 (by decide) ?_
        refine lv_isub hx hb dX5_line_98 ?_
        refine q_ti (y := nI (64 * i + p9)) (nI_pred (64 * i + p9)) ?_
        refine qr_iald (v := (nI (r.getD p9 (0, 0)).1)) hx hb hK hW.a11 (64 * i + p9) (by omega) (by omega) rfl (by simp [q2]; exact hf9.1.trans hj9.1) dX5_line_99 ?_
        refine qr_iast hx hb hK hW.a11 hS (⟨11, by decide, rfl⟩) (64 * i + (p9 + 1)) (by omega) (by omega) rfl dX5_line_100 (fun H locs hz9 ho9 hat9 hS => ?_)
        have hW := hW.put hL 11 (64 * i + (p9 + 1)) (nI (r.getD p9 (0, 0)).1) (by decide) (by decide) ho9 hat9
        refine lv_iinc (v := nI p9) (lv' := [(4, .int (nI p9)), (0, .ref (ar 0)), (1, .int (nI i)), (2, .int (nI a)), (3, .int t)]) hx hb dX5_line_101 hl (k := 0) rfl (pk_m1 _) (by decide) rfl (fun ls hl => ?_)
        refine lv_goto (tgt := 8) hx hb dX5_line_104 (by decide) ?_
        refine ih _ _ _ ls (by omega) (by rw [he, q_pl, if_pos hy9]) (fun b j g1 g2 => ?_) (fun b j g1 => ?_) (fun j hj => ?_) (fun j hj1 hj2 => ?_) hW hS (lv_sub hl [0, 1, 2, 3, 4] rfl)
        · rw [q2_n (by omega), q2_n (by omega)]; exact h0 b j g1 g2
        · rw [q2_n (by omega), q2_n (by omega)]; exact h1 b j g1
        · simp only [q2]
          rw [if_neg (by omega), if_neg (by omega), if_neg (by omega), if_neg (by omega)]; exact h2 j (by omega)
        · rcases Nat.lt_or_ge (p9 + 1) j with h | h
          · simp only [q2]
            rw [if_neg (by omega), if_neg (by omega), if_neg (by omega), if_neg (by omega)]; exact h3 j h hj2
          · have : j = p9 + 1 := by omega
            subst this
            simp only [q2, Nat.add_sub_cancel]
            exact ⟨by simp [hj9.1], by simp [hj9.2]⟩
  refine lv_aload_n hx hb dX5_line_0 rfl (lv_at hl 0 rfl) ?_
  refine qr_get (ci := 5) (C := RX5) (T := TX5) (N := 19) hx hb hts hin5 hown hK hW.self rfl 11 (by decide) (hts (.fieldLink RX5 38 "QuorumLockModel" "rows" "[I") (by decide +kernel)) rfl dX5_line_1 ?_
  refine lv_iload_n hx hb dX5_line_4 rfl (lv_at hl 1 rfl) ?_
  refine qr_iald (v := (nI r.length)) hx hb hK hW.a10 i (by omega) (by omega) rfl hb9.1 dX5_line_5 ?_
  refine lv_istore (lv' := [(4, .int (nI r.length)), (0, .ref (ar 0)), (1, .int (nI i)), (2, .int (nI a)), (3, .int t)]) hx hb dX5_line_6 hl (by decide) rfl (fun ls hl => ?_)
  exact hloop r.length ρ _ _ ls (Nat.le_refl _) rfl (fun _ _ _ _ => rfl) (fun _ _ _ => rfl) (fun _ _ => ⟨rfl, rfl⟩) (fun j h1 h2 => by omega) hW hS (lv_sub hl [0, 1, 2, 3, 4] rfl)
end
section
set_option maxHeartbeats 4000000 in
set_option maxRecDepth 100000 in
/-- X5_asked -/
theorem c_X5_asked (l : Launch) (dd : va_G) (ga : Nat → ClassId) (n k : Nat) (ar : Nat → Nat) (σ : qSt) (hsq : qSq n k) (hL : qLr ar) (i a : Nat) (hi : i < n) (ha : a < n) (t : Int32) (hcap : qCap n k σ) : Met l yX5_asked wsX5_asked ({ frames := 2, cells := 0, slots := 0, locals := 49 }) (qPc dd ga [.ref (ar 0), .int (nI i), .int (nI a), .int t] (fun H => qR dd ga n k ar σ H)) (qQv (fun H => qR dd ga n k ar (q_asked σ i a t) H) (qAr ar)) 0 0 (qAr ar) := by
  refine Met.ofW (cc := cX5_asked) (maxL := 7) (ret := none) (by decide) rfl ?_
  intro p e s m args below meth c s₁ B hml hv
  obtain ⟨rfl, ⟨ρ, hRp, hW⟩, hK⟩ := hv
  have hx := B.exec
  have hb := B.bytes
  have hr := B.returns
  have hts := atoms_spec (ws := wsX5_asked) B.pre
  have hown : s.vm.findClass RX5 = some m.cls := findClass_of_methodNamed B.named
  have hlocks := B.notSynchronized
  have hS : qS (qAr ar) s.heap s.heap [] := qS.rf
  have hl := lv_entry ([.ref (ar 0), .int (nI i), .int (nI a), .int t]) (n := 7) (Nat.le_of_ble_eq_true rfl)
  rw [lg_entry_eq]
  generalize (lg_sl ([.ref (ar 0), .int (nI i), .int (nI a), .int t]) ++ List.replicate (7 - (lg_sl ([.ref (ar 0), .int (nI i), .int (nI a), .int t])).length) Slot.unset).toArray = ls at hl ⊢
  have hin5 : ∀ w ∈ wsX50, w ∈ wsX5_asked := by decide +kernel
  have hn1 := hsq.n.1
  have hn16 := hsq.n.2
  obtain ⟨hcw, hcr, hcx, hcl, hci⟩ := id hcap
  have hk4 := hsq.2.2
  have hrl := hcr i hi
  have hrn := hcx i hi
  rcases hln : σ.2.1 i with _ | ⟨b, u⟩
  · refine lv_aload_n hx hb dX5_asked_0 rfl (lv_at hl 0 rfl) ?_
    refine qr_get (ci := 5) (C := RX5) (T := TX5) (N := 19) hx hb hts hin5 hown hK hW.self rfl 8 (by decide) (hts (.fieldLink RX5 28 "QuorumLockModel" "lent" "[I") (by decide +kernel)) rfl dX5_asked_1 ?_
    refine lv_iload_n hx hb dX5_asked_4 rfl (lv_at hl 1 rfl) ?_
    refine qr_iald (v := (-1)) hx hb hK hW.a7 i (by omega) (by omega) rfl (by rw [(hRp.2.1 i hi).1, hln]; rfl) dX5_asked_5 ?_
    refine lv_iconst (v := (-1)) hx hb dX5_asked_6 (by decide) ?_
    refine lv_icmp_ne (tgt := 18) hx hb dX5_asked_7 (by decide) (fun c_7 => absurd rfl c_7) (fun c_7 => ?_)
    refine lv_aload_n hx hb dX5_asked_10 rfl (lv_at hl 0 rfl) ?_
    refine lv_iload_n hx hb dX5_asked_11 rfl (lv_at hl 1 rfl) ?_
    refine lv_iload_n hx hb dX5_asked_12 rfl (lv_at hl 2 rfl) ?_
    refine lv_iload_n hx hb dX5_asked_13 rfl (lv_at hl 3 rfl) ?_
    refine qc_v (va_runV (As := [.int (nI i), .int (nI a), .int t]) (rest := []) ⟨hx, hb, hml, hown, hts⟩ (c_X5_lend l dd ga n k ar σ hsq hL i a hi ha t (by have := hcw i a hi ha; omega)) (cwV 3 hts gX5_asked_X5_lend rfl rfl rfl (by decide +kernel) ⟨Nat.le_of_ble_eq_true rfl, Nat.le_of_ble_eq_true rfl⟩) (qpreV hK (⟨ρ, hRp, hW⟩) hW.self rfl) rfl rfl hl.1 rfl (lv_room (Nat.le_of_ble_eq_true rfl)) dX5_asked_14 ⟨Nat.zero_le _, Nat.zero_le _⟩) hS (fun q h => h) (fun H locs hp9 hz9 ho9 hS => ?_)
    have hfin := hp9
    exact q_vret hx hb hr hlocks hS (by rw [q_asked_none hln]; exact hfin) dX5_asked_17
  · have hb9 : b < n := hcl i hi (b, u) hln
    rcases hr9 : σ.2.2.1 i with _ | ⟨x9, r9⟩
    · have hpr : ¬ q_press (σ.2.2.1 i) u b = true := by rw [hr9]; exact (by decide : ¬ (false = true))
      obtain ⟨ρ0, eρ0⟩ : ∃ z, z = ρ := ⟨_, rfl⟩
      have hρ0 : ρ 11 (64 * i) = ρ0 11 (64 * i) := by rw [eρ0]
      have hρ0b : ρ 12 (64 * i) = ρ0 12 (64 * i) := by rw [eρ0]
      refine lv_aload_n hx hb dX5_asked_0 rfl (lv_at hl 0 rfl) ?_
      refine qr_get (ci := 5) (C := RX5) (T := TX5) (N := 19) hx hb hts hin5 hown hK hW.self rfl 8 (by decide) (hts (.fieldLink RX5 28 "QuorumLockModel" "lent" "[I") (by decide +kernel)) rfl dX5_asked_1 ?_
      refine lv_iload_n hx hb dX5_asked_4 rfl (lv_at hl 1 rfl) ?_
      refine qr_iald (v := (nI b)) hx hb hK hW.a7 i (by omega) (by omega) rfl (by rw [(hRp.2.1 i hi).1, hln]; rfl) dX5_asked_5 ?_
      refine lv_iconst (v := (-1)) hx hb dX5_asked_6 (by decide) ?_
      refine lv_icmp_ne (tgt := 18) hx hb dX5_asked_7 (by decide) (fun c_7 => ?_) (fun c_7 => absurd c_7 (q_nI_m1 (by omega)))
      refine lv_aload_n hx hb dX5_asked_18 rfl (lv_at hl 0 rfl) ?_
      refine qr_get (ci := 5) (C := RX5) (T := TX5) (N := 19) hx hb hts hin5 hown hK hW.self rfl 11 (by decide) (hts (.fieldLink RX5 38 "QuorumLockModel" "rows" "[I") (by decide +kernel)) rfl dX5_asked_19 ?_
      refine lv_iload_n hx hb dX5_asked_22 rfl (lv_at hl 1 rfl) ?_
      refine qr_iald (v := (nI (σ.2.2.1 i).length)) hx hb hK hW.a10 i (by omega) (by omega) rfl ((hRp.2.2.1 i hi).1) dX5_asked_23 ?_
      refine lv_if_le (tgt := 31) hx hb dX5_asked_24 (by decide) (fun c_24 => ?_) (fun c_24 => absurd (by rw [hr9]; decide) c_24)
      refine lv_iconst (v := 0) hx hb dX5_asked_31 (by decide) ?_
      refine lv_istore (lv' := [(4, .int 0), (0, .ref (ar 0)), (1, .int (nI i)), (2, .int (nI a)), (3, .int t)]) hx hb dX5_asked_32 hl (by decide) rfl (fun ls hl => ?_)
      refine lv_aload_n hx hb dX5_asked_34 rfl (lv_at hl 1 rfl) ?_
      refine qr_get (ci := 5) (C := RX5) (T := TX5) (N := 19) hx hb hts hin5 hown hK hW.self rfl 12 (by decide) (hts (.fieldLink RX5 41 "QuorumLockModel" "rowNode" "[I") (by decide +kernel)) rfl dX5_asked_35 ?_
      refine lv_bipush (v := nI 64) hx hb dX5_asked_38 (by decide) ?_
      refine lv_iload_n hx hb dX5_asked_40 rfl (lv_at hl 2 rfl) ?_
      refine lv_imul hx hb dX5_asked_41 ?_
      refine q_ti (y := nI (64 * i)) (pk_mul _ _) ?_
      refine qr_iald (v := (ρ0 11 (64 * i))) hx hb hK hW.a11 (64 * i) (by omega) (by omega) rfl hρ0 dX5_asked_42 ?_
      refine lv_istore (lv' := [(5, .int (ρ0 11 (64 * i))), (4, .int 0), (0, .ref (ar 0)), (1, .int (nI i)), (2, .int (nI a)), (3, .int t)]) hx hb dX5_asked_43 hl (by decide) rfl (fun ls hl => ?_)
      refine lv_aload_n hx hb dX5_asked_45 rfl (lv_at hl 2 rfl) ?_
      refine qr_get (ci := 5) (C := RX5) (T := TX5) (N := 19) hx hb hts hin5 hown hK hW.self rfl 13 (by decide) (hts (.fieldLink RX5 44 "QuorumLockModel" "rowTime" "[I") (by decide +kernel)) rfl dX5_asked_46 ?_
      refine lv_bipush (v := nI 64) hx hb dX5_asked_49 (by decide) ?_
      refine lv_iload_n hx hb dX5_asked_51 rfl (lv_at hl 3 rfl) ?_
      refine lv_imul hx hb dX5_asked_52 ?_
      refine q_ti (y := nI (64 * i)) (pk_mul _ _) ?_
      refine qr_iald (v := (ρ0 12 (64 * i))) hx hb hK hW.a12 (64 * i) (by omega) (by omega) rfl hρ0b dX5_asked_53 ?_
      refine lv_istore (lv' := [(6, .int (ρ0 12 (64 * i))), (5, .int (ρ0 11 (64 * i))), (4, .int 0), (0, .ref (ar 0)), (1, .int (nI i)), (2, .int (nI a)), (3, .int t)]) hx hb dX5_asked_54 hl (by decide) rfl (fun ls hl => ?_)
      refine lv_aload_n hx hb dX5_asked_56 rfl (lv_at hl 3 rfl) ?_
      refine lv_iload_n hx hb dX5_asked_57 rfl (lv_at hl 4 rfl) ?_
      refine lv_iload_n hx hb dX5_asked_58 rfl (lv_at hl 5 rfl) ?_
      refine lv_iload_n hx hb dX5_asked_59 rfl (lv_at hl 6 rfl) ?_
      refine qc_i (va_runV (As := [.int (nI i), .int (nI a), .int t]) (rest := []) ⟨hx, hb, hml, hown, hts⟩ (c_X5_line l dd ga n k ar σ hsq hL i a hi ha t (by omega) hrn) (cwV 3 hts gX5_asked_X5_line rfl rfl rfl (by decide +kernel) ⟨Nat.le_of_ble_eq_true rfl, Nat.le_of_ble_eq_true rfl⟩) (qpreV hK (⟨ρ, hRp, hW⟩) hW.self rfl) rfl rfl hl.1 rfl (lv_room (Nat.le_of_ble_eq_true rfl)) dX5_asked_60 ⟨Nat.zero_le _, Nat.zero_le _⟩) hS (fun q h => h) (fun v60 H locs hp9 hz9 ho9 hS => ?_)
      obtain ⟨e60, ρ, hRp, hW⟩ := hp9
      have hpl := q_pl_le (σ.2.2.1 i) a t (σ.2.2.1 i).length
      refine lv_if_ne (tgt := 161) hx hb dX5_asked_63 (by decide) (fun c_63 => ?_) (fun c_63 => ?_)
      · have hno : ¬ (q_pl (σ.2.2.1 i) a t (σ.2.2.1 i).length = 0 ∧ q_bef t a u b = true) := fun h => c_63 (by rw [e60, h.1]; rfl)
        refine lv_aload_n hx hb dX5_asked_161 rfl (lv_at hl 3 rfl) ?_
        refine lv_iload_n hx hb dX5_asked_162 rfl (lv_at hl 4 rfl) ?_
        refine lv_iload_n hx hb dX5_asked_163 rfl (lv_at hl 5 rfl) ?_
        refine lv_bipush (v := 6) hx hb dX5_asked_164 (by decide) ?_
        refine lv_iload_n hx hb dX5_asked_166 rfl (lv_at hl 6 rfl) ?_
        refine qc_v (va_runV (As := [.int (nI i), .int (nI a), .int 6, .int t]) (rest := []) ⟨hx, hb, hml, hown, hts⟩ (c_X5_send l dd ga n k ar (s_rw σ i (q_ins (σ.2.2.1 i) a t)) hsq hL i a hi ha 6 t (by have h9 := hcw i a hi ha; show (σ.2.2.2.1 i a).length ≤ 8; omega)) (cwV 4 hts gX5_asked_X5_send rfl rfl rfl (by decide +kernel) ⟨Nat.le_of_ble_eq_true rfl, Nat.le_of_ble_eq_true rfl⟩) (qpreV hK (⟨ρ, hRp, hW⟩) hW.self rfl) rfl rfl hl.1 rfl (lv_room (Nat.le_of_ble_eq_true rfl)) dX5_asked_167 ⟨Nat.zero_le _, Nat.zero_le _⟩) hS (fun q h => h) (fun H locs hp9 hz9 ho9 hS => ?_)
        have hfin : qR dd ga n k ar (q_asked σ i a t) H := by rw [q_asked_no hln hno]; exact hp9
        exact q_vret hx hb hr hlocks hS hfin dX5_asked_170
      · have hp0 : q_pl (σ.2.2.1 i) a t (σ.2.2.1 i).length = 0 := (nI_eq (a := q_pl (σ.2.2.1 i) a t (σ.2.2.1 i).length) (b := 0) (by omega) (by decide)).mp (e60.symm.trans c_63)
        refine lv_iload_n hx hb dX5_asked_66 rfl (lv_at hl 6 rfl) ?_
        refine lv_iload_n hx hb dX5_asked_67 rfl (lv_at hl 5 rfl) ?_
        refine lv_aload_n hx hb dX5_asked_68 rfl (lv_at hl 3 rfl) ?_
        refine qr_get (ci := 5) (C := RX5) (T := TX5) (N := 19) hx hb hts hin5 hown hK hW.self rfl 9 (by decide) (hts (.fieldLink RX5 31 "QuorumLockModel" "lentTime" "[I") (by decide +kernel)) rfl dX5_asked_69 ?_
        refine lv_iload_n hx hb dX5_asked_72 rfl (lv_at hl 4 rfl) ?_
        refine qr_iald (v := u) hx hb hK hW.a8 i (by omega) (by omega) rfl ((hRp.2.1 i hi).2 (b, u) hln) dX5_asked_73 ?_
        refine lv_aload_n hx hb dX5_asked_74 rfl (lv_at hl 3 rfl) ?_
        refine qr_get (ci := 5) (C := RX5) (T := TX5) (N := 19) hx hb hts hin5 hown hK hW.self rfl 8 (by decide) (hts (.fieldLink RX5 28 "QuorumLockModel" "lent" "[I") (by decide +kernel)) rfl dX5_asked_75 ?_
        refine lv_iload_n hx hb dX5_asked_78 rfl (lv_at hl 4 rfl) ?_
        refine qr_iald (v := (nI b)) hx hb hK hW.a7 i (by omega) (by omega) rfl ((hRp.2.1 i hi).1.trans (by rw [show (s_rw σ i (q_ins (σ.2.2.1 i) a t)).2.1 i = some (b, u) from hln]; rfl)) dX5_asked_79 ?_
        refine qc_i (va_runS (As := [.int t, .int (nI a), .int u, .int (nI b)]) (rest := []) ⟨hx, hb, hml, hown, hts⟩ (c_X5_isBefore l dd ga t (nI a) u (nI b)) (va_cwS 4 hts gX5_asked_X5_isBefore rfl rfl rfl (by decide +kernel) ⟨Nat.le_of_ble_eq_true rfl, Nat.le_of_ble_eq_true rfl⟩) (qpreS hK trivial) rfl rfl hl.1 rfl (lv_room (Nat.le_of_ble_eq_true rfl)) dX5_asked_80 ⟨Nat.zero_le _, Nat.zero_le _⟩) hS (fun q h => h.elim) (fun v80 H locs hp9 hz9 ho9 hS => ?_)
        have e80 : v80 = _ := hp9
        have hW := hW.same (fun q => ho9 q (fun h => h))
        refine lv_if_eq (tgt := 161) hx hb dX5_asked_83 (by decide) (fun c_83 => ?_) (fun c_83 => ?_)
        · have hno : ¬ (q_pl (σ.2.2.1 i) a t (σ.2.2.1 i).length = 0 ∧ q_bef t a u b = true) := fun h => by rw [if_pos ((q_befI (by omega) (by omega)).mpr h.2)] at e80; rw [e80] at c_83; exact absurd c_83 (by decide)
          refine lv_aload_n hx hb dX5_asked_161 rfl (lv_at hl 3 rfl) ?_
          refine lv_iload_n hx hb dX5_asked_162 rfl (lv_at hl 4 rfl) ?_
          refine lv_iload_n hx hb dX5_asked_163 rfl (lv_at hl 5 rfl) ?_
          refine lv_bipush (v := 6) hx hb dX5_asked_164 (by decide) ?_
          refine lv_iload_n hx hb dX5_asked_166 rfl (lv_at hl 6 rfl) ?_
          refine qc_v (va_runV (As := [.int (nI i), .int (nI a), .int 6, .int t]) (rest := []) ⟨hx, hb, hml, hown, hts⟩ (c_X5_send l dd ga n k ar (s_rw σ i (q_ins (σ.2.2.1 i) a t)) hsq hL i a hi ha 6 t (by have h9 := hcw i a hi ha; show (σ.2.2.2.1 i a).length ≤ 8; omega)) (cwV 4 hts gX5_asked_X5_send rfl rfl rfl (by decide +kernel) ⟨Nat.le_of_ble_eq_true rfl, Nat.le_of_ble_eq_true rfl⟩) (qpreV hK (⟨ρ, hRp, hW⟩) hW.self rfl) rfl rfl hl.1 rfl (lv_room (Nat.le_of_ble_eq_true rfl)) dX5_asked_167 ⟨Nat.zero_le _, Nat.zero_le _⟩) hS (fun q h => h) (fun H locs hp9 hz9 ho9 hS => ?_)
          have hfin : qR dd ga n k ar (q_asked σ i a t) H := by rw [q_asked_no hln hno]; exact hp9
          exact q_vret hx hb hr hlocks hS hfin dX5_asked_170
        · have hbf : q_bef t a u b = true := Classical.byContradiction fun h => by rw [if_neg (fun h2 => h ((q_befI (by omega) (by omega)).mp h2))] at e80; exact c_83 e80
          refine lv_iload hx hb dX5_asked_86 (lv_at hl 2 rfl) ?_
          refine lv_if_eq (tgt := 124) hx hb dX5_asked_88 (by decide) (fun c_88 => ?_) (fun c_88 => absurd rfl c_88)
          refine lv_aload_n hx hb dX5_asked_124 rfl (lv_at hl 3 rfl) ?_
          refine qr_get (ci := 5) (C := RX5) (T := TX5) (N := 19) hx hb hts hin5 hown hK hW.self rfl 10 (by decide) (hts (.fieldLink RX5 34 "QuorumLockModel" "inquired" "[Z") (by decide +kernel)) rfl dX5_asked_125 ?_
          refine lv_iload_n hx hb dX5_asked_128 rfl (lv_at hl 4 rfl) ?_
          refine qr_zald (v := (σ.1 6 i)) hx hb hK hW.a9 i (by omega) (by omega) rfl (hRp.t 6 i (by decide) hi) dX5_asked_129 ?_
          refine lv_if_ne (tgt := 170) hx hb dX5_asked_130 (by decide) (fun c_130 => ?_) (fun c_130 => ?_)
          · have hfin : qR dd ga n k ar (q_asked σ i a t) _ := (by rw [q_asked_yes0 hln hp0 hbf hpr, if_neg (show ¬ σ.1 6 i = 0 from c_130)]; exact ⟨ρ, hRp, hW⟩ : qR dd ga n k ar (q_asked σ i a t) H)
            exact q_vret hx hb hr hlocks hS hfin dX5_asked_170
          · have hi0 : σ.1 6 i = 0 := c_130
            refine lv_aload_n hx hb dX5_asked_133 rfl (lv_at hl 3 rfl) ?_
            refine qr_get (ci := 5) (C := RX5) (T := TX5) (N := 19) hx hb hts hin5 hown hK hW.self rfl 10 (by decide) (hts (.fieldLink RX5 34 "QuorumLockModel" "inquired" "[Z") (by decide +kernel)) rfl dX5_asked_134 ?_
            refine lv_iload_n hx hb dX5_asked_137 rfl (lv_at hl 4 rfl) ?_
            refine lv_iconst (v := 1) hx hb dX5_asked_138 (by decide) ?_
            refine qr_zast hx hb hK hW.a9 hS (⟨9, by decide, rfl⟩) i (by omega) (by omega) rfl rfl dX5_asked_139 (fun H locs hz9 ho9 hat9 hS => ?_)
            have hW := hW.put hL 9 i 1 (by decide) (by decide) ho9 hat9
            refine lv_aload_n hx hb dX5_asked_140 rfl (lv_at hl 3 rfl) ?_
            refine lv_iload_n hx hb dX5_asked_141 rfl (lv_at hl 4 rfl) ?_
            refine lv_aload_n hx hb dX5_asked_142 rfl (lv_at hl 3 rfl) ?_
            refine qr_get (ci := 5) (C := RX5) (T := TX5) (N := 19) hx hb hts hin5 hown hK hW.self rfl 8 (by decide) (hts (.fieldLink RX5 28 "QuorumLockModel" "lent" "[I") (by decide +kernel)) rfl dX5_asked_143 ?_
            refine lv_iload_n hx hb dX5_asked_146 rfl (lv_at hl 4 rfl) ?_
            refine qr_iald (v := (nI b)) hx hb hK hW.a7 i (by omega) (by omega) rfl (by simp [q2]; exact (hRp.2.1 i hi).1.trans (by rw [show (s_rw σ i (q_ins (σ.2.2.1 i) a t)).2.1 i = some (b, u) from hln]; rfl)) dX5_asked_147 ?_
            refine lv_iconst (v := 4) hx hb dX5_asked_148 (by decide) ?_
            refine lv_aload_n hx hb dX5_asked_149 rfl (lv_at hl 3 rfl) ?_
            refine qr_get (ci := 5) (C := RX5) (T := TX5) (N := 19) hx hb hts hin5 hown hK hW.self rfl 9 (by decide) (hts (.fieldLink RX5 31 "QuorumLockModel" "lentTime" "[I") (by decide +kernel)) rfl dX5_asked_150 ?_
            refine lv_iload_n hx hb dX5_asked_153 rfl (lv_at hl 4 rfl) ?_
            refine qr_iald (v := u) hx hb hK hW.a8 i (by omega) (by omega) rfl (by simp [q2]; exact (hRp.2.1 i hi).2 (b, u) hln) dX5_asked_154 ?_
            refine qc_v (va_runV (As := [.int (nI i), .int (nI b), .int 4, .int u]) (rest := []) ⟨hx, hb, hml, hown, hts⟩ (c_X5_send l dd ga n k ar (s_tb (s_rw σ i (q_ins (σ.2.2.1 i) a t)) 6 i 1) hsq hL i b hi hb9 4 u (by have h9 := hcw i b hi hb9; show (σ.2.2.2.1 i b).length ≤ 8; omega)) (cwV 4 hts gX5_asked_X5_send rfl rfl rfl (by decide +kernel) ⟨Nat.le_of_ble_eq_true rfl, Nat.le_of_ble_eq_true rfl⟩) (qpreV hK (⟨_, hRp.stb 6 i 1 (by decide), hW⟩) hW.self rfl) rfl rfl hl.1 rfl (lv_room (Nat.le_of_ble_eq_true rfl)) dX5_asked_155 ⟨Nat.zero_le _, Nat.zero_le _⟩) hS (fun q h => h) (fun H locs hp9 hz9 ho9 hS => ?_)
            have hfin : qR dd ga n k ar (q_asked σ i a t) H := by rw [q_asked_yes0 hln hp0 hbf hpr, if_pos hi0, ← q_send_tb6]; exact hp9
            refine lv_goto (tgt := 170) hx hb dX5_asked_158 (by decide) ?_
            exact q_vret hx hb hr hlocks hS hfin dX5_asked_170
    · have hx9 : x9.1 < n := hrn x9 (by rw [hr9]; exact List.mem_cons_self)
      refine lv_aload_n hx hb dX5_asked_0 rfl (lv_at hl 0 rfl) ?_
      refine qr_get (ci := 5) (C := RX5) (T := TX5) (N := 19) hx hb hts hin5 hown hK hW.self rfl 8 (by decide) (hts (.fieldLink RX5 28 "QuorumLockModel" "lent" "[I") (by decide +kernel)) rfl dX5_asked_1 ?_
      refine lv_iload_n hx hb dX5_asked_4 rfl (lv_at hl 1 rfl) ?_
      refine qr_iald (v := (nI b)) hx hb hK hW.a7 i (by omega) (by omega) rfl (by rw [(hRp.2.1 i hi).1, hln]; rfl) dX5_asked_5 ?_
      refine lv_iconst (v := (-1)) hx hb dX5_asked_6 (by decide) ?_
      refine lv_icmp_ne (tgt := 18) hx hb dX5_asked_7 (by decide) (fun c_7 => ?_) (fun c_7 => absurd c_7 (q_nI_m1 (by omega)))
      refine lv_aload_n hx hb dX5_asked_18 rfl (lv_at hl 0 rfl) ?_
      refine qr_get (ci := 5) (C := RX5) (T := TX5) (N := 19) hx hb hts hin5 hown hK hW.self rfl 11 (by decide) (hts (.fieldLink RX5 38 "QuorumLockModel" "rows" "[I") (by decide +kernel)) rfl dX5_asked_19 ?_
      refine lv_iload_n hx hb dX5_asked_22 rfl (lv_at hl 1 rfl) ?_
      refine qr_iald (v := (nI (σ.2.2.1 i).length)) hx hb hK hW.a10 i (by omega) (by omega) rfl ((hRp.2.2.1 i hi).1) dX5_asked_23 ?_
      refine lv_if_le (tgt := 31) hx hb dX5_asked_24 (by decide) (fun c_24 => absurd c_24 (nI_nle (by rw [hr9]; simp) (by omega))) (fun c_24 => ?_)
      refine lv_iconst (v := 1) hx hb dX5_asked_27 (by decide) ?_
      refine lv_goto (tgt := 32) hx hb dX5_asked_28 (by decide) ?_
      refine lv_istore (lv' := [(4, .int 1), (0, .ref (ar 0)), (1, .int (nI i)), (2, .int (nI a)), (3, .int t)]) hx hb dX5_asked_32 hl (by decide) rfl (fun ls hl => ?_)
      refine lv_aload_n hx hb dX5_asked_34 rfl (lv_at hl 1 rfl) ?_
      refine qr_get (ci := 5) (C := RX5) (T := TX5) (N := 19) hx hb hts hin5 hown hK hW.self rfl 12 (by decide) (hts (.fieldLink RX5 41 "QuorumLockModel" "rowNode" "[I") (by decide +kernel)) rfl dX5_asked_35 ?_
      refine lv_bipush (v := nI 64) hx hb dX5_asked_38 (by decide) ?_
      refine lv_iload_n hx hb dX5_asked_40 rfl (lv_at hl 2 rfl) ?_
      refine lv_imul hx hb dX5_asked_41 ?_
      refine q_ti (y := nI (64 * i)) (pk_mul _ _) ?_
      refine qr_iald (v := (nI x9.1)) hx hb hK hW.a11 (64 * i) (by omega) (by omega) rfl ((hRp.2.2.1 i hi).2.2 0 x9 (by rw [hr9]; rfl)).1 dX5_asked_42 ?_
      refine lv_istore (lv' := [(5, .int (nI x9.1)), (4, .int 1), (0, .ref (ar 0)), (1, .int (nI i)), (2, .int (nI a)), (3, .int t)]) hx hb dX5_asked_43 hl (by decide) rfl (fun ls hl => ?_)
      refine lv_aload_n hx hb dX5_asked_45 rfl (lv_at hl 2 rfl) ?_
      refine qr_get (ci := 5) (C := RX5) (T := TX5) (N := 19) hx hb hts hin5 hown hK hW.self rfl 13 (by decide) (hts (.fieldLink RX5 44 "QuorumLockModel" "rowTime" "[I") (by decide +kernel)) rfl dX5_asked_46 ?_
      refine lv_bipush (v := nI 64) hx hb dX5_asked_49 (by decide) ?_
      refine lv_iload_n hx hb dX5_asked_51 rfl (lv_at hl 3 rfl) ?_
      refine lv_imul hx hb dX5_asked_52 ?_
      refine q_ti (y := nI (64 * i)) (pk_mul _ _) ?_
      refine qr_iald (v := x9.2) hx hb hK hW.a12 (64 * i) (by omega) (by omega) rfl ((hRp.2.2.1 i hi).2.2 0 x9 (by rw [hr9]; rfl)).2 dX5_asked_53 ?_
      refine lv_istore (lv' := [(6, .int x9.2), (5, .int (nI x9.1)), (4, .int 1), (0, .ref (ar 0)), (1, .int (nI i)), (2, .int (nI a)), (3, .int t)]) hx hb dX5_asked_54 hl (by decide) rfl (fun ls hl => ?_)
      refine lv_aload_n hx hb dX5_asked_56 rfl (lv_at hl 3 rfl) ?_
      refine lv_iload_n hx hb dX5_asked_57 rfl (lv_at hl 4 rfl) ?_
      refine lv_iload_n hx hb dX5_asked_58 rfl (lv_at hl 5 rfl) ?_
      refine lv_iload_n hx hb dX5_asked_59 rfl (lv_at hl 6 rfl) ?_
      refine qc_i (va_runV (As := [.int (nI i), .int (nI a), .int t]) (rest := []) ⟨hx, hb, hml, hown, hts⟩ (c_X5_line l dd ga n k ar σ hsq hL i a hi ha t (by omega) hrn) (cwV 3 hts gX5_asked_X5_line rfl rfl rfl (by decide +kernel) ⟨Nat.le_of_ble_eq_true rfl, Nat.le_of_ble_eq_true rfl⟩) (qpreV hK (⟨ρ, hRp, hW⟩) hW.self rfl) rfl rfl hl.1 rfl (lv_room (Nat.le_of_ble_eq_true rfl)) dX5_asked_60 ⟨Nat.zero_le _, Nat.zero_le _⟩) hS (fun q h => h) (fun v60 H locs hp9 hz9 ho9 hS => ?_)
      obtain ⟨e60, ρ, hRp, hW⟩ := hp9
      have hpl := q_pl_le (σ.2.2.1 i) a t (σ.2.2.1 i).length
      refine lv_if_ne (tgt := 161) hx hb dX5_asked_63 (by decide) (fun c_63 => ?_) (fun c_63 => ?_)
      · have hno : ¬ (q_pl (σ.2.2.1 i) a t (σ.2.2.1 i).length = 0 ∧ q_bef t a u b = true) := fun h => c_63 (by rw [e60, h.1]; rfl)
        refine lv_aload_n hx hb dX5_asked_161 rfl (lv_at hl 3 rfl) ?_
        refine lv_iload_n hx hb dX5_asked_162 rfl (lv_at hl 4 rfl) ?_
        refine lv_iload_n hx hb dX5_asked_163 rfl (lv_at hl 5 rfl) ?_
        refine lv_bipush (v := 6) hx hb dX5_asked_164 (by decide) ?_
        refine lv_iload_n hx hb dX5_asked_166 rfl (lv_at hl 6 rfl) ?_
        refine qc_v (va_runV (As := [.int (nI i), .int (nI a), .int 6, .int t]) (rest := []) ⟨hx, hb, hml, hown, hts⟩ (c_X5_send l dd ga n k ar (s_rw σ i (q_ins (σ.2.2.1 i) a t)) hsq hL i a hi ha 6 t (by have h9 := hcw i a hi ha; show (σ.2.2.2.1 i a).length ≤ 8; omega)) (cwV 4 hts gX5_asked_X5_send rfl rfl rfl (by decide +kernel) ⟨Nat.le_of_ble_eq_true rfl, Nat.le_of_ble_eq_true rfl⟩) (qpreV hK (⟨ρ, hRp, hW⟩) hW.self rfl) rfl rfl hl.1 rfl (lv_room (Nat.le_of_ble_eq_true rfl)) dX5_asked_167 ⟨Nat.zero_le _, Nat.zero_le _⟩) hS (fun q h => h) (fun H locs hp9 hz9 ho9 hS => ?_)
        have hfin : qR dd ga n k ar (q_asked σ i a t) H := by rw [q_asked_no hln hno]; exact hp9
        exact q_vret hx hb hr hlocks hS hfin dX5_asked_170
      · have hp0 : q_pl (σ.2.2.1 i) a t (σ.2.2.1 i).length = 0 := (nI_eq (a := q_pl (σ.2.2.1 i) a t (σ.2.2.1 i).length) (b := 0) (by omega) (by decide)).mp (e60.symm.trans c_63)
        refine lv_iload_n hx hb dX5_asked_66 rfl (lv_at hl 6 rfl) ?_
        refine lv_iload_n hx hb dX5_asked_67 rfl (lv_at hl 5 rfl) ?_
        refine lv_aload_n hx hb dX5_asked_68 rfl (lv_at hl 3 rfl) ?_
        refine qr_get (ci := 5) (C := RX5) (T := TX5) (N := 19) hx hb hts hin5 hown hK hW.self rfl 9 (by decide) (hts (.fieldLink RX5 31 "QuorumLockModel" "lentTime" "[I") (by decide +kernel)) rfl dX5_asked_69 ?_
        refine lv_iload_n hx hb dX5_asked_72 rfl (lv_at hl 4 rfl) ?_
        refine qr_iald (v := u) hx hb hK hW.a8 i (by omega) (by omega) rfl ((hRp.2.1 i hi).2 (b, u) hln) dX5_asked_73 ?_
        refine lv_aload_n hx hb dX5_asked_74 rfl (lv_at hl 3 rfl) ?_
        refine qr_get (ci := 5) (C := RX5) (T := TX5) (N := 19) hx hb hts hin5 hown hK hW.self rfl 8 (by decide) (hts (.fieldLink RX5 28 "QuorumLockModel" "lent" "[I") (by decide +kernel)) rfl dX5_asked_75 ?_
        refine lv_iload_n hx hb dX5_asked_78 rfl (lv_at hl 4 rfl) ?_
        refine qr_iald (v := (nI b)) hx hb hK hW.a7 i (by omega) (by omega) rfl ((hRp.2.1 i hi).1.trans (by rw [show (s_rw σ i (q_ins (σ.2.2.1 i) a t)).2.1 i = some (b, u) from hln]; rfl)) dX5_asked_79 ?_
        refine qc_i (va_runS (As := [.int t, .int (nI a), .int u, .int (nI b)]) (rest := []) ⟨hx, hb, hml, hown, hts⟩ (c_X5_isBefore l dd ga t (nI a) u (nI b)) (va_cwS 4 hts gX5_asked_X5_isBefore rfl rfl rfl (by decide +kernel) ⟨Nat.le_of_ble_eq_true rfl, Nat.le_of_ble_eq_true rfl⟩) (qpreS hK trivial) rfl rfl hl.1 rfl (lv_room (Nat.le_of_ble_eq_true rfl)) dX5_asked_80 ⟨Nat.zero_le _, Nat.zero_le _⟩) hS (fun q h => h.elim) (fun v80 H locs hp9 hz9 ho9 hS => ?_)
        have e80 : v80 = _ := hp9
        have hW := hW.same (fun q => ho9 q (fun h => h))
        refine lv_if_eq (tgt := 161) hx hb dX5_asked_83 (by decide) (fun c_83 => ?_) (fun c_83 => ?_)
        · have hno : ¬ (q_pl (σ.2.2.1 i) a t (σ.2.2.1 i).length = 0 ∧ q_bef t a u b = true) := fun h => by rw [if_pos ((q_befI (by omega) (by omega)).mpr h.2)] at e80; rw [e80] at c_83; exact absurd c_83 (by decide)
          refine lv_aload_n hx hb dX5_asked_161 rfl (lv_at hl 3 rfl) ?_
          refine lv_iload_n hx hb dX5_asked_162 rfl (lv_at hl 4 rfl) ?_
          refine lv_iload_n hx hb dX5_asked_163 rfl (lv_at hl 5 rfl) ?_
          refine lv_bipush (v := 6) hx hb dX5_asked_164 (by decide) ?_
          refine lv_iload_n hx hb dX5_asked_166 rfl (lv_at hl 6 rfl) ?_
          refine qc_v (va_runV (As := [.int (nI i), .int (nI a), .int 6, .int t]) (rest := []) ⟨hx, hb, hml, hown, hts⟩ (c_X5_send l dd ga n k ar (s_rw σ i (q_ins (σ.2.2.1 i) a t)) hsq hL i a hi ha 6 t (by have h9 := hcw i a hi ha; show (σ.2.2.2.1 i a).length ≤ 8; omega)) (cwV 4 hts gX5_asked_X5_send rfl rfl rfl (by decide +kernel) ⟨Nat.le_of_ble_eq_true rfl, Nat.le_of_ble_eq_true rfl⟩) (qpreV hK (⟨ρ, hRp, hW⟩) hW.self rfl) rfl rfl hl.1 rfl (lv_room (Nat.le_of_ble_eq_true rfl)) dX5_asked_167 ⟨Nat.zero_le _, Nat.zero_le _⟩) hS (fun q h => h) (fun H locs hp9 hz9 ho9 hS => ?_)
          have hfin : qR dd ga n k ar (q_asked σ i a t) H := by rw [q_asked_no hln hno]; exact hp9
          exact q_vret hx hb hr hlocks hS hfin dX5_asked_170
        · have hbf : q_bef t a u b = true := Classical.byContradiction fun h => by rw [if_neg (fun h2 => h ((q_befI (by omega) (by omega)).mp h2))] at e80; exact c_83 e80
          refine lv_iload hx hb dX5_asked_86 (lv_at hl 2 rfl) ?_
          refine lv_if_eq (tgt := 124) hx hb dX5_asked_88 (by decide) (fun c_88 => absurd c_88 (by decide)) (fun c_88 => ?_)
          refine lv_iload hx hb dX5_asked_91 (lv_at hl 0 rfl) ?_
          refine lv_iload hx hb dX5_asked_93 (lv_at hl 1 rfl) ?_
          refine lv_aload_n hx hb dX5_asked_95 rfl (lv_at hl 3 rfl) ?_
          refine qr_get (ci := 5) (C := RX5) (T := TX5) (N := 19) hx hb hts hin5 hown hK hW.self rfl 9 (by decide) (hts (.fieldLink RX5 31 "QuorumLockModel" "lentTime" "[I") (by decide +kernel)) rfl dX5_asked_96 ?_
          refine lv_iload_n hx hb dX5_asked_99 rfl (lv_at hl 4 rfl) ?_
          refine qr_iald (v := u) hx hb hK hW.a8 i (by omega) (by omega) rfl ((hRp.2.1 i hi).2 (b, u) hln) dX5_asked_100 ?_
          refine lv_aload_n hx hb dX5_asked_101 rfl (lv_at hl 3 rfl) ?_
          refine qr_get (ci := 5) (C := RX5) (T := TX5) (N := 19) hx hb hts hin5 hown hK hW.self rfl 8 (by decide) (hts (.fieldLink RX5 28 "QuorumLockModel" "lent" "[I") (by decide +kernel)) rfl dX5_asked_102 ?_
          refine lv_iload_n hx hb dX5_asked_105 rfl (lv_at hl 4 rfl) ?_
          refine qr_iald (v := (nI b)) hx hb hK hW.a7 i (by omega) (by omega) rfl ((hRp.2.1 i hi).1.trans (by rw [show (s_rw σ i (q_ins (σ.2.2.1 i) a t)).2.1 i = some (b, u) from hln]; rfl)) dX5_asked_106 ?_
          refine qc_i (va_runS (As := [.int x9.2, .int (nI x9.1), .int u, .int (nI b)]) (rest := []) ⟨hx, hb, hml, hown, hts⟩ (c_X5_isBefore l dd ga x9.2 (nI x9.1) u (nI b)) (va_cwS 4 hts gX5_asked_X5_isBefore rfl rfl rfl (by decide +kernel) ⟨Nat.le_of_ble_eq_true rfl, Nat.le_of_ble_eq_true rfl⟩) (qpreS hK trivial) rfl rfl hl.1 rfl (lv_room (Nat.le_of_ble_eq_true rfl)) dX5_asked_107 ⟨Nat.zero_le _, Nat.zero_le _⟩) hS (fun q h => h.elim) (fun v107 H locs hp9 hz9 ho9 hS => ?_)
          have e107 : v107 = _ := hp9
          have hW := hW.same (fun q => ho9 q (fun h => h))
          refine lv_if_eq (tgt := 124) hx hb dX5_asked_110 (by decide) (fun c_110 => ?_) (fun c_110 => ?_)
          · have hpr : ¬ q_press (σ.2.2.1 i) u b = true := fun h => by rw [hr9] at h; rw [if_pos ((q_befI (by omega) (by omega)).mpr (show q_bef x9.2 x9.1 u b = true from h))] at e107; rw [e107] at c_110; exact absurd c_110 (by decide)
            refine lv_aload_n hx hb dX5_asked_124 rfl (lv_at hl 3 rfl) ?_
            refine qr_get (ci := 5) (C := RX5) (T := TX5) (N := 19) hx hb hts hin5 hown hK hW.self rfl 10 (by decide) (hts (.fieldLink RX5 34 "QuorumLockModel" "inquired" "[Z") (by decide +kernel)) rfl dX5_asked_125 ?_
            refine lv_iload_n hx hb dX5_asked_128 rfl (lv_at hl 4 rfl) ?_
            refine qr_zald (v := (σ.1 6 i)) hx hb hK hW.a9 i (by omega) (by omega) rfl (hRp.t 6 i (by decide) hi) dX5_asked_129 ?_
            refine lv_if_ne (tgt := 170) hx hb dX5_asked_130 (by decide) (fun c_130 => ?_) (fun c_130 => ?_)
            · have hfin : qR dd ga n k ar (q_asked σ i a t) _ := (by rw [q_asked_yes0 hln hp0 hbf hpr, if_neg (show ¬ σ.1 6 i = 0 from c_130)]; exact ⟨ρ, hRp, hW⟩ : qR dd ga n k ar (q_asked σ i a t) H)
              exact q_vret hx hb hr hlocks hS hfin dX5_asked_170
            · have hi0 : σ.1 6 i = 0 := c_130
              refine lv_aload_n hx hb dX5_asked_133 rfl (lv_at hl 3 rfl) ?_
              refine qr_get (ci := 5) (C := RX5) (T := TX5) (N := 19) hx hb hts hin5 hown hK hW.self rfl 10 (by decide) (hts (.fieldLink RX5 34 "QuorumLockModel" "inquired" "[Z") (by decide +kernel)) rfl dX5_asked_134 ?_
              refine lv_iload_n hx hb dX5_asked_137 rfl (lv_at hl 4 rfl) ?_
              refine lv_iconst (v := 1) hx hb dX5_asked_138 (by decide) ?_
              refine qr_zast hx hb hK hW.a9 hS (⟨9, by decide, rfl⟩) i (by omega) (by omega) rfl rfl dX5_asked_139 (fun H locs hz9 ho9 hat9 hS => ?_)
              have hW := hW.put hL 9 i 1 (by decide) (by decide) ho9 hat9
              refine lv_aload_n hx hb dX5_asked_140 rfl (lv_at hl 3 rfl) ?_
              refine lv_iload_n hx hb dX5_asked_141 rfl (lv_at hl 4 rfl) ?_
              refine lv_aload_n hx hb dX5_asked_142 rfl (lv_at hl 3 rfl) ?_
              refine qr_get (ci := 5) (C := RX5) (T := TX5) (N := 19) hx hb hts hin5 hown hK hW.self rfl 8 (by decide) (hts (.fieldLink RX5 28 "QuorumLockModel" "lent" "[I") (by decide +kernel)) rfl dX5_asked_143 ?_
              refine lv_iload_n hx hb dX5_asked_146 rfl (lv_at hl 4 rfl) ?_
              refine qr_iald (v := (nI b)) hx hb hK hW.a7 i (by omega) (by omega) rfl (by simp [q2]; exact (hRp.2.1 i hi).1.trans (by rw [show (s_rw σ i (q_ins (σ.2.2.1 i) a t)).2.1 i = some (b, u) from hln]; rfl)) dX5_asked_147 ?_
              refine lv_iconst (v := 4) hx hb dX5_asked_148 (by decide) ?_
              refine lv_aload_n hx hb dX5_asked_149 rfl (lv_at hl 3 rfl) ?_
              refine qr_get (ci := 5) (C := RX5) (T := TX5) (N := 19) hx hb hts hin5 hown hK hW.self rfl 9 (by decide) (hts (.fieldLink RX5 31 "QuorumLockModel" "lentTime" "[I") (by decide +kernel)) rfl dX5_asked_150 ?_
              refine lv_iload_n hx hb dX5_asked_153 rfl (lv_at hl 4 rfl) ?_
              refine qr_iald (v := u) hx hb hK hW.a8 i (by omega) (by omega) rfl (by simp [q2]; exact (hRp.2.1 i hi).2 (b, u) hln) dX5_asked_154 ?_
              refine qc_v (va_runV (As := [.int (nI i), .int (nI b), .int 4, .int u]) (rest := []) ⟨hx, hb, hml, hown, hts⟩ (c_X5_send l dd ga n k ar (s_tb (s_rw σ i (q_ins (σ.2.2.1 i) a t)) 6 i 1) hsq hL i b hi hb9 4 u (by have h9 := hcw i b hi hb9; show (σ.2.2.2.1 i b).length ≤ 8; omega)) (cwV 4 hts gX5_asked_X5_send rfl rfl rfl (by decide +kernel) ⟨Nat.le_of_ble_eq_true rfl, Nat.le_of_ble_eq_true rfl⟩) (qpreV hK (⟨_, hRp.stb 6 i 1 (by decide), hW⟩) hW.self rfl) rfl rfl hl.1 rfl (lv_room (Nat.le_of_ble_eq_true rfl)) dX5_asked_155 ⟨Nat.zero_le _, Nat.zero_le _⟩) hS (fun q h => h) (fun H locs hp9 hz9 ho9 hS => ?_)
              have hfin : qR dd ga n k ar (q_asked σ i a t) H := by rw [q_asked_yes0 hln hp0 hbf hpr, if_pos hi0, ← q_send_tb6]; exact hp9
              refine lv_goto (tgt := 170) hx hb dX5_asked_158 (by decide) ?_
              exact q_vret hx hb hr hlocks hS hfin dX5_asked_170
          · have hpr : q_press (σ.2.2.1 i) u b = true := Classical.byContradiction fun h => by rw [hr9] at h; rw [if_neg (fun h2 => h ((q_befI (by omega) (by omega)).mp h2))] at e107; exact c_110 e107
            refine lv_aload_n hx hb dX5_asked_113 rfl (lv_at hl 3 rfl) ?_
            refine lv_iload_n hx hb dX5_asked_114 rfl (lv_at hl 4 rfl) ?_
            refine lv_iload hx hb dX5_asked_115 (lv_at hl 1 rfl) ?_
            refine lv_bipush (v := 6) hx hb dX5_asked_117 (by decide) ?_
            refine lv_iload hx hb dX5_asked_119 (lv_at hl 0 rfl) ?_
            refine qc_v (va_runV (As := [.int (nI i), .int (nI x9.1), .int 6, .int x9.2]) (rest := []) ⟨hx, hb, hml, hown, hts⟩ (c_X5_send l dd ga n k ar (s_rw σ i (q_ins (σ.2.2.1 i) a t)) hsq hL i x9.1 hi hx9 6 x9.2 (by have h9 := hcw i x9.1 hi hx9; show (σ.2.2.2.1 i x9.1).length ≤ 8; omega)) (cwV 4 hts gX5_asked_X5_send rfl rfl rfl (by decide +kernel) ⟨Nat.le_of_ble_eq_true rfl, Nat.le_of_ble_eq_true rfl⟩) (qpreV hK (⟨ρ, hRp, hW⟩) hW.self rfl) rfl rfl hl.1 rfl (lv_room (Nat.le_of_ble_eq_true rfl)) dX5_asked_121 ⟨Nat.zero_le _, Nat.zero_le _⟩) hS (fun q h => h) (fun H locs hp9 hz9 ho9 hS => ?_)
            obtain ⟨ρ, hRp, hW⟩ := hp9
            refine lv_aload_n hx hb dX5_asked_124 rfl (lv_at hl 3 rfl) ?_
            refine qr_get (ci := 5) (C := RX5) (T := TX5) (N := 19) hx hb hts hin5 hown hK hW.self rfl 10 (by decide) (hts (.fieldLink RX5 34 "QuorumLockModel" "inquired" "[Z") (by decide +kernel)) rfl dX5_asked_125 ?_
            refine lv_iload_n hx hb dX5_asked_128 rfl (lv_at hl 4 rfl) ?_
            refine qr_zald (v := (σ.1 6 i)) hx hb hK hW.a9 i (by omega) (by omega) rfl (hRp.t 6 i (by decide) hi) dX5_asked_129 ?_
            refine lv_if_ne (tgt := 170) hx hb dX5_asked_130 (by decide) (fun c_130 => ?_) (fun c_130 => ?_)
            · have hfin : qR dd ga n k ar (q_asked σ i a t) _ := (by rw [q_asked_yes1 hln hp0 hbf hr9 hpr, if_neg (show ¬ σ.1 6 i = 0 from c_130)]; exact ⟨ρ, hRp, hW⟩ : qR dd ga n k ar (q_asked σ i a t) H)
              exact q_vret hx hb hr hlocks hS hfin dX5_asked_170
            · have hi0 : σ.1 6 i = 0 := c_130
              refine lv_aload_n hx hb dX5_asked_133 rfl (lv_at hl 3 rfl) ?_
              refine qr_get (ci := 5) (C := RX5) (T := TX5) (N := 19) hx hb hts hin5 hown hK hW.self rfl 10 (by decide) (hts (.fieldLink RX5 34 "QuorumLockModel" "inquired" "[Z") (by decide +kernel)) rfl dX5_asked_134 ?_
              refine lv_iload_n hx hb dX5_asked_137 rfl (lv_at hl 4 rfl) ?_
              refine lv_iconst (v := 1) hx hb dX5_asked_138 (by decide) ?_
              refine qr_zast hx hb hK hW.a9 hS (⟨9, by decide, rfl⟩) i (by omega) (by omega) rfl rfl dX5_asked_139 (fun H locs hz9 ho9 hat9 hS => ?_)
              have hW := hW.put hL 9 i 1 (by decide) (by decide) ho9 hat9
              refine lv_aload_n hx hb dX5_asked_140 rfl (lv_at hl 3 rfl) ?_
              refine lv_iload_n hx hb dX5_asked_141 rfl (lv_at hl 4 rfl) ?_
              refine lv_aload_n hx hb dX5_asked_142 rfl (lv_at hl 3 rfl) ?_
              refine qr_get (ci := 5) (C := RX5) (T := TX5) (N := 19) hx hb hts hin5 hown hK hW.self rfl 8 (by decide) (hts (.fieldLink RX5 28 "QuorumLockModel" "lent" "[I") (by decide +kernel)) rfl dX5_asked_143 ?_
              refine lv_iload_n hx hb dX5_asked_146 rfl (lv_at hl 4 rfl) ?_
              refine qr_iald (v := (nI b)) hx hb hK hW.a7 i (by omega) (by omega) rfl (by simp [q2]; exact (hRp.2.1 i hi).1.trans (by rw [show (s_send (s_rw σ i (q_ins (σ.2.2.1 i) a t)) i x9.1 6 x9.2).2.1 i = some (b, u) from hln]; rfl)) dX5_asked_147 ?_
              refine lv_iconst (v := 4) hx hb dX5_asked_148 (by decide) ?_
              refine lv_aload_n hx hb dX5_asked_149 rfl (lv_at hl 3 rfl) ?_
              refine qr_get (ci := 5) (C := RX5) (T := TX5) (N := 19) hx hb hts hin5 hown hK hW.self rfl 9 (by decide) (hts (.fieldLink RX5 31 "QuorumLockModel" "lentTime" "[I") (by decide +kernel)) rfl dX5_asked_150 ?_
              refine lv_iload_n hx hb dX5_asked_153 rfl (lv_at hl 4 rfl) ?_
              refine qr_iald (v := u) hx hb hK hW.a8 i (by omega) (by omega) rfl (by simp [q2]; exact (hRp.2.1 i hi).2 (b, u) hln) dX5_asked_154 ?_
              refine qc_v (va_runV (As := [.int (nI i), .int (nI b), .int 4, .int u]) (rest := []) ⟨hx, hb, hml, hown, hts⟩ (c_X5_send l dd ga n k ar (s_tb (s_send (s_rw σ i (q_ins (σ.2.2.1 i) a t)) i x9.1 6 x9.2) 6 i 1) hsq hL i b hi hb9 4 u (by have h9 := hcw i b hi hb9; have h8 := q_send_len (s_rw σ i (q_ins (σ.2.2.1 i) a t)) i x9.1 6 x9.2 i b; have h7 : ((s_rw σ i (q_ins (σ.2.2.1 i) a t)).2.2.2.1 i b).length = (σ.2.2.2.1 i b).length := rfl; show (((s_send (s_rw σ i (q_ins (σ.2.2.1 i) a t)) i x9.1 6 x9.2)).2.2.2.1 i b).length ≤ 8; omega)) (cwV 4 hts gX5_asked_X5_send rfl rfl rfl (by decide +kernel) ⟨Nat.le_of_ble_eq_true rfl, Nat.le_of_ble_eq_true rfl⟩) (qpreV hK (⟨_, hRp.stb 6 i 1 (by decide), hW⟩) hW.self rfl) rfl rfl hl.1 rfl (lv_room (Nat.le_of_ble_eq_true rfl)) dX5_asked_155 ⟨Nat.zero_le _, Nat.zero_le _⟩) hS (fun q h => h) (fun H locs hp9 hz9 ho9 hS => ?_)
              have hfin : qR dd ga n k ar (q_asked σ i a t) H := by rw [q_asked_yes1 hln hp0 hbf hr9 hpr, if_pos hi0, ← q_send_tb6]; exact hp9
              refine lv_goto (tgt := 170) hx hb dX5_asked_158 (by decide) ?_
              exact q_vret hx hb hr hlocks hS hfin dX5_asked_170
end
