section
-- ===== PART A: goes FIRST, ahead of the names: the tables' words, and 'selects' of the private methods out of them =====
/-- a private method of a class that the tables say can be made, by its rows of tables_1 -/
def lw_okq (q : MethodName × Nat) : Prop := (q.1.cls ≠ "java/lang/invoke/MethodHandle" ∧ q.1.cls ≠ "java/lang/invoke/VarHandle") ∧ Cond.instantiable q.1.cls q.2 ∈ tables_1 ∧ Cond.privateMethod q.1 ∈ tables_1 ∧ Cond.instanceMethod q.1 ∈ tables_1
theorem lw_p0 : lw_okq (⟨"MemoryMap$Regions", "overlap", "(II)Z"⟩, 4) := ⟨⟨by decide +kernel, by decide +kernel⟩, List.mem_of_getElem? (i := 29) (by decide +kernel), List.mem_of_getElem? (i := 178) (by decide +kernel), List.mem_of_getElem? (i := 179) (by decide +kernel)⟩
theorem lw_p1 : lw_okq (⟨"MemoryMap$Regions", "add", "(III)I"⟩, 4) := ⟨⟨by decide +kernel, by decide +kernel⟩, List.mem_of_getElem? (i := 29) (by decide +kernel), List.mem_of_getElem? (i := 182) (by decide +kernel), List.mem_of_getElem? (i := 183) (by decide +kernel)⟩
theorem lw_p2 : lw_okq (⟨"MemoryMap$Taken", "clear", "()V"⟩, 3) := ⟨⟨by decide +kernel, by decide +kernel⟩, List.mem_of_getElem? (i := 79) (by decide +kernel), List.mem_of_getElem? (i := 190) (by decide +kernel), List.mem_of_getElem? (i := 191) (by decide +kernel)⟩
theorem lw_p3 : lw_okq (⟨"MemoryMap", "takeSpaceFor", "(I)I"⟩, 9) := ⟨⟨by decide +kernel, by decide +kernel⟩, List.mem_of_getElem? (i := 21) (by decide +kernel), List.mem_of_getElem? (i := 194) (by decide +kernel), List.mem_of_getElem? (i := 195) (by decide +kernel)⟩
theorem lw_p4 : lw_okq (⟨"MemoryMap$Regions", "allow", "(II)Z"⟩, 4) := ⟨⟨by decide +kernel, by decide +kernel⟩, List.mem_of_getElem? (i := 29) (by decide +kernel), List.mem_of_getElem? (i := 198) (by decide +kernel), List.mem_of_getElem? (i := 199) (by decide +kernel)⟩
theorem lw_p5 : lw_okq (⟨"MemoryMap$Taken", "leastFree", "(III)I"⟩, 3) := ⟨⟨by decide +kernel, by decide +kernel⟩, List.mem_of_getElem? (i := 79) (by decide +kernel), List.mem_of_getElem? (i := 202) (by decide +kernel), List.mem_of_getElem? (i := 203) (by decide +kernel)⟩
theorem lw_p6 : lw_okq (⟨"MemoryMap$Taken", "add", "(II)V"⟩, 3) := ⟨⟨by decide +kernel, by decide +kernel⟩, List.mem_of_getElem? (i := 79) (by decide +kernel), List.mem_of_getElem? (i := 209) (by decide +kernel), List.mem_of_getElem? (i := 210) (by decide +kernel)⟩
theorem lw_p7 : lw_okq (⟨"MemoryMap$Placements", "add", "([II)V"⟩, 5) := ⟨⟨by decide +kernel, by decide +kernel⟩, List.mem_of_getElem? (i := 95) (by decide +kernel), List.mem_of_getElem? (i := 213) (by decide +kernel), List.mem_of_getElem? (i := 214) (by decide +kernel)⟩
theorem lw_p8 : lw_okq (⟨"MemoryMap$Functions", "addCall", "(II)V"⟩, 3) := ⟨⟨by decide +kernel, by decide +kernel⟩, List.mem_of_getElem? (i := 122) (by decide +kernel), List.mem_of_getElem? (i := 232) (by decide +kernel), List.mem_of_getElem? (i := 233) (by decide +kernel)⟩
theorem lw_p9 : lw_okq (⟨"MemoryMap$Functions", "countCalls", "(I)I"⟩, 3) := ⟨⟨by decide +kernel, by decide +kernel⟩, List.mem_of_getElem? (i := 122) (by decide +kernel), List.mem_of_getElem? (i := 236) (by decide +kernel), List.mem_of_getElem? (i := 237) (by decide +kernel)⟩
theorem lw_p10 : lw_okq (⟨"MemoryMap$Functions", "depthFrom", "(I)I"⟩, 3) := ⟨⟨by decide +kernel, by decide +kernel⟩, List.mem_of_getElem? (i := 122) (by decide +kernel), List.mem_of_getElem? (i := 251) (by decide +kernel), List.mem_of_getElem? (i := 252) (by decide +kernel)⟩
theorem lw_p11 : lw_okq (⟨"MemoryMap$Functions", "settleMore", "(I)I"⟩, 3) := ⟨⟨by decide +kernel, by decide +kernel⟩, List.mem_of_getElem? (i := 122) (by decide +kernel), List.mem_of_getElem? (i := 258) (by decide +kernel), List.mem_of_getElem? (i := 259) (by decide +kernel)⟩
theorem lw_p12 : lw_okq (⟨"MemoryMap$Functions", "deepestCalled", "(I)I"⟩, 3) := ⟨⟨by decide +kernel, by decide +kernel⟩, List.mem_of_getElem? (i := 122) (by decide +kernel), List.mem_of_getElem? (i := 262) (by decide +kernel), List.mem_of_getElem? (i := 263) (by decide +kernel)⟩
theorem lw_p13 : lw_okq (⟨"MemoryMap", "blockNumbered", "(I)LMemoryMap$Block;"⟩, 9) := ⟨⟨by decide +kernel, by decide +kernel⟩, List.mem_of_getElem? (i := 21) (by decide +kernel), List.mem_of_getElem? (i := 313) (by decide +kernel), List.mem_of_getElem? (i := 314) (by decide +kernel)⟩
theorem lw_p14 : lw_okq (⟨"MemoryMap$Block", "hasOctet", "(I)Z"⟩, 3) := ⟨⟨by decide +kernel, by decide +kernel⟩, List.mem_of_getElem? (i := 273) (by decide +kernel), List.mem_of_getElem? (i := 317) (by decide +kernel), List.mem_of_getElem? (i := 318) (by decide +kernel)⟩
theorem lw_p15 : lw_okq (⟨"MemoryMap$Copy", "setOctet", "(IB)V"⟩, 2) := ⟨⟨by decide +kernel, by decide +kernel⟩, List.mem_of_getElem? (i := 279) (by decide +kernel), List.mem_of_getElem? (i := 322) (by decide +kernel), List.mem_of_getElem? (i := 323) (by decide +kernel)⟩
def lw_privs_1 : List (MethodName × Nat) := [(⟨"MemoryMap$Regions", "overlap", "(II)Z"⟩, 4), (⟨"MemoryMap$Regions", "add", "(III)I"⟩, 4), (⟨"MemoryMap$Taken", "clear", "()V"⟩, 3), (⟨"MemoryMap", "takeSpaceFor", "(I)I"⟩, 9), (⟨"MemoryMap$Regions", "allow", "(II)Z"⟩, 4), (⟨"MemoryMap$Taken", "leastFree", "(III)I"⟩, 3), (⟨"MemoryMap$Taken", "add", "(II)V"⟩, 3), (⟨"MemoryMap$Placements", "add", "([II)V"⟩, 5), (⟨"MemoryMap$Functions", "addCall", "(II)V"⟩, 3), (⟨"MemoryMap$Functions", "countCalls", "(I)I"⟩, 3), (⟨"MemoryMap$Functions", "depthFrom", "(I)I"⟩, 3), (⟨"MemoryMap$Functions", "settleMore", "(I)I"⟩, 3), (⟨"MemoryMap$Functions", "deepestCalled", "(I)I"⟩, 3), (⟨"MemoryMap", "blockNumbered", "(I)LMemoryMap$Block;"⟩, 9), (⟨"MemoryMap$Block", "hasOctet", "(I)Z"⟩, 3), (⟨"MemoryMap$Copy", "setOctet", "(IB)V"⟩, 2)]
theorem lw_r1 : ∀ q ∈ lw_privs_1, lw_okq q := List.forall_mem_cons.mpr ⟨lw_p0, List.forall_mem_cons.mpr ⟨lw_p1, List.forall_mem_cons.mpr ⟨lw_p2, List.forall_mem_cons.mpr ⟨lw_p3, List.forall_mem_cons.mpr ⟨lw_p4, List.forall_mem_cons.mpr ⟨lw_p5, List.forall_mem_cons.mpr ⟨lw_p6, List.forall_mem_cons.mpr ⟨lw_p7, List.forall_mem_cons.mpr ⟨lw_p8, List.forall_mem_cons.mpr ⟨lw_p9, List.forall_mem_cons.mpr ⟨lw_p10, List.forall_mem_cons.mpr ⟨lw_p11, List.forall_mem_cons.mpr ⟨lw_p12, List.forall_mem_cons.mpr ⟨lw_p13, List.forall_mem_cons.mpr ⟨lw_p14, List.forall_mem_cons.mpr ⟨lw_p15, fun _ h => absurd h List.not_mem_nil⟩⟩⟩⟩⟩⟩⟩⟩⟩⟩⟩⟩⟩⟩⟩⟩
theorem lw_p16 : lw_okq (⟨"MemoryMap$Copy", "flip", "(II)I"⟩, 2) := ⟨⟨by decide +kernel, by decide +kernel⟩, List.mem_of_getElem? (i := 279) (by decide +kernel), List.mem_of_getElem? (i := 331) (by decide +kernel), List.mem_of_getElem? (i := 332) (by decide +kernel)⟩
theorem lw_p17 : lw_okq (⟨"MemoryMap$Block", "repair", "()I"⟩, 3) := ⟨⟨by decide +kernel, by decide +kernel⟩, List.mem_of_getElem? (i := 273) (by decide +kernel), List.mem_of_getElem? (i := 339) (by decide +kernel), List.mem_of_getElem? (i := 340) (by decide +kernel)⟩
theorem lw_p18 : lw_okq (⟨"MemoryMap$Copy", "isGood", "()Z"⟩, 2) := ⟨⟨by decide +kernel, by decide +kernel⟩, List.mem_of_getElem? (i := 279) (by decide +kernel), List.mem_of_getElem? (i := 343) (by decide +kernel), List.mem_of_getElem? (i := 344) (by decide +kernel)⟩
theorem lw_p19 : lw_okq (⟨"MemoryMap$Copy", "become", "(LMemoryMap$Copy;)V"⟩, 2) := ⟨⟨by decide +kernel, by decide +kernel⟩, List.mem_of_getElem? (i := 279) (by decide +kernel), List.mem_of_getElem? (i := 347) (by decide +kernel), List.mem_of_getElem? (i := 348) (by decide +kernel)⟩
theorem lw_p20 : lw_okq (⟨"MemoryMap$Copy", "clear", "()V"⟩, 2) := ⟨⟨by decide +kernel, by decide +kernel⟩, List.mem_of_getElem? (i := 279) (by decide +kernel), List.mem_of_getElem? (i := 352) (by decide +kernel), List.mem_of_getElem? (i := 353) (by decide +kernel)⟩
theorem lw_p21 : lw_okq (⟨"MemoryMap$Placements", "countMovedSince", "(I)I"⟩, 5) := ⟨⟨by decide +kernel, by decide +kernel⟩, List.mem_of_getElem? (i := 95) (by decide +kernel), List.mem_of_getElem? (i := 363) (by decide +kernel), List.mem_of_getElem? (i := 364) (by decide +kernel)⟩
theorem lw_p22 : lw_okq (⟨"java/lang/Throwable", "fillInStackTrace", "(I)Ljava/lang/Throwable;"⟩, 6) := ⟨⟨by decide +kernel, by decide +kernel⟩, List.mem_of_getElem? (i := 415) (by decide +kernel), List.mem_of_getElem? (i := 413) (by decide +kernel), List.mem_of_getElem? (i := 414) (by decide +kernel)⟩
theorem lw_p23 : lw_okq (⟨"MemoryMap$Sections", "add", "(III)I"⟩, 5) := ⟨⟨by decide +kernel, by decide +kernel⟩, List.mem_of_getElem? (i := 52) (by decide +kernel), List.mem_of_getElem? (i := 444) (by decide +kernel), List.mem_of_getElem? (i := 445) (by decide +kernel)⟩
theorem lw_p24 : lw_okq (⟨"MemoryMap$Sections", "enterInOrder", "(I)V"⟩, 5) := ⟨⟨by decide +kernel, by decide +kernel⟩, List.mem_of_getElem? (i := 52) (by decide +kernel), List.mem_of_getElem? (i := 448) (by decide +kernel), List.mem_of_getElem? (i := 449) (by decide +kernel)⟩
theorem lw_p25 : lw_okq (⟨"MemoryMapModel", "next", "(I)I"⟩, 25) := ⟨⟨by decide +kernel, by decide +kernel⟩, List.mem_of_getElem? (i := 481) (by decide +kernel), List.mem_of_getElem? (i := 583) (by decide +kernel), List.mem_of_getElem? (i := 584) (by decide +kernel)⟩
theorem lw_p26 : lw_okq (⟨"MemoryMapModel", "isBefore", "(II)Z"⟩, 25) := ⟨⟨by decide +kernel, by decide +kernel⟩, List.mem_of_getElem? (i := 481) (by decide +kernel), List.mem_of_getElem? (i := 587) (by decide +kernel), List.mem_of_getElem? (i := 588) (by decide +kernel)⟩
theorem lw_p27 : lw_okq (⟨"MemoryMapModel", "findAny", "(I)I"⟩, 25) := ⟨⟨by decide +kernel, by decide +kernel⟩, List.mem_of_getElem? (i := 481) (by decide +kernel), List.mem_of_getElem? (i := 591) (by decide +kernel), List.mem_of_getElem? (i := 592) (by decide +kernel)⟩
theorem lw_p28 : lw_okq (⟨"MemoryMapModel", "find", "(II)I"⟩, 25) := ⟨⟨by decide +kernel, by decide +kernel⟩, List.mem_of_getElem? (i := 481) (by decide +kernel), List.mem_of_getElem? (i := 595) (by decide +kernel), List.mem_of_getElem? (i := 596) (by decide +kernel)⟩
theorem lw_p29 : lw_okq (⟨"MemoryMapModel", "reckon", "(I)J"⟩, 25) := ⟨⟨by decide +kernel, by decide +kernel⟩, List.mem_of_getElem? (i := 481) (by decide +kernel), List.mem_of_getElem? (i := 626) (by decide +kernel), List.mem_of_getElem? (i := 627) (by decide +kernel)⟩
theorem lw_p30 : lw_okq (⟨"MemoryMapModel", "sum", "(II)I"⟩, 25) := ⟨⟨by decide +kernel, by decide +kernel⟩, List.mem_of_getElem? (i := 481) (by decide +kernel), List.mem_of_getElem? (i := 635) (by decide +kernel), List.mem_of_getElem? (i := 636) (by decide +kernel)⟩
theorem lw_p31 : lw_okq (⟨"MemoryMapModel", "noBlock", "(I)Z"⟩, 25) := ⟨⟨by decide +kernel, by decide +kernel⟩, List.mem_of_getElem? (i := 481) (by decide +kernel), List.mem_of_getElem? (i := 647) (by decide +kernel), List.mem_of_getElem? (i := 648) (by decide +kernel)⟩
def lw_privs_2 : List (MethodName × Nat) := [(⟨"MemoryMap$Copy", "flip", "(II)I"⟩, 2), (⟨"MemoryMap$Block", "repair", "()I"⟩, 3), (⟨"MemoryMap$Copy", "isGood", "()Z"⟩, 2), (⟨"MemoryMap$Copy", "become", "(LMemoryMap$Copy;)V"⟩, 2), (⟨"MemoryMap$Copy", "clear", "()V"⟩, 2), (⟨"MemoryMap$Placements", "countMovedSince", "(I)I"⟩, 5), (⟨"java/lang/Throwable", "fillInStackTrace", "(I)Ljava/lang/Throwable;"⟩, 6), (⟨"MemoryMap$Sections", "add", "(III)I"⟩, 5), (⟨"MemoryMap$Sections", "enterInOrder", "(I)V"⟩, 5), (⟨"MemoryMapModel", "next", "(I)I"⟩, 25), (⟨"MemoryMapModel", "isBefore", "(II)Z"⟩, 25), (⟨"MemoryMapModel", "findAny", "(I)I"⟩, 25), (⟨"MemoryMapModel", "find", "(II)I"⟩, 25), (⟨"MemoryMapModel", "reckon", "(I)J"⟩, 25), (⟨"MemoryMapModel", "sum", "(II)I"⟩, 25), (⟨"MemoryMapModel", "noBlock", "(I)Z"⟩, 25)]
theorem lw_r2 : ∀ q ∈ lw_privs_2, lw_okq q := List.forall_mem_cons.mpr ⟨lw_p16, List.forall_mem_cons.mpr ⟨lw_p17, List.forall_mem_cons.mpr ⟨lw_p18, List.forall_mem_cons.mpr ⟨lw_p19, List.forall_mem_cons.mpr ⟨lw_p20, List.forall_mem_cons.mpr ⟨lw_p21, List.forall_mem_cons.mpr ⟨lw_p22, List.forall_mem_cons.mpr ⟨lw_p23, List.forall_mem_cons.mpr ⟨lw_p24, List.forall_mem_cons.mpr ⟨lw_p25, List.forall_mem_cons.mpr ⟨lw_p26, List.forall_mem_cons.mpr ⟨lw_p27, List.forall_mem_cons.mpr ⟨lw_p28, List.forall_mem_cons.mpr ⟨lw_p29, List.forall_mem_cons.mpr ⟨lw_p30, List.forall_mem_cons.mpr ⟨lw_p31, fun _ h => absurd h List.not_mem_nil⟩⟩⟩⟩⟩⟩⟩⟩⟩⟩⟩⟩⟩⟩⟩⟩
def lw_privs : List (MethodName × Nat) := lw_privs_1 ++ (lw_privs_2)
def lw_tbl : List Cond := k2_sels lw_privs ++ tables_1
theorem lw_privs_ok : ∀ q ∈ lw_privs, lw_okq q := by
  show ∀ q ∈ lw_privs_1 ++ (lw_privs_2), lw_okq q
  exact List.forall_mem_append.mpr ⟨lw_r1, lw_r2⟩
end
section
/-! ===== BEGIN words of one list among another's, by their places ===== -/
theorem goodIn_r {big : List Cond} (ws : List Cond) (ps : List Nat) (hp : ws = ps.filterMap (fun i => big[i]?)) (h : ws.all goodWord = true) : GoodIn big ws := by
  intro w hw
  have h1 := List.all_eq_true.mp h w hw
  rw [hp] at hw
  obtain ⟨i, -, hi⟩ := List.mem_filterMap.mp hw
  have hm : w ∈ big := by first | exact List.mem_of_getElem? hi | exact List.getElem?_mem hi
  exact ⟨hm, good_of_word h1⟩
theorem goodIn_app {big a b : List Cond} (ha : GoodIn big a) (hb : GoodIn big b) : GoodIn big (a ++ b) := fun w h => (List.mem_append.mp h).elim (ha w) (hb w)
theorem goodIn_ca {big a b : List Cond} {c : Cond} (ha : GoodIn big (c :: a)) (hb : GoodIn big b) : GoodIn big (c :: (a ++ b)) := fun w h => (List.mem_cons.mp h).elim (fun e => ha w (List.mem_cons.mpr (Or.inl e))) (fun h => (List.mem_append.mp h).elim (fun h => ha w (List.mem_cons.mpr (Or.inr h))) (hb w))
theorem goodIn_sub {big ws : List Cond} (hm : ∀ w ∈ ws, w ∈ big) (h : ws.all goodWord = true) : GoodIn big ws := fun w hw => ⟨hm w hw, good_of_word (List.all_eq_true.mp h w hw)⟩
/-! ===== END ===== -/
def vx_no (w : Cond) : Bool := decide (w ≠ .isRef (.static Bundle.tN "UNASSIGNED_STACK" Bundle.steD)) && decide (w ≠ .isRef (.static Bundle.tN "SUPPRESSED_SENTINEL" Bundle.listD)) && decide (w ≠ .laysStatic Bundle.tN "UNASSIGNED_STACK" Bundle.steD) && decide (w ≠ .laysStatic Bundle.tN "SUPPRESSED_SENTINEL" Bundle.listD)
def vx_at0 (own : String) (ic : Nat) (X : String) (names : List String) : List Cond := (Bundle.ownAtoms0 own ic X names).filter vx_no
def vx_atS (own : String) (ic : Nat) (X : String) (names : List String) : List Cond := (Bundle.ownAtoms own ic X names).filter vx_no
end
section
/-! ===== BEGIN printed: names, fields, word lists, decode rows ===== -/
def RX0 : String := "MemoryMap$Block"
def TX0 : u_T := fun k => match k with
  | 0 => ("MemoryMap$Block", "length", "I", true)
  | 1 => ("MemoryMap$Block", "first", "LMemoryMap$Copy;", true)
  | _ => ("MemoryMap$Block", "second", "LMemoryMap$Copy;", true)
def tyX0 : Nat → FieldType := fun k => match k with
  | 0 => .int
  | 1 => .object "MemoryMap$Copy"
  | _ => .object "MemoryMap$Copy"
abbrev wsX00 : List Cond := u_ws RX0 TX0 3
theorem nmX0 : ∀ a, a < 3 → ∀ b, b < 3 → a ≠ b → (TX0 a).2.1 ≠ (TX0 b).2.1 := by decide +kernel
theorem tyX0_ok : ∀ k, k < 3 → parseFieldDescriptor (TX0 k).2.2.1 = some (tyX0 k) := by decide +kernel
abbrev cX0_init : ByteArray := prog_2_method_1_code
def yX0_init : MethodName := ⟨RX0, "<init>", "(I)V"⟩
abbrev cX0_hasOctet : ByteArray := prog_2_method_2_code
def yX0_hasOctet : MethodName := ⟨RX0, "hasOctet", "(I)Z"⟩
abbrev cX0_repair : ByteArray := prog_2_method_3_code
def yX0_repair : MethodName := ⟨RX0, "repair", "()I"⟩
def RX1 : String := "MemoryMap$Copy"
def TX1 : u_T := fun k => match k with
  | 0 => ("MemoryMap$Copy", "octets", "[B", true)
  | _ => ("MemoryMap$Copy", "sum", "I", false)
def tyX1 : Nat → FieldType := fun k => match k with
  | 0 => .array .byte
  | _ => .int
abbrev wsX10 : List Cond := u_ws RX1 TX1 2
theorem nmX1 : ∀ a, a < 2 → ∀ b, b < 2 → a ≠ b → (TX1 a).2.1 ≠ (TX1 b).2.1 := by decide +kernel
theorem tyX1_ok : ∀ k, k < 2 → parseFieldDescriptor (TX1 k).2.2.1 = some (tyX1 k) := by decide +kernel
abbrev cX1_init : ByteArray := prog_3_method_1_code
def yX1_init : MethodName := ⟨RX1, "<init>", "(I)V"⟩
abbrev cX1_isGood : ByteArray := prog_3_method_2_code
def yX1_isGood : MethodName := ⟨RX1, "isGood", "()Z"⟩
abbrev cX1_setOctet : ByteArray := prog_3_method_3_code
def yX1_setOctet : MethodName := ⟨RX1, "setOctet", "(IB)V"⟩
abbrev cX1_flip : ByteArray := prog_3_method_4_code
def yX1_flip : MethodName := ⟨RX1, "flip", "(II)I"⟩
abbrev cX1_become : ByteArray := prog_3_method_5_code
def yX1_become : MethodName := ⟨RX1, "become", "(LMemoryMap$Copy;)V"⟩
abbrev cX1_clear : ByteArray := prog_3_method_6_code
def yX1_clear : MethodName := ⟨RX1, "clear", "()V"⟩
abbrev cX1_sumOf : ByteArray := prog_3_method_7_code
def yX1_sumOf : MethodName := ⟨RX1, "sumOf", "([B)I"⟩
def RX2 : String := "MemoryMap$Functions"
def TX2 : u_T := fun k => match k with
  | 0 => ("MemoryMap$Functions", "stacks", "[I", true)
  | 1 => ("MemoryMap$Functions", "called", "[I", true)
  | _ => ("MemoryMap$Functions", "depths", "[I", true)
def tyX2 : Nat → FieldType := fun k => match k with
  | 0 => .array .int
  | 1 => .array .int
  | _ => .array .int
abbrev wsX20 : List Cond := u_ws RX2 TX2 3
theorem nmX2 : ∀ a, a < 3 → ∀ b, b < 3 → a ≠ b → (TX2 a).2.1 ≠ (TX2 b).2.1 := by decide +kernel
theorem tyX2_ok : ∀ k, k < 3 → parseFieldDescriptor (TX2 k).2.2.1 = some (tyX2 k) := by decide +kernel
abbrev cX2_init : ByteArray := prog_4_method_1_code
def yX2_init : MethodName := ⟨RX2, "<init>", "()V"⟩
abbrev cX2_addCall : ByteArray := prog_4_method_2_code
def yX2_addCall : MethodName := ⟨RX2, "addCall", "(II)V"⟩
abbrev cX2_countCalls : ByteArray := prog_4_method_3_code
def yX2_countCalls : MethodName := ⟨RX2, "countCalls", "(I)I"⟩
abbrev cX2_depthFrom : ByteArray := prog_4_method_4_code
def yX2_depthFrom : MethodName := ⟨RX2, "depthFrom", "(I)I"⟩
abbrev cX2_settleMore : ByteArray := prog_4_method_5_code
def yX2_settleMore : MethodName := ⟨RX2, "settleMore", "(I)I"⟩
abbrev cX2_deepestCalled : ByteArray := prog_4_method_6_code
def yX2_deepestCalled : MethodName := ⟨RX2, "deepestCalled", "(I)I"⟩
abbrev cX2_contains : ByteArray := prog_4_method_7_code
def yX2_contains : MethodName := ⟨RX2, "contains", "(II)Z"⟩
def RX3 : String := "MemoryMap$Placements"
def TX3 : u_T := fun k => match k with
  | 0 => ("MemoryMap$Placements", "last", "[I", true)
  | 1 => ("MemoryMap$Placements", "lastCount", "I", false)
  | 2 => ("MemoryMap$Placements", "kept", "[[I", true)
  | 3 => ("MemoryMap$Placements", "sectionCounts", "[I", true)
  | _ => ("MemoryMap$Placements", "keptCount", "I", false)
def tyX3 : Nat → FieldType := fun k => match k with
  | 0 => .array .int
  | 1 => .int
  | 2 => .array (.array .int)
  | 3 => .array .int
  | _ => .int
abbrev wsX30 : List Cond := u_ws RX3 TX3 5
theorem nmX3 : ∀ a, a < 5 → ∀ b, b < 5 → a ≠ b → (TX3 a).2.1 ≠ (TX3 b).2.1 := by decide +kernel
theorem tyX3_ok : ∀ k, k < 5 → parseFieldDescriptor (TX3 k).2.2.1 = some (tyX3 k) := by decide +kernel
abbrev cX3_init : ByteArray := prog_5_method_1_code
def yX3_init : MethodName := ⟨RX3, "<init>", "()V"⟩
abbrev cX3_add : ByteArray := prog_5_method_2_code
def yX3_add : MethodName := ⟨RX3, "add", "([II)V"⟩
abbrev cX3_countMovedSince : ByteArray := prog_5_method_3_code
def yX3_countMovedSince : MethodName := ⟨RX3, "countMovedSince", "(I)I"⟩
def RX4 : String := "MemoryMap$Regions"
def TX4 : u_T := fun k => match k with
  | 0 => ("MemoryMap$Regions", "starts", "[I", true)
  | 1 => ("MemoryMap$Regions", "ends", "[I", true)
  | 2 => ("MemoryMap$Regions", "rights", "[I", true)
  | _ => ("MemoryMap$Regions", "count", "I", false)
def tyX4 : Nat → FieldType := fun k => match k with
  | 0 => .array .int
  | 1 => .array .int
  | 2 => .array .int
  | _ => .int
abbrev wsX40 : List Cond := u_ws RX4 TX4 4
theorem nmX4 : ∀ a, a < 4 → ∀ b, b < 4 → a ≠ b → (TX4 a).2.1 ≠ (TX4 b).2.1 := by decide +kernel
theorem tyX4_ok : ∀ k, k < 4 → parseFieldDescriptor (TX4 k).2.2.1 = some (tyX4 k) := by decide +kernel
abbrev cX4_init : ByteArray := prog_6_method_1_code
def yX4_init : MethodName := ⟨RX4, "<init>", "()V"⟩
abbrev cX4_overlap : ByteArray := prog_6_method_2_code
def yX4_overlap : MethodName := ⟨RX4, "overlap", "(II)Z"⟩
abbrev cX4_allow : ByteArray := prog_6_method_3_code
def yX4_allow : MethodName := ⟨RX4, "allow", "(II)Z"⟩
abbrev cX4_add : ByteArray := prog_6_method_4_code
def yX4_add : MethodName := ⟨RX4, "add", "(III)I"⟩
def RX5 : String := "MemoryMap$Sections"
def TX5 : u_T := fun k => match k with
  | 0 => ("MemoryMap$Sections", "lengths", "[I", true)
  | 1 => ("MemoryMap$Sections", "aligns", "[I", true)
  | 2 => ("MemoryMap$Sections", "kinds", "[I", true)
  | 3 => ("MemoryMap$Sections", "greatestFirst", "[I", true)
  | _ => ("MemoryMap$Sections", "count", "I", false)
def tyX5 : Nat → FieldType := fun k => match k with
  | 0 => .array .int
  | 1 => .array .int
  | 2 => .array .int
  | 3 => .array .int
  | _ => .int
abbrev wsX50 : List Cond := u_ws RX5 TX5 5
theorem nmX5 : ∀ a, a < 5 → ∀ b, b < 5 → a ≠ b → (TX5 a).2.1 ≠ (TX5 b).2.1 := by decide +kernel
theorem tyX5_ok : ∀ k, k < 5 → parseFieldDescriptor (TX5 k).2.2.1 = some (tyX5 k) := by decide +kernel
abbrev cX5_init : ByteArray := prog_7_method_1_code
def yX5_init : MethodName := ⟨RX5, "<init>", "()V"⟩
abbrev cX5_add : ByteArray := prog_7_method_2_code
def yX5_add : MethodName := ⟨RX5, "add", "(III)I"⟩
abbrev cX5_enterInOrder : ByteArray := prog_7_method_3_code
def yX5_enterInOrder : MethodName := ⟨RX5, "enterInOrder", "(I)V"⟩
def RX6 : String := "MemoryMap$Taken"
def TX6 : u_T := fun k => match k with
  | 0 => ("MemoryMap$Taken", "starts", "[I", true)
  | 1 => ("MemoryMap$Taken", "ends", "[I", true)
  | _ => ("MemoryMap$Taken", "count", "I", false)
def tyX6 : Nat → FieldType := fun k => match k with
  | 0 => .array .int
  | 1 => .array .int
  | _ => .int
abbrev wsX60 : List Cond := u_ws RX6 TX6 3
theorem nmX6 : ∀ a, a < 3 → ∀ b, b < 3 → a ≠ b → (TX6 a).2.1 ≠ (TX6 b).2.1 := by decide +kernel
theorem tyX6_ok : ∀ k, k < 3 → parseFieldDescriptor (TX6 k).2.2.1 = some (tyX6 k) := by decide +kernel
abbrev cX6_init : ByteArray := prog_8_method_1_code
def yX6_init : MethodName := ⟨RX6, "<init>", "()V"⟩
abbrev cX6_clear : ByteArray := prog_8_method_2_code
def yX6_clear : MethodName := ⟨RX6, "clear", "()V"⟩
abbrev cX6_leastFree : ByteArray := prog_8_method_3_code
def yX6_leastFree : MethodName := ⟨RX6, "leastFree", "(III)I"⟩
abbrev cX6_add : ByteArray := prog_8_method_4_code
def yX6_add : MethodName := ⟨RX6, "add", "(II)V"⟩
abbrev cX6_alignedUp : ByteArray := prog_8_method_5_code
def yX6_alignedUp : MethodName := ⟨RX6, "alignedUp", "(II)I"⟩
def RX7 : String := "MemoryMap"
def TX7 : u_T := fun k => match k with
  | 0 => ("MemoryMap", "size", "I", true)
  | 1 => ("MemoryMap", "regions", "LMemoryMap$Regions;", true)
  | 2 => ("MemoryMap", "sections", "LMemoryMap$Sections;", true)
  | 3 => ("MemoryMap", "taken", "LMemoryMap$Taken;", true)
  | 4 => ("MemoryMap", "trial", "[I", true)
  | 5 => ("MemoryMap", "placements", "LMemoryMap$Placements;", true)
  | 6 => ("MemoryMap", "functions", "LMemoryMap$Functions;", true)
  | 7 => ("MemoryMap", "blocks", "[LMemoryMap$Block;", true)
  | _ => ("MemoryMap", "blockCount", "I", false)
def tyX7 : Nat → FieldType := fun k => match k with
  | 0 => .int
  | 1 => .object "MemoryMap$Regions"
  | 2 => .object "MemoryMap$Sections"
  | 3 => .object "MemoryMap$Taken"
  | 4 => .array .int
  | 5 => .object "MemoryMap$Placements"
  | 6 => .object "MemoryMap$Functions"
  | 7 => .array (.object "MemoryMap$Block")
  | _ => .int
abbrev wsX70 : List Cond := u_ws RX7 TX7 9
theorem nmX7 : ∀ a, a < 9 → ∀ b, b < 9 → a ≠ b → (TX7 a).2.1 ≠ (TX7 b).2.1 := by decide +kernel
theorem tyX7_ok : ∀ k, k < 9 → parseFieldDescriptor (TX7 k).2.2.1 = some (tyX7 k) := by decide +kernel
abbrev cX7_init : ByteArray := prog_1_method_1_code
def yX7_init : MethodName := ⟨RX7, "<init>", "(J)V"⟩
abbrev cX7_region : ByteArray := prog_1_method_2_code
def yX7_region : MethodName := ⟨RX7, "region", "(JJI)I"⟩
abbrev cX7_section : ByteArray := prog_1_method_3_code
def yX7_section : MethodName := ⟨RX7, "section", "(JJI)I"⟩
abbrev cX7_place : ByteArray := prog_1_method_4_code
def yX7_place : MethodName := ⟨RX7, "place", "()I"⟩
abbrev cX7_at : ByteArray := prog_1_method_5_code
def yX7_at : MethodName := ⟨RX7, "at", "(I)J"⟩
abbrev cX7_call : ByteArray := prog_1_method_6_code
def yX7_call : MethodName := ⟨RX7, "call", "(IIJ)I"⟩
abbrev cX7_depth : ByteArray := prog_1_method_7_code
def yX7_depth : MethodName := ⟨RX7, "depth", "(I)J"⟩
abbrev cX7_block : ByteArray := prog_1_method_8_code
def yX7_block : MethodName := ⟨RX7, "block", "(J)I"⟩
abbrev cX7_write : ByteArray := prog_1_method_9_code
def yX7_write : MethodName := ⟨RX7, "write", "(IIB)I"⟩
abbrev cX7_poke : ByteArray := prog_1_method_10_code
def yX7_poke : MethodName := ⟨RX7, "poke", "(IIII)I"⟩
abbrev cX7_read : ByteArray := prog_1_method_11_code
def yX7_read : MethodName := ⟨RX7, "read", "(I)I"⟩
abbrev cX7_cell : ByteArray := prog_1_method_12_code
def yX7_cell : MethodName := ⟨RX7, "cell", "(J)B"⟩
abbrev cX7_moved : ByteArray := prog_1_method_13_code
def yX7_moved : MethodName := ⟨RX7, "moved", "(I)I"⟩
abbrev cX7_takeSpaceFor : ByteArray := prog_1_method_14_code
def yX7_takeSpaceFor : MethodName := ⟨RX7, "takeSpaceFor", "(I)I"⟩
abbrev cX7_blockNumbered : ByteArray := prog_1_method_15_code
def yX7_blockNumbered : MethodName := ⟨RX7, "blockNumbered", "(I)LMemoryMap$Block;"⟩
abbrev cX7_isWithin : ByteArray := prog_1_method_16_code
def yX7_isWithin : MethodName := ⟨RX7, "isWithin", "(JJJ)Z"⟩
def RX8 : String := "MemoryMapModel"
def TX8 : u_T := fun k => match k with
  | 0 => ("MemoryMapModel", "thrown", "I", false)
  | 1 => ("MemoryMapModel", "size", "I", false)
  | 2 => ("MemoryMapModel", "froms", "[I", true)
  | 3 => ("MemoryMapModel", "ends", "[I", true)
  | 4 => ("MemoryMapModel", "rights", "[I", true)
  | 5 => ("MemoryMapModel", "regions", "I", false)
  | 6 => ("MemoryMapModel", "lengths", "[I", true)
  | 7 => ("MemoryMapModel", "aligns", "[I", true)
  | 8 => ("MemoryMapModel", "kinds", "[I", true)
  | 9 => ("MemoryMapModel", "sections", "I", false)
  | 10 => ("MemoryMapModel", "taken", "[B", true)
  | 11 => ("MemoryMapModel", "cells", "[B", true)
  | 12 => ("MemoryMapModel", "places", "[I", true)
  | 13 => ("MemoryMapModel", "trial", "[I", true)
  | 14 => ("MemoryMapModel", "placed", "I", false)
  | 15 => ("MemoryMapModel", "placements", "I", false)
  | 16 => ("MemoryMapModel", "kept", "[I", true)
  | 17 => ("MemoryMapModel", "keptMany", "[I", true)
  | 18 => ("MemoryMapModel", "stacks", "[J", true)
  | 19 => ("MemoryMapModel", "calls", "[Z", true)
  | 20 => ("MemoryMapModel", "depths", "[J", true)
  | 21 => ("MemoryMapModel", "octets", "[I", true)
  | 22 => ("MemoryMapModel", "copies", "[B", true)
  | 23 => ("MemoryMapModel", "sums", "[I", true)
  | _ => ("MemoryMapModel", "blocks", "I", false)
def tyX8 : Nat → FieldType := fun k => match k with
  | 0 => .int
  | 1 => .int
  | 2 => .array .int
  | 3 => .array .int
  | 4 => .array .int
  | 5 => .int
  | 6 => .array .int
  | 7 => .array .int
  | 8 => .array .int
  | 9 => .int
  | 10 => .array .byte
  | 11 => .array .byte
  | 12 => .array .int
  | 13 => .array .int
  | 14 => .int
  | 15 => .int
  | 16 => .array .int
  | 17 => .array .int
  | 18 => .array .long
  | 19 => .array .boolean
  | 20 => .array .long
  | 21 => .array .int
  | 22 => .array .byte
  | 23 => .array .int
  | _ => .int
abbrev wsX80 : List Cond := u_ws RX8 TX8 25
theorem nmX8 : ∀ a, a < 25 → ∀ b, b < 25 → a ≠ b → (TX8 a).2.1 ≠ (TX8 b).2.1 := by decide +kernel
theorem tyX8_ok : ∀ k, k < 25 → parseFieldDescriptor (TX8 k).2.2.1 = some (tyX8 k) := by decide +kernel
abbrev cX8_init : ByteArray := prog_10_method_1_code
def yX8_init : MethodName := ⟨RX8, "<init>", "(J)V"⟩
abbrev cX8_thrown : ByteArray := prog_10_method_2_code
def yX8_thrown : MethodName := ⟨RX8, "thrown", "()I"⟩
abbrev cX8_region : ByteArray := prog_10_method_3_code
def yX8_region : MethodName := ⟨RX8, "region", "(JJI)I"⟩
abbrev cX8_section : ByteArray := prog_10_method_4_code
def yX8_section : MethodName := ⟨RX8, "section", "(JJI)I"⟩
abbrev cX8_isBefore : ByteArray := prog_10_method_5_code
def yX8_isBefore : MethodName := ⟨RX8, "isBefore", "(II)Z"⟩
abbrev cX8_next : ByteArray := prog_10_method_6_code
def yX8_next : MethodName := ⟨RX8, "next", "(I)I"⟩
abbrev cX8_up : ByteArray := prog_10_method_7_code
def yX8_up : MethodName := ⟨RX8, "up", "(II)I"⟩
abbrev cX8_find : ByteArray := prog_10_method_8_code
def yX8_find : MethodName := ⟨RX8, "find", "(II)I"⟩
abbrev cX8_findAny : ByteArray := prog_10_method_9_code
def yX8_findAny : MethodName := ⟨RX8, "findAny", "(I)I"⟩
abbrev cX8_place : ByteArray := prog_10_method_10_code
def yX8_place : MethodName := ⟨RX8, "place", "()I"⟩
abbrev cX8_at : ByteArray := prog_10_method_11_code
def yX8_at : MethodName := ⟨RX8, "at", "(I)J"⟩
abbrev cX8_cell : ByteArray := prog_10_method_12_code
def yX8_cell : MethodName := ⟨RX8, "cell", "(J)B"⟩
abbrev cX8_moved : ByteArray := prog_10_method_13_code
def yX8_moved : MethodName := ⟨RX8, "moved", "(I)I"⟩
abbrev cX8_call : ByteArray := prog_10_method_14_code
def yX8_call : MethodName := ⟨RX8, "call", "(IIJ)I"⟩
abbrev cX8_reckon : ByteArray := prog_10_method_15_code
def yX8_reckon : MethodName := ⟨RX8, "reckon", "(I)J"⟩
abbrev cX8_depth : ByteArray := prog_10_method_16_code
def yX8_depth : MethodName := ⟨RX8, "depth", "(I)J"⟩
abbrev cX8_block : ByteArray := prog_10_method_17_code
def yX8_block : MethodName := ⟨RX8, "block", "(J)I"⟩
abbrev cX8_cell_ : ByteArray := prog_10_method_18_code
def yX8_cell_ : MethodName := ⟨RX8, "cell", "(III)I"⟩
abbrev cX8_sum : ByteArray := prog_10_method_19_code
def yX8_sum : MethodName := ⟨RX8, "sum", "(II)I"⟩
abbrev cX8_noBlock : ByteArray := prog_10_method_20_code
def yX8_noBlock : MethodName := ⟨RX8, "noBlock", "(I)Z"⟩
abbrev cX8_write : ByteArray := prog_10_method_21_code
def yX8_write : MethodName := ⟨RX8, "write", "(IIB)I"⟩
abbrev cX8_poke : ByteArray := prog_10_method_22_code
def yX8_poke : MethodName := ⟨RX8, "poke", "(IIII)I"⟩
abbrev cX8_read : ByteArray := prog_10_method_23_code
def yX8_read : MethodName := ⟨RX8, "read", "(I)I"⟩
def RJx00060 : String := "java/lang/ArrayIndexOutOfBoundsException"
def TJx00060 : u_T := fun k => match k with
  | 0 => ("java/lang/Throwable", "cause", "Ljava/lang/Throwable;", false)
  | 1 => ("java/lang/Throwable", "stackTrace", "[Ljava/lang/StackTraceElement;", false)
  | 2 => ("java/lang/Throwable", "suppressedExceptions", "Ljava/util/List;", false)
  | 3 => ("java/lang/Throwable", "detailMessage", "Ljava/lang/String;", false)
  | 4 => ("java/lang/Throwable", "backtrace", "Ljava/lang/Object;", false)
  | _ => ("java/lang/Throwable", "depth", "I", false)
def tyJx00060 : Nat → FieldType := fun k => match k with
  | 0 => .object "java/lang/Throwable"
  | 1 => .array (.object "java/lang/StackTraceElement")
  | 2 => .object "java/util/List"
  | 3 => .object "java/lang/String"
  | 4 => .object "java/lang/Object"
  | _ => .int
abbrev wsJx000600 : List Cond := u_ws RJx00060 TJx00060 6
theorem nmJx00060 : ∀ a, a < 6 → ∀ b, b < 6 → a ≠ b → (TJx00060 a).2.1 ≠ (TJx00060 b).2.1 := by decide +kernel
theorem tyJx00060_ok : ∀ k, k < 6 → parseFieldDescriptor (TJx00060 k).2.2.1 = some (tyJx00060 k) := by decide +kernel
abbrev cJx00060_init_a7421 : ByteArray := prog_12_method_2_code
def yJx00060_init_a7421 : MethodName := ⟨RJx00060, "<init>", "(Ljava/lang/String;)V"⟩
def RJ6 : String := "java/lang/Integer"
def TJ6 : u_T := fun k => match k with
  | _ => ("", "", "", false)
def tyJ6 : Nat → FieldType := fun k => match k with
  | _ => .int
abbrev wsJ60 : List Cond := u_ws RJ6 TJ6 0
theorem nmJ6 : ∀ a, a < 0 → ∀ b, b < 0 → a ≠ b → (TJ6 a).2.1 ≠ (TJ6 b).2.1 := by decide +kernel
theorem tyJ6_ok : ∀ k, k < 0 → parseFieldDescriptor (TJ6 k).2.2.1 = some (tyJ6 k) := by decide +kernel
abbrev cJ6_bitCount_0f7a4 : ByteArray := prog_15_method_49_code
def yJ6_bitCount_0f7a4 : MethodName := ⟨RJ6, "bitCount", "(I)I"⟩
def RJ9 : String := "java/lang/Math"
def TJ9 : u_T := fun k => match k with
  | _ => ("", "", "", false)
def tyJ9 : Nat → FieldType := fun k => match k with
  | _ => .int
abbrev wsJ90 : List Cond := u_ws RJ9 TJ9 0
theorem nmJ9 : ∀ a, a < 0 → ∀ b, b < 0 → a ≠ b → (TJ9 a).2.1 ≠ (TJ9 b).2.1 := by decide +kernel
theorem tyJ9_ok : ∀ k, k < 0 → parseFieldDescriptor (TJ9 k).2.2.1 = some (tyJ9 k) := by decide +kernel
abbrev cJ9_max_7cf53 : ByteArray := prog_16_method_65_code
def yJ9_max_7cf53 : MethodName := ⟨RJ9, "max", "(II)I"⟩
def RJ0 : String := "java/lang/String"
def TJ0 : u_T := fun k => match k with
  | _ => ("", "", "", false)
def tyJ0 : Nat → FieldType := fun k => match k with
  | _ => .int
abbrev wsJ00 : List Cond := u_ws RJ0 TJ0 0
theorem nmJ0 : ∀ a, a < 0 → ∀ b, b < 0 → a ≠ b → (TJ0 a).2.1 ≠ (TJ0 b).2.1 := by decide +kernel
theorem tyJ0_ok : ∀ k, k < 0 → parseFieldDescriptor (TJ0 k).2.2.1 = some (tyJ0 k) := by decide +kernel
def RJ10 : String := "java/lang/System"
def TJ10 : u_T := fun k => match k with
  | _ => ("", "", "", false)
def tyJ10 : Nat → FieldType := fun k => match k with
  | _ => .int
abbrev wsJ100 : List Cond := u_ws RJ10 TJ10 0
theorem nmJ10 : ∀ a, a < 0 → ∀ b, b < 0 → a ≠ b → (TJ10 a).2.1 ≠ (TJ10 b).2.1 := by decide +kernel
theorem tyJ10_ok : ∀ k, k < 0 → parseFieldDescriptor (TJ10 k).2.2.1 = some (tyJ10 k) := by decide +kernel
def RJ7 : String := "java/util/Arrays"
def TJ7 : u_T := fun k => match k with
  | _ => ("", "", "", false)
def tyJ7 : Nat → FieldType := fun k => match k with
  | _ => .int
abbrev wsJ70 : List Cond := u_ws RJ7 TJ7 0
theorem nmJ7 : ∀ a, a < 0 → ∀ b, b < 0 → a ≠ b → (TJ7 a).2.1 ≠ (TJ7 b).2.1 := by decide +kernel
theorem tyJ7_ok : ∀ k, k < 0 → parseFieldDescriptor (TJ7 k).2.2.1 = some (tyJ7 k) := by decide +kernel
abbrev cJ7_fill_031fb : ByteArray := prog_21_method_109_code
def yJ7_fill_031fb : MethodName := ⟨RJ7, "fill", "([BB)V"⟩
def RL : String := "MemoryMapLaw"
abbrev cL_cell : ByteArray := method_2_code
def yL_cell : MethodName := ⟨RL, "cell", "([II)I"⟩
abbrev cL_section : ByteArray := method_3_code
def yL_section : MethodName := ⟨RL, "section", "(LMemoryMap;JJI[J)I"⟩
abbrev cL_cell_ : ByteArray := method_4_code
def yL_cell_ : MethodName := ⟨RL, "cell", "(LMemoryMap;J[J)I"⟩
abbrev cL_law : ByteArray := code
def yL_law : MethodName := ⟨RL, "law", "([I)Z"⟩
def wsX1_sumOf : List Cond := .code yX1_sumOf cX1_sumOf 4 (some .int) :: ([.constant RX1 35 (-1028477379)])
def wsX1_init : List Cond := .code yX1_init cX1_init 2 none :: ([.methodLink RX1 3 objectInit, .instanceMethod objectInit, .code objectInit ⟨#[0xb1]⟩ 1 none, .arrayClass .byte, .fieldLink RX1 9 "MemoryMap$Copy" "octets" "[B", .fieldLink RX1 19 "MemoryMap$Copy" "sum" "I", .methodLink RX1 15 yX1_sumOf, .static yX1_sumOf, .initialized RX1, .code yX1_sumOf cX1_sumOf 4 (some .int), .constant RX1 35 (-1028477379)] ++ wsX10)
def wsX0_init : List Cond := .code yX0_init cX0_init 2 none :: ([.methodLink RX0 1 objectInit, .instanceMethod objectInit, .code objectInit ⟨#[0xb1]⟩ 1 none, .fieldLink RX0 7 "MemoryMap$Block" "length" "I", .classLink RX0 13 RX1, .instantiable RX1 2, .initialized RX1, .fieldLink RX0 18 "MemoryMap$Block" "first" "LMemoryMap$Copy;", .fieldLink RX0 22 "MemoryMap$Block" "second" "LMemoryMap$Copy;", .instanceMethod yX1_init, .code yX1_init cX1_init 2 none, .methodLink RX1 3 objectInit, .arrayClass .byte, .fieldLink RX1 9 "MemoryMap$Copy" "octets" "[B", .fieldLink RX1 19 "MemoryMap$Copy" "sum" "I", .methodLink RX1 15 yX1_sumOf, .static yX1_sumOf, .code yX1_sumOf cX1_sumOf 4 (some .int), .constant RX1 35 (-1028477379)] ++ wsX00 ++ wsX10)
def wsX7_isWithin : List Cond := .code yX7_isWithin cX7_isWithin 6 (some .boolean) :: ([])
def wsX0_hasOctet : List Cond := .code yX0_hasOctet cX0_hasOctet 2 (some .boolean) :: ([.fieldLink RX0 7 "MemoryMap$Block" "length" "I", .static yX7_isWithin, .initialized RX7, .code yX7_isWithin cX7_isWithin 6 (some .boolean)] ++ wsX00)
def wsX1_isGood : List Cond := .code yX1_isGood cX1_isGood 1 (some .boolean) :: ([.fieldLink RX1 19 "MemoryMap$Copy" "sum" "I", .fieldLink RX1 9 "MemoryMap$Copy" "octets" "[B", .methodLink RX1 15 yX1_sumOf, .static yX1_sumOf, .initialized RX1, .code yX1_sumOf cX1_sumOf 4 (some .int), .constant RX1 35 (-1028477379)] ++ wsX10)
def wsX1_become : List Cond := .code yX1_become cX1_become 2 none :: ([.fieldLink RX1 9 "MemoryMap$Copy" "octets" "[B", .methodLink RX1 23 arraycopyName, .native arraycopyName, .static arraycopyName, .initialized "java/lang/System", .fieldLink RX1 19 "MemoryMap$Copy" "sum" "I"] ++ wsX10)
def wsJ7_fill_031fb : List Cond := .code yJ7_fill_031fb cJ7_fill_031fb 4 none :: ([])
def wsX1_clear : List Cond := .code yX1_clear cX1_clear 1 none :: ([.fieldLink RX1 9 "MemoryMap$Copy" "octets" "[B", .fieldLink RX1 19 "MemoryMap$Copy" "sum" "I", .methodLink RX1 29 yJ7_fill_031fb, .static yJ7_fill_031fb, .initialized RJ7, .code yJ7_fill_031fb cJ7_fill_031fb 4 none, .methodLink RX1 15 yX1_sumOf, .static yX1_sumOf, .initialized RX1, .code yX1_sumOf cX1_sumOf 4 (some .int), .constant RX1 35 (-1028477379)] ++ wsX10)
def wsX0_repair_r1 : List Cond := [Cond.fieldLink RX0 18 "MemoryMap$Block" "first" "LMemoryMap$Copy;", Cond.fieldLink RX0 22 "MemoryMap$Block" "second" "LMemoryMap$Copy;", Cond.instanceMethod yX1_isGood, Cond.initialized RX1, Cond.selects RX1 yX1_isGood yX1_isGood, Cond.code yX1_isGood cX1_isGood 1 (some .boolean), Cond.fieldLink RX1 19 "MemoryMap$Copy" "sum" "I", Cond.fieldLink RX1 9 "MemoryMap$Copy" "octets" "[B", Cond.methodLink RX1 15 yX1_sumOf, Cond.static yX1_sumOf, Cond.code yX1_sumOf cX1_sumOf 4 (some .int), Cond.constant RX1 35 (-1028477379), Cond.instanceMethod yX1_become, Cond.selects RX1 yX1_become yX1_become, Cond.code yX1_become cX1_become 2 none, Cond.methodLink RX1 23 arraycopyName, Cond.native arraycopyName, Cond.static arraycopyName, Cond.initialized "java/lang/System", Cond.instanceMethod yX1_clear, Cond.selects RX1 yX1_clear yX1_clear, Cond.code yX1_clear cX1_clear 1 none, Cond.methodLink RX1 29 yJ7_fill_031fb, Cond.static yJ7_fill_031fb]
def wsX0_repair_r2 : List Cond := [Cond.initialized RJ7, Cond.code yJ7_fill_031fb cJ7_fill_031fb 4 none]
def wsX0_repair : List Cond := .code yX0_repair cX0_repair 1 (some .int) :: ((wsX0_repair_r1 ++ wsX0_repair_r2) ++ wsX00 ++ wsX10)
def wsX1_setOctet : List Cond := .code yX1_setOctet cX1_setOctet 3 none :: ([.fieldLink RX1 9 "MemoryMap$Copy" "octets" "[B", .fieldLink RX1 19 "MemoryMap$Copy" "sum" "I", .methodLink RX1 15 yX1_sumOf, .static yX1_sumOf, .initialized RX1, .code yX1_sumOf cX1_sumOf 4 (some .int), .constant RX1 35 (-1028477379)] ++ wsX10)
def wsX1_flip : List Cond := .code yX1_flip cX1_flip 3 (some .int) :: ([.fieldLink RX1 9 "MemoryMap$Copy" "octets" "[B"] ++ wsX10)
def wsX2_init : List Cond := .code yX2_init cX2_init 1 none :: ([.methodLink RX2 3 objectInit, .instanceMethod objectInit, .code objectInit ⟨#[0xb1]⟩ 1 none, .arrayClass .int, .fieldLink RX2 9 "MemoryMap$Functions" "stacks" "[I", .fieldLink RX2 15 "MemoryMap$Functions" "called" "[I", .fieldLink RX2 18 "MemoryMap$Functions" "depths" "[I"] ++ wsX20)
def wsX2_addCall : List Cond := .code yX2_addCall cX2_addCall 3 none :: ([.fieldLink RX2 15 "MemoryMap$Functions" "called" "[I"] ++ wsX20)
def wsJ6_bitCount_0f7a4 : List Cond := .code yJ6_bitCount_0f7a4 cJ6_bitCount_0f7a4 1 (some .int) :: ([.constant RJ6 265 (1431655765), .constant RJ6 266 (858993459), .constant RJ6 267 (252645135)])
def wsX2_countCalls : List Cond := .code yX2_countCalls cX2_countCalls 2 (some .int) :: ([.fieldLink RX2 15 "MemoryMap$Functions" "called" "[I", .methodLink RX2 21 yJ6_bitCount_0f7a4, .static yJ6_bitCount_0f7a4, .initialized RJ6, .code yJ6_bitCount_0f7a4 cJ6_bitCount_0f7a4 1 (some .int), .constant RJ6 265 (1431655765), .constant RJ6 266 (858993459), .constant RJ6 267 (252645135)] ++ wsX20)
def wsX2_contains : List Cond := .code yX2_contains cX2_contains 2 (some .boolean) :: ([])
def wsX2_deepestCalled : List Cond := .code yX2_deepestCalled cX2_deepestCalled 4 (some .int) :: ([.fieldLink RX2 15 "MemoryMap$Functions" "called" "[I", .fieldLink RX2 18 "MemoryMap$Functions" "depths" "[I", .methodLink RX2 37 Lib.Math.max.name, .static Lib.Math.max.name, .initialized "java/lang/Math", .code Lib.Math.max.name Lib.Math.max.code 2 (some .int), .methodLink RX2 27 yX2_contains, .static yX2_contains, .initialized RX2, .code yX2_contains cX2_contains 2 (some .boolean)] ++ wsX20)
def wsX2_settleMore : List Cond := .code yX2_settleMore cX2_settleMore 4 (some .int) :: ([.fieldLink RX2 15 "MemoryMap$Functions" "called" "[I", .fieldLink RX2 18 "MemoryMap$Functions" "depths" "[I", .fieldLink RX2 9 "MemoryMap$Functions" "stacks" "[I", .methodLink RX2 27 yX2_contains, .static yX2_contains, .initialized RX2, .code yX2_contains cX2_contains 2 (some .boolean), .methodLink RX2 34 yX2_deepestCalled, .instanceMethod yX2_deepestCalled, .selects RX2 yX2_deepestCalled yX2_deepestCalled, .code yX2_deepestCalled cX2_deepestCalled 4 (some .int), .methodLink RX2 37 Lib.Math.max.name, .static Lib.Math.max.name, .initialized "java/lang/Math", .code Lib.Math.max.name Lib.Math.max.code 2 (some .int)] ++ wsX20)
def wsX2_depthFrom : List Cond := .code yX2_depthFrom cX2_depthFrom 4 (some .int) :: ([.fieldLink RX2 18 "MemoryMap$Functions" "depths" "[I", .methodLink RX2 27 yX2_contains, .static yX2_contains, .initialized RX2, .code yX2_contains cX2_contains 2 (some .boolean), .methodLink RX2 31 yX2_settleMore, .instanceMethod yX2_settleMore, .selects RX2 yX2_settleMore yX2_settleMore, .code yX2_settleMore cX2_settleMore 4 (some .int), .fieldLink RX2 15 "MemoryMap$Functions" "called" "[I", .fieldLink RX2 9 "MemoryMap$Functions" "stacks" "[I", .methodLink RX2 34 yX2_deepestCalled, .instanceMethod yX2_deepestCalled, .selects RX2 yX2_deepestCalled yX2_deepestCalled, .code yX2_deepestCalled cX2_deepestCalled 4 (some .int), .methodLink RX2 37 Lib.Math.max.name, .static Lib.Math.max.name, .initialized "java/lang/Math", .code Lib.Math.max.name Lib.Math.max.code 2 (some .int)] ++ wsX20)
def wsX3_init : List Cond := .code yX3_init cX3_init 1 none :: ([.methodLink RX3 3 objectInit, .instanceMethod objectInit, .code objectInit ⟨#[0xb1]⟩ 1 none, .arrayClass .int, .fieldLink RX3 9 "MemoryMap$Placements" "last" "[I", .classLink RX3 15 "[[I", .fieldLink RX3 17 "MemoryMap$Placements" "kept" "[[I", .fieldLink RX3 20 "MemoryMap$Placements" "sectionCounts" "[I"] ++ wsX30)
def wsX3_add : List Cond := .code yX3_add cX3_add 3 none :: ([.fieldLink RX3 9 "MemoryMap$Placements" "last" "[I", .methodLink RX3 23 arraycopyName, .native arraycopyName, .static arraycopyName, .initialized "java/lang/System", .fieldLink RX3 29 "MemoryMap$Placements" "lastCount" "I", .fieldLink RX3 33 "MemoryMap$Placements" "keptCount" "I", .fieldLink RX3 17 "MemoryMap$Placements" "kept" "[[I", .fieldLink RX3 20 "MemoryMap$Placements" "sectionCounts" "[I"] ++ wsX30)
def wsX3_countMovedSince : List Cond := .code yX3_countMovedSince cX3_countMovedSince 4 (some .int) :: ([.fieldLink RX3 20 "MemoryMap$Placements" "sectionCounts" "[I", .fieldLink RX3 17 "MemoryMap$Placements" "kept" "[[I", .fieldLink RX3 9 "MemoryMap$Placements" "last" "[I"] ++ wsX30)
def wsX4_init : List Cond := .code yX4_init cX4_init 1 none :: ([.methodLink RX4 3 objectInit, .instanceMethod objectInit, .code objectInit ⟨#[0xb1]⟩ 1 none, .arrayClass .int, .fieldLink RX4 9 "MemoryMap$Regions" "starts" "[I", .fieldLink RX4 15 "MemoryMap$Regions" "ends" "[I", .fieldLink RX4 18 "MemoryMap$Regions" "rights" "[I"] ++ wsX40)
def wsX4_overlap : List Cond := .code yX4_overlap cX4_overlap 4 (some .boolean) :: ([.fieldLink RX4 21 "MemoryMap$Regions" "count" "I", .fieldLink RX4 15 "MemoryMap$Regions" "ends" "[I", .fieldLink RX4 9 "MemoryMap$Regions" "starts" "[I"] ++ wsX40)
def wsX4_allow : List Cond := .code yX4_allow cX4_allow 3 (some .boolean) :: ([.fieldLink RX4 18 "MemoryMap$Regions" "rights" "[I"] ++ wsX40)
def wsX4_add : List Cond := .code yX4_add cX4_add 4 (some .int) :: ([.fieldLink RX4 21 "MemoryMap$Regions" "count" "I", .fieldLink RX4 9 "MemoryMap$Regions" "starts" "[I", .fieldLink RX4 15 "MemoryMap$Regions" "ends" "[I", .fieldLink RX4 18 "MemoryMap$Regions" "rights" "[I"] ++ wsX40)
def wsX5_init : List Cond := .code yX5_init cX5_init 1 none :: ([.methodLink RX5 3 objectInit, .instanceMethod objectInit, .code objectInit ⟨#[0xb1]⟩ 1 none, .arrayClass .int, .fieldLink RX5 9 "MemoryMap$Sections" "lengths" "[I", .fieldLink RX5 15 "MemoryMap$Sections" "aligns" "[I", .fieldLink RX5 18 "MemoryMap$Sections" "kinds" "[I", .fieldLink RX5 21 "MemoryMap$Sections" "greatestFirst" "[I"] ++ wsX50)
def wsX5_enterInOrder : List Cond := .code yX5_enterInOrder cX5_enterInOrder 3 none :: ([.fieldLink RX5 9 "MemoryMap$Sections" "lengths" "[I", .fieldLink RX5 21 "MemoryMap$Sections" "greatestFirst" "[I"] ++ wsX50)
def wsX5_add : List Cond := .code yX5_add cX5_add 4 (some .int) :: ([.fieldLink RX5 24 "MemoryMap$Sections" "count" "I", .fieldLink RX5 9 "MemoryMap$Sections" "lengths" "[I", .fieldLink RX5 15 "MemoryMap$Sections" "aligns" "[I", .fieldLink RX5 18 "MemoryMap$Sections" "kinds" "[I", .methodLink RX5 28 yX5_enterInOrder, .instanceMethod yX5_enterInOrder, .selects RX5 yX5_enterInOrder yX5_enterInOrder, .initialized RX5, .code yX5_enterInOrder cX5_enterInOrder 3 none, .fieldLink RX5 21 "MemoryMap$Sections" "greatestFirst" "[I"] ++ wsX50)
def wsX6_init : List Cond := .code yX6_init cX6_init 1 none :: ([.methodLink RX6 3 objectInit, .instanceMethod objectInit, .code objectInit ⟨#[0xb1]⟩ 1 none, .arrayClass .int, .fieldLink RX6 9 "MemoryMap$Taken" "starts" "[I", .fieldLink RX6 15 "MemoryMap$Taken" "ends" "[I"] ++ wsX60)
def wsX6_clear : List Cond := .code yX6_clear cX6_clear 1 none :: ([.fieldLink RX6 18 "MemoryMap$Taken" "count" "I"] ++ wsX60)
def wsX6_alignedUp : List Cond := .code yX6_alignedUp cX6_alignedUp 2 (some .int) :: ([])
def wsX6_leastFree : List Cond := .code yX6_leastFree cX6_leastFree 6 (some .int) :: ([.fieldLink RX6 18 "MemoryMap$Taken" "count" "I", .fieldLink RX6 9 "MemoryMap$Taken" "starts" "[I", .fieldLink RX6 15 "MemoryMap$Taken" "ends" "[I", .methodLink RX6 22 yX6_alignedUp, .static yX6_alignedUp, .initialized RX6, .code yX6_alignedUp cX6_alignedUp 2 (some .int)] ++ wsX60)
def wsX6_add : List Cond := .code yX6_add cX6_add 4 none :: ([.fieldLink RX6 18 "MemoryMap$Taken" "count" "I", .fieldLink RX6 9 "MemoryMap$Taken" "starts" "[I", .fieldLink RX6 15 "MemoryMap$Taken" "ends" "[I"] ++ wsX60)
def wsX7_init_r1 : List Cond := [Cond.methodLink RX7 1 objectInit, Cond.instanceMethod objectInit, Cond.code objectInit ⟨#[0xb1]⟩ 1 none, Cond.classLink RX7 7 RX4, Cond.instantiable RX4 4, Cond.initialized RX4, Cond.fieldLink RX7 10 "MemoryMap" "regions" "LMemoryMap$Regions;", Cond.classLink RX7 16 RX5, Cond.instantiable RX5 5, Cond.initialized RX5, Cond.fieldLink RX7 19 "MemoryMap" "sections" "LMemoryMap$Sections;", Cond.classLink RX7 23 RX6, Cond.instantiable RX6 3, Cond.initialized RX6, Cond.fieldLink RX7 26 "MemoryMap" "taken" "LMemoryMap$Taken;", Cond.arrayClass .int, Cond.fieldLink RX7 30 "MemoryMap" "trial" "[I", Cond.classLink RX7 34 RX3, Cond.instantiable RX3 5, Cond.initialized RX3, Cond.fieldLink RX7 37 "MemoryMap" "placements" "LMemoryMap$Placements;", Cond.classLink RX7 41 RX2, Cond.instantiable RX2 3, Cond.initialized RX2]
def wsX7_init_r2 : List Cond := [Cond.fieldLink RX7 44 "MemoryMap" "functions" "LMemoryMap$Functions;", Cond.classLink RX7 48 RX0, Cond.fieldLink RX7 50 "MemoryMap" "blocks" "[LMemoryMap$Block;", Cond.constantLong RX7 54 (65536), Cond.fieldLink RX7 60 "MemoryMap" "size" "I", Cond.instanceMethod yX4_init, Cond.code yX4_init cX4_init 1 none, Cond.methodLink RX4 3 objectInit, Cond.fieldLink RX4 9 "MemoryMap$Regions" "starts" "[I", Cond.fieldLink RX4 15 "MemoryMap$Regions" "ends" "[I", Cond.fieldLink RX4 18 "MemoryMap$Regions" "rights" "[I", Cond.instanceMethod yX5_init, Cond.code yX5_init cX5_init 1 none, Cond.methodLink RX5 3 objectInit, Cond.fieldLink RX5 9 "MemoryMap$Sections" "lengths" "[I", Cond.fieldLink RX5 15 "MemoryMap$Sections" "aligns" "[I", Cond.fieldLink RX5 18 "MemoryMap$Sections" "kinds" "[I", Cond.fieldLink RX5 21 "MemoryMap$Sections" "greatestFirst" "[I", Cond.instanceMethod yX6_init, Cond.code yX6_init cX6_init 1 none, Cond.methodLink RX6 3 objectInit, Cond.fieldLink RX6 9 "MemoryMap$Taken" "starts" "[I", Cond.fieldLink RX6 15 "MemoryMap$Taken" "ends" "[I", Cond.instanceMethod yX3_init]
def wsX7_init_r3 : List Cond := [Cond.code yX3_init cX3_init 1 none, Cond.methodLink RX3 3 objectInit, Cond.fieldLink RX3 9 "MemoryMap$Placements" "last" "[I", Cond.classLink RX3 15 "[[I", Cond.fieldLink RX3 17 "MemoryMap$Placements" "kept" "[[I", Cond.fieldLink RX3 20 "MemoryMap$Placements" "sectionCounts" "[I", Cond.instanceMethod yX2_init, Cond.code yX2_init cX2_init 1 none, Cond.methodLink RX2 3 objectInit, Cond.fieldLink RX2 9 "MemoryMap$Functions" "stacks" "[I", Cond.fieldLink RX2 15 "MemoryMap$Functions" "called" "[I", Cond.fieldLink RX2 18 "MemoryMap$Functions" "depths" "[I", Cond.methodLink RX7 56 yX7_isWithin, Cond.static yX7_isWithin, Cond.initialized RX7, Cond.code yX7_isWithin cX7_isWithin 6 (some .boolean)]
def wsX7_init : List Cond := .code yX7_init cX7_init 3 none :: ((wsX7_init_r1 ++ (wsX7_init_r2 ++ wsX7_init_r3)) ++ wsX40 ++ wsX70 ++ wsX50 ++ wsX60 ++ wsX30 ++ wsX20)
def wsX7_region : List Cond := .code yX7_region cX7_region 9 (some .int) :: ([.fieldLink RX7 60 "MemoryMap" "size" "I", .constantLong RX7 64 (7), .fieldLink RX7 10 "MemoryMap" "regions" "LMemoryMap$Regions;", .methodLink RX7 56 yX7_isWithin, .static yX7_isWithin, .initialized RX7, .code yX7_isWithin cX7_isWithin 6 (some .boolean), .instanceMethod yX4_overlap, .initialized RX4, .selects RX4 yX4_overlap yX4_overlap, .code yX4_overlap cX4_overlap 4 (some .boolean), .fieldLink RX4 21 "MemoryMap$Regions" "count" "I", .fieldLink RX4 15 "MemoryMap$Regions" "ends" "[I", .fieldLink RX4 9 "MemoryMap$Regions" "starts" "[I", .instanceMethod yX4_add, .selects RX4 yX4_add yX4_add, .code yX4_add cX4_add 4 (some .int), .fieldLink RX4 18 "MemoryMap$Regions" "rights" "[I"] ++ wsX70 ++ wsX40)
def wsX7_section : List Cond := .code yX7_section cX7_section 6 (some .int) :: ([.classLink RX7 77 "java/lang/ArithmeticException", .initialized "java/lang/ArithmeticException", .constantLong RX7 54 (65536), .constantLong RX7 64 (7), .fieldLink RX7 19 "MemoryMap" "sections" "LMemoryMap$Sections;", .methodLink RX7 56 yX7_isWithin, .static yX7_isWithin, .initialized RX7, .code yX7_isWithin cX7_isWithin 6 (some .boolean), .instanceMethod yX5_add, .initialized RX5, .selects RX5 yX5_add yX5_add, .code yX5_add cX5_add 4 (some .int), .fieldLink RX5 24 "MemoryMap$Sections" "count" "I", .fieldLink RX5 9 "MemoryMap$Sections" "lengths" "[I", .fieldLink RX5 15 "MemoryMap$Sections" "aligns" "[I", .fieldLink RX5 18 "MemoryMap$Sections" "kinds" "[I", .methodLink RX5 28 yX5_enterInOrder, .instanceMethod yX5_enterInOrder, .selects RX5 yX5_enterInOrder yX5_enterInOrder, .code yX5_enterInOrder cX5_enterInOrder 3 none, .fieldLink RX5 21 "MemoryMap$Sections" "greatestFirst" "[I"] ++ wsX70 ++ wsX50 ++ (vx_atS RX7 81 "java/lang/ArithmeticException" ["java/lang/RuntimeException", "java/lang/Exception"]).filter goodWord)
def wsX7_takeSpaceFor : List Cond := .code yX7_takeSpaceFor cX7_takeSpaceFor 5 (some .int) :: ([.fieldLink RX7 19 "MemoryMap" "sections" "LMemoryMap$Sections;", .fieldLink RX7 10 "MemoryMap" "regions" "LMemoryMap$Regions;", .fieldLink RX7 26 "MemoryMap" "taken" "LMemoryMap$Taken;", .instanceMethod yX4_allow, .initialized RX4, .selects RX4 yX4_allow yX4_allow, .code yX4_allow cX4_allow 3 (some .boolean), .fieldLink RX4 18 "MemoryMap$Regions" "rights" "[I", .instanceMethod yX6_leastFree, .initialized RX6, .selects RX6 yX6_leastFree yX6_leastFree, .code yX6_leastFree cX6_leastFree 6 (some .int), .fieldLink RX6 18 "MemoryMap$Taken" "count" "I", .fieldLink RX6 9 "MemoryMap$Taken" "starts" "[I", .fieldLink RX6 15 "MemoryMap$Taken" "ends" "[I", .methodLink RX6 22 yX6_alignedUp, .static yX6_alignedUp, .code yX6_alignedUp cX6_alignedUp 2 (some .int), .instanceMethod yX6_add, .selects RX6 yX6_add yX6_add, .code yX6_add cX6_add 4 none] ++ wsX70 ++ wsX50 ++ wsX40 ++ wsX60)
def wsX7_place_r1 : List Cond := [Cond.fieldLink RX7 26 "MemoryMap" "taken" "LMemoryMap$Taken;", Cond.fieldLink RX7 19 "MemoryMap" "sections" "LMemoryMap$Sections;", Cond.fieldLink RX7 30 "MemoryMap" "trial" "[I", Cond.fieldLink RX7 37 "MemoryMap" "placements" "LMemoryMap$Placements;", Cond.instanceMethod yX6_clear, Cond.initialized RX6, Cond.selects RX6 yX6_clear yX6_clear, Cond.code yX6_clear cX6_clear 1 none, Cond.fieldLink RX6 18 "MemoryMap$Taken" "count" "I", Cond.methodLink RX7 91 yX7_takeSpaceFor, Cond.instanceMethod yX7_takeSpaceFor, Cond.selects RX7 yX7_takeSpaceFor yX7_takeSpaceFor, Cond.initialized RX7, Cond.code yX7_takeSpaceFor cX7_takeSpaceFor 5 (some .int), Cond.fieldLink RX7 10 "MemoryMap" "regions" "LMemoryMap$Regions;", Cond.instanceMethod yX4_allow, Cond.initialized RX4, Cond.selects RX4 yX4_allow yX4_allow, Cond.code yX4_allow cX4_allow 3 (some .boolean), Cond.fieldLink RX4 18 "MemoryMap$Regions" "rights" "[I", Cond.instanceMethod yX6_leastFree, Cond.selects RX6 yX6_leastFree yX6_leastFree, Cond.code yX6_leastFree cX6_leastFree 6 (some .int), Cond.fieldLink RX6 9 "MemoryMap$Taken" "starts" "[I"]
def wsX7_place_r2 : List Cond := [Cond.fieldLink RX6 15 "MemoryMap$Taken" "ends" "[I", Cond.methodLink RX6 22 yX6_alignedUp, Cond.static yX6_alignedUp, Cond.code yX6_alignedUp cX6_alignedUp 2 (some .int), Cond.instanceMethod yX6_add, Cond.selects RX6 yX6_add yX6_add, Cond.code yX6_add cX6_add 4 none, Cond.instanceMethod yX3_add, Cond.initialized RX3, Cond.selects RX3 yX3_add yX3_add, Cond.code yX3_add cX3_add 3 none, Cond.fieldLink RX3 9 "MemoryMap$Placements" "last" "[I", Cond.methodLink RX3 23 arraycopyName, Cond.native arraycopyName, Cond.static arraycopyName, Cond.initialized "java/lang/System", Cond.fieldLink RX3 29 "MemoryMap$Placements" "lastCount" "I", Cond.fieldLink RX3 33 "MemoryMap$Placements" "keptCount" "I", Cond.fieldLink RX3 17 "MemoryMap$Placements" "kept" "[[I", Cond.fieldLink RX3 20 "MemoryMap$Placements" "sectionCounts" "[I"]
def wsX7_place : List Cond := .code yX7_place cX7_place 4 (some .int) :: ((wsX7_place_r1 ++ wsX7_place_r2) ++ wsX70 ++ wsX50 ++ wsX60 ++ wsX40 ++ wsX30)
def wsX7_at : List Cond := .code yX7_at cX7_at 2 (some .long) :: ([.fieldLink RX7 19 "MemoryMap" "sections" "LMemoryMap$Sections;", .constantLong RX7 98 (-1), .fieldLink RX7 37 "MemoryMap" "placements" "LMemoryMap$Placements;", .constantLong RX7 103 (-3), .methodLink RX7 56 yX7_isWithin, .static yX7_isWithin, .initialized RX7, .code yX7_isWithin cX7_isWithin 6 (some .boolean)] ++ wsX70 ++ wsX50 ++ wsX30)
def wsX7_call : List Cond := .code yX7_call cX7_call 5 (some .int) :: ([.constantLong RX7 108 (30), .constantLong RX7 110 (1000000), .fieldLink RX7 44 "MemoryMap" "functions" "LMemoryMap$Functions;", .methodLink RX7 56 yX7_isWithin, .static yX7_isWithin, .initialized RX7, .code yX7_isWithin cX7_isWithin 6 (some .boolean), .instanceMethod yX2_addCall, .initialized RX2, .selects RX2 yX2_addCall yX2_addCall, .code yX2_addCall cX2_addCall 3 none, .fieldLink RX2 15 "MemoryMap$Functions" "called" "[I", .instanceMethod yX2_countCalls, .selects RX2 yX2_countCalls yX2_countCalls, .code yX2_countCalls cX2_countCalls 2 (some .int), .methodLink RX2 21 yJ6_bitCount_0f7a4, .static yJ6_bitCount_0f7a4, .initialized RJ6, .code yJ6_bitCount_0f7a4 cJ6_bitCount_0f7a4 1 (some .int), .constant RJ6 265 (1431655765), .constant RJ6 266 (858993459), .constant RJ6 267 (252645135)] ++ wsX70 ++ wsX20)
def wsX7_depth_r1 : List Cond := [Cond.constantLong RX7 108 (30), Cond.constantLong RX7 122 (-2), Cond.fieldLink RX7 44 "MemoryMap" "functions" "LMemoryMap$Functions;", Cond.methodLink RX7 56 yX7_isWithin, Cond.static yX7_isWithin, Cond.initialized RX7, Cond.code yX7_isWithin cX7_isWithin 6 (some .boolean), Cond.instanceMethod yX2_depthFrom, Cond.initialized RX2, Cond.selects RX2 yX2_depthFrom yX2_depthFrom, Cond.code yX2_depthFrom cX2_depthFrom 4 (some .int), Cond.fieldLink RX2 18 "MemoryMap$Functions" "depths" "[I", Cond.methodLink RX2 27 yX2_contains, Cond.static yX2_contains, Cond.code yX2_contains cX2_contains 2 (some .boolean), Cond.methodLink RX2 31 yX2_settleMore, Cond.instanceMethod yX2_settleMore, Cond.selects RX2 yX2_settleMore yX2_settleMore, Cond.code yX2_settleMore cX2_settleMore 4 (some .int), Cond.fieldLink RX2 15 "MemoryMap$Functions" "called" "[I", Cond.fieldLink RX2 9 "MemoryMap$Functions" "stacks" "[I", Cond.methodLink RX2 34 yX2_deepestCalled, Cond.instanceMethod yX2_deepestCalled, Cond.selects RX2 yX2_deepestCalled yX2_deepestCalled]
def wsX7_depth_r2 : List Cond := [Cond.code yX2_deepestCalled cX2_deepestCalled 4 (some .int), Cond.methodLink RX2 37 Lib.Math.max.name, Cond.static Lib.Math.max.name, Cond.initialized "java/lang/Math", Cond.code Lib.Math.max.name Lib.Math.max.code 2 (some .int)]
def wsX7_depth : List Cond := .code yX7_depth cX7_depth 2 (some .long) :: ((wsX7_depth_r1 ++ wsX7_depth_r2) ++ wsX70 ++ wsX20)
def wsX7_block_r1 : List Cond := [Cond.constantLong RX7 127 (32), Cond.fieldLink RX7 129 "MemoryMap" "blockCount" "I", Cond.fieldLink RX7 50 "MemoryMap" "blocks" "[LMemoryMap$Block;", Cond.classLink RX7 48 RX0, Cond.instantiable RX0 3, Cond.initialized RX0, Cond.methodLink RX7 56 yX7_isWithin, Cond.static yX7_isWithin, Cond.initialized RX7, Cond.code yX7_isWithin cX7_isWithin 6 (some .boolean), Cond.instanceMethod yX0_init, Cond.code yX0_init cX0_init 2 none, Cond.methodLink RX0 1 objectInit, Cond.instanceMethod objectInit, Cond.code objectInit ⟨#[0xb1]⟩ 1 none, Cond.fieldLink RX0 7 "MemoryMap$Block" "length" "I", Cond.classLink RX0 13 RX1, Cond.instantiable RX1 2, Cond.initialized RX1, Cond.fieldLink RX0 18 "MemoryMap$Block" "first" "LMemoryMap$Copy;", Cond.fieldLink RX0 22 "MemoryMap$Block" "second" "LMemoryMap$Copy;", Cond.instanceMethod yX1_init, Cond.code yX1_init cX1_init 2 none, Cond.methodLink RX1 3 objectInit]
def wsX7_block_r2 : List Cond := [Cond.arrayClass .byte, Cond.fieldLink RX1 9 "MemoryMap$Copy" "octets" "[B", Cond.fieldLink RX1 19 "MemoryMap$Copy" "sum" "I", Cond.methodLink RX1 15 yX1_sumOf, Cond.static yX1_sumOf, Cond.code yX1_sumOf cX1_sumOf 4 (some .int), Cond.constant RX1 35 (-1028477379)]
def wsX7_block : List Cond := .code yX7_block cX7_block 3 (some .int) :: ((wsX7_block_r1 ++ wsX7_block_r2) ++ wsX70 ++ wsX00 ++ wsX10)
def wsX7_blockNumbered : List Cond := .code yX7_blockNumbered cX7_blockNumbered 2 (some (.object "MemoryMap$Block")) :: ([.fieldLink RX7 129 "MemoryMap" "blockCount" "I", .fieldLink RX7 50 "MemoryMap" "blocks" "[LMemoryMap$Block;", .methodLink RX7 56 yX7_isWithin, .static yX7_isWithin, .initialized RX7, .code yX7_isWithin cX7_isWithin 6 (some .boolean)] ++ wsX70)
def wsX7_write_r1 : List Cond := [Cond.methodLink RX7 135 yX7_blockNumbered, Cond.instanceMethod yX7_blockNumbered, Cond.selects RX7 yX7_blockNumbered yX7_blockNumbered, Cond.initialized RX7, Cond.code yX7_blockNumbered cX7_blockNumbered 2 (some (.object "MemoryMap$Block")), Cond.fieldLink RX7 129 "MemoryMap" "blockCount" "I", Cond.fieldLink RX7 50 "MemoryMap" "blocks" "[LMemoryMap$Block;", Cond.methodLink RX7 56 yX7_isWithin, Cond.static yX7_isWithin, Cond.code yX7_isWithin cX7_isWithin 6 (some .boolean), Cond.instanceMethod yX0_hasOctet, Cond.initialized RX0, Cond.selects RX0 yX0_hasOctet yX0_hasOctet, Cond.code yX0_hasOctet cX0_hasOctet 2 (some .boolean), Cond.fieldLink RX0 7 "MemoryMap$Block" "length" "I", Cond.instanceMethod yX1_setOctet, Cond.initialized RX1, Cond.selects RX1 yX1_setOctet yX1_setOctet, Cond.code yX1_setOctet cX1_setOctet 3 none, Cond.fieldLink RX1 9 "MemoryMap$Copy" "octets" "[B", Cond.fieldLink RX1 19 "MemoryMap$Copy" "sum" "I", Cond.methodLink RX1 15 yX1_sumOf, Cond.static yX1_sumOf, Cond.code yX1_sumOf cX1_sumOf 4 (some .int)]
def wsX7_write_r2 : List Cond := [Cond.constant RX1 35 (-1028477379)]
def wsX7_write : List Cond := .code yX7_write cX7_write 5 (some .int) :: ((wsX7_write_r1 ++ wsX7_write_r2) ++ wsX00 ++ wsX70 ++ wsX10)
def wsX7_poke : List Cond := .code yX7_poke cX7_poke 6 (some .int) :: ([.constantLong RX7 156 (2), .methodLink RX7 135 yX7_blockNumbered, .instanceMethod yX7_blockNumbered, .selects RX7 yX7_blockNumbered yX7_blockNumbered, .initialized RX7, .code yX7_blockNumbered cX7_blockNumbered 2 (some (.object "MemoryMap$Block")), .fieldLink RX7 129 "MemoryMap" "blockCount" "I", .fieldLink RX7 50 "MemoryMap" "blocks" "[LMemoryMap$Block;", .methodLink RX7 56 yX7_isWithin, .static yX7_isWithin, .code yX7_isWithin cX7_isWithin 6 (some .boolean), .instanceMethod yX0_hasOctet, .initialized RX0, .selects RX0 yX0_hasOctet yX0_hasOctet, .code yX0_hasOctet cX0_hasOctet 2 (some .boolean), .fieldLink RX0 7 "MemoryMap$Block" "length" "I", .instanceMethod yX1_flip, .initialized RX1, .selects RX1 yX1_flip yX1_flip, .code yX1_flip cX1_flip 3 (some .int), .fieldLink RX1 9 "MemoryMap$Copy" "octets" "[B"] ++ wsX00 ++ wsX70 ++ wsX10)
def wsX7_read_r1 : List Cond := [Cond.methodLink RX7 135 yX7_blockNumbered, Cond.instanceMethod yX7_blockNumbered, Cond.selects RX7 yX7_blockNumbered yX7_blockNumbered, Cond.initialized RX7, Cond.code yX7_blockNumbered cX7_blockNumbered 2 (some (.object "MemoryMap$Block")), Cond.fieldLink RX7 129 "MemoryMap" "blockCount" "I", Cond.fieldLink RX7 50 "MemoryMap" "blocks" "[LMemoryMap$Block;", Cond.methodLink RX7 56 yX7_isWithin, Cond.static yX7_isWithin, Cond.code yX7_isWithin cX7_isWithin 6 (some .boolean), Cond.instanceMethod yX0_repair, Cond.initialized RX0, Cond.selects RX0 yX0_repair yX0_repair, Cond.code yX0_repair cX0_repair 1 (some .int), Cond.fieldLink RX0 18 "MemoryMap$Block" "first" "LMemoryMap$Copy;", Cond.fieldLink RX0 22 "MemoryMap$Block" "second" "LMemoryMap$Copy;", Cond.instanceMethod yX1_isGood, Cond.initialized RX1, Cond.selects RX1 yX1_isGood yX1_isGood, Cond.code yX1_isGood cX1_isGood 1 (some .boolean), Cond.fieldLink RX1 19 "MemoryMap$Copy" "sum" "I", Cond.fieldLink RX1 9 "MemoryMap$Copy" "octets" "[B", Cond.methodLink RX1 15 yX1_sumOf, Cond.static yX1_sumOf]
def wsX7_read_r2 : List Cond := [Cond.code yX1_sumOf cX1_sumOf 4 (some .int), Cond.constant RX1 35 (-1028477379), Cond.instanceMethod yX1_become, Cond.selects RX1 yX1_become yX1_become, Cond.code yX1_become cX1_become 2 none, Cond.methodLink RX1 23 arraycopyName, Cond.native arraycopyName, Cond.static arraycopyName, Cond.initialized "java/lang/System", Cond.instanceMethod yX1_clear, Cond.selects RX1 yX1_clear yX1_clear, Cond.code yX1_clear cX1_clear 1 none, Cond.methodLink RX1 29 yJ7_fill_031fb, Cond.static yJ7_fill_031fb, Cond.initialized RJ7, Cond.code yJ7_fill_031fb cJ7_fill_031fb 4 none]
def wsX7_read : List Cond := .code yX7_read cX7_read 3 (some .int) :: ((wsX7_read_r1 ++ wsX7_read_r2) ++ wsX70 ++ wsX00 ++ wsX10)
def wsX7_cell : List Cond := .code yX7_cell cX7_cell 5 (some .byte) :: ([.fieldLink RX7 60 "MemoryMap" "size" "I", .classLink RX7 166 RJx00060, .instantiable RJx00060 6, .initialized RJx00060, .fieldLink RX7 37 "MemoryMap" "placements" "LMemoryMap$Placements;", .fieldLink RX7 19 "MemoryMap" "sections" "LMemoryMap$Sections;"] ++ wsX70 ++ wsJx000600 ++ wsX30 ++ wsX50)
def wsX7_moved : List Cond := .code yX7_moved cX7_moved 2 (some .int) :: ([.fieldLink RX7 37 "MemoryMap" "placements" "LMemoryMap$Placements;", .methodLink RX7 56 yX7_isWithin, .static yX7_isWithin, .initialized RX7, .code yX7_isWithin cX7_isWithin 6 (some .boolean), .instanceMethod yX3_countMovedSince, .initialized RX3, .selects RX3 yX3_countMovedSince yX3_countMovedSince, .code yX3_countMovedSince cX3_countMovedSince 4 (some .int), .fieldLink RX3 20 "MemoryMap$Placements" "sectionCounts" "[I", .fieldLink RX3 17 "MemoryMap$Placements" "kept" "[[I", .fieldLink RX3 9 "MemoryMap$Placements" "last" "[I"] ++ wsX70 ++ wsX30)
def wsX8_init_r1 : List Cond := [Cond.methodLink RX8 1 objectInit, Cond.instanceMethod objectInit, Cond.code objectInit ⟨#[0xb1]⟩ 1 none, Cond.arrayClass .int, Cond.fieldLink RX8 7 "MemoryMapModel" "froms" "[I", Cond.fieldLink RX8 13 "MemoryMapModel" "ends" "[I", Cond.fieldLink RX8 16 "MemoryMapModel" "rights" "[I", Cond.fieldLink RX8 19 "MemoryMapModel" "lengths" "[I", Cond.fieldLink RX8 22 "MemoryMapModel" "aligns" "[I", Cond.fieldLink RX8 25 "MemoryMapModel" "kinds" "[I", Cond.constant RX8 28 (65536), Cond.arrayClass .byte, Cond.fieldLink RX8 29 "MemoryMapModel" "taken" "[B", Cond.fieldLink RX8 33 "MemoryMapModel" "cells" "[B", Cond.fieldLink RX8 36 "MemoryMapModel" "places" "[I", Cond.fieldLink RX8 39 "MemoryMapModel" "trial" "[I", Cond.fieldLink RX8 42 "MemoryMapModel" "kept" "[I", Cond.fieldLink RX8 45 "MemoryMapModel" "keptMany" "[I", Cond.arrayClass .long, Cond.fieldLink RX8 48 "MemoryMapModel" "stacks" "[J", Cond.arrayClass .boolean, Cond.fieldLink RX8 52 "MemoryMapModel" "calls" "[Z", Cond.fieldLink RX8 56 "MemoryMapModel" "depths" "[J", Cond.fieldLink RX8 59 "MemoryMapModel" "octets" "[I"]
def wsX8_init_r2 : List Cond := [Cond.fieldLink RX8 62 "MemoryMapModel" "copies" "[B", Cond.fieldLink RX8 65 "MemoryMapModel" "sums" "[I", Cond.constantLong RX8 68 (65536), Cond.fieldLink RX8 70 "MemoryMapModel" "size" "I"]
def wsX8_init : List Cond := .code yX8_init cX8_init 4 none :: ((wsX8_init_r1 ++ wsX8_init_r2) ++ wsX80)
def wsX8_thrown : List Cond := .code yX8_thrown cX8_thrown 1 (some .int) :: ([.fieldLink RX8 74 "MemoryMapModel" "thrown" "I"] ++ wsX80)
def wsX8_region : List Cond := .code yX8_region cX8_region 7 (some .int) :: ([.fieldLink RX8 74 "MemoryMapModel" "thrown" "I", .fieldLink RX8 70 "MemoryMapModel" "size" "I", .fieldLink RX8 77 "MemoryMapModel" "regions" "I", .fieldLink RX8 13 "MemoryMapModel" "ends" "[I", .fieldLink RX8 7 "MemoryMapModel" "froms" "[I", .fieldLink RX8 16 "MemoryMapModel" "rights" "[I"] ++ wsX80)
def wsX8_section : List Cond := .code yX8_section cX8_section 6 (some .int) :: ([.fieldLink RX8 74 "MemoryMapModel" "thrown" "I", .constantLong RX8 68 (65536), .fieldLink RX8 80 "MemoryMapModel" "sections" "I", .fieldLink RX8 19 "MemoryMapModel" "lengths" "[I", .fieldLink RX8 22 "MemoryMapModel" "aligns" "[I", .fieldLink RX8 25 "MemoryMapModel" "kinds" "[I"] ++ wsX80)
def wsX8_isBefore : List Cond := .code yX8_isBefore cX8_isBefore 3 (some .boolean) :: ([.fieldLink RX8 19 "MemoryMapModel" "lengths" "[I"] ++ wsX80)
def wsX8_next : List Cond := .code yX8_next cX8_next 4 (some .int) :: ([.fieldLink RX8 80 "MemoryMapModel" "sections" "I", .methodLink RX8 83 yX8_isBefore, .instanceMethod yX8_isBefore, .selects RX8 yX8_isBefore yX8_isBefore, .initialized RX8, .code yX8_isBefore cX8_isBefore 3 (some .boolean), .fieldLink RX8 19 "MemoryMapModel" "lengths" "[I"] ++ wsX80)
def wsX8_up : List Cond := .code yX8_up cX8_up 2 (some .int) :: ([])
def wsX8_find : List Cond := .code yX8_find cX8_find 5 (some .int) :: ([.fieldLink RX8 7 "MemoryMapModel" "froms" "[I", .fieldLink RX8 22 "MemoryMapModel" "aligns" "[I", .fieldLink RX8 19 "MemoryMapModel" "lengths" "[I", .fieldLink RX8 13 "MemoryMapModel" "ends" "[I", .fieldLink RX8 29 "MemoryMapModel" "taken" "[B", .methodLink RX8 87 yX8_up, .static yX8_up, .initialized RX8, .code yX8_up cX8_up 2 (some .int)] ++ wsX80)
def wsX8_findAny : List Cond := .code yX8_findAny cX8_findAny 4 (some .int) :: ([.fieldLink RX8 77 "MemoryMapModel" "regions" "I", .fieldLink RX8 16 "MemoryMapModel" "rights" "[I", .fieldLink RX8 25 "MemoryMapModel" "kinds" "[I", .methodLink RX8 91 yX8_find, .instanceMethod yX8_find, .selects RX8 yX8_find yX8_find, .initialized RX8, .code yX8_find cX8_find 5 (some .int), .fieldLink RX8 7 "MemoryMapModel" "froms" "[I", .fieldLink RX8 22 "MemoryMapModel" "aligns" "[I", .fieldLink RX8 19 "MemoryMapModel" "lengths" "[I", .fieldLink RX8 13 "MemoryMapModel" "ends" "[I", .fieldLink RX8 29 "MemoryMapModel" "taken" "[B", .methodLink RX8 87 yX8_up, .static yX8_up, .code yX8_up cX8_up 2 (some .int)] ++ wsX80)
def wsX8_place_r1 : List Cond := [Cond.fieldLink RX8 74 "MemoryMapModel" "thrown" "I", Cond.fieldLink RX8 70 "MemoryMapModel" "size" "I", Cond.fieldLink RX8 29 "MemoryMapModel" "taken" "[B", Cond.fieldLink RX8 39 "MemoryMapModel" "trial" "[I", Cond.fieldLink RX8 19 "MemoryMapModel" "lengths" "[I", Cond.fieldLink RX8 80 "MemoryMapModel" "sections" "I", Cond.fieldLink RX8 101 "MemoryMapModel" "placed" "I", Cond.fieldLink RX8 104 "MemoryMapModel" "placements" "I", Cond.fieldLink RX8 33 "MemoryMapModel" "cells" "[B", Cond.fieldLink RX8 36 "MemoryMapModel" "places" "[I", Cond.fieldLink RX8 42 "MemoryMapModel" "kept" "[I", Cond.fieldLink RX8 45 "MemoryMapModel" "keptMany" "[I", Cond.methodLink RX8 94 yX8_next, Cond.instanceMethod yX8_next, Cond.selects RX8 yX8_next yX8_next, Cond.initialized RX8, Cond.code yX8_next cX8_next 4 (some .int), Cond.methodLink RX8 83 yX8_isBefore, Cond.instanceMethod yX8_isBefore, Cond.selects RX8 yX8_isBefore yX8_isBefore, Cond.code yX8_isBefore cX8_isBefore 3 (some .boolean), Cond.methodLink RX8 98 yX8_findAny, Cond.instanceMethod yX8_findAny, Cond.selects RX8 yX8_findAny yX8_findAny]
def wsX8_place_r2 : List Cond := [Cond.code yX8_findAny cX8_findAny 4 (some .int), Cond.fieldLink RX8 77 "MemoryMapModel" "regions" "I", Cond.fieldLink RX8 16 "MemoryMapModel" "rights" "[I", Cond.fieldLink RX8 25 "MemoryMapModel" "kinds" "[I", Cond.methodLink RX8 91 yX8_find, Cond.instanceMethod yX8_find, Cond.selects RX8 yX8_find yX8_find, Cond.code yX8_find cX8_find 5 (some .int), Cond.fieldLink RX8 7 "MemoryMapModel" "froms" "[I", Cond.fieldLink RX8 22 "MemoryMapModel" "aligns" "[I", Cond.fieldLink RX8 13 "MemoryMapModel" "ends" "[I", Cond.methodLink RX8 87 yX8_up, Cond.static yX8_up, Cond.code yX8_up cX8_up 2 (some .int)]
def wsX8_place : List Cond := .code yX8_place cX8_place 3 (some .int) :: ((wsX8_place_r1 ++ wsX8_place_r2) ++ wsX80)
def wsX8_at : List Cond := .code yX8_at cX8_at 2 (some .long) :: ([.fieldLink RX8 74 "MemoryMapModel" "thrown" "I", .fieldLink RX8 80 "MemoryMapModel" "sections" "I", .constantLong RX8 107 (-1), .fieldLink RX8 104 "MemoryMapModel" "placements" "I", .fieldLink RX8 101 "MemoryMapModel" "placed" "I", .constantLong RX8 109 (-3), .fieldLink RX8 36 "MemoryMapModel" "places" "[I"] ++ wsX80)
def wsX8_cell : List Cond := .code yX8_cell cX8_cell 3 (some .byte) :: ([.fieldLink RX8 70 "MemoryMapModel" "size" "I", .fieldLink RX8 74 "MemoryMapModel" "thrown" "I", .fieldLink RX8 33 "MemoryMapModel" "cells" "[B"] ++ wsX80)
def wsX8_moved : List Cond := .code yX8_moved cX8_moved 4 (some .int) :: ([.fieldLink RX8 74 "MemoryMapModel" "thrown" "I", .fieldLink RX8 104 "MemoryMapModel" "placements" "I", .fieldLink RX8 45 "MemoryMapModel" "keptMany" "[I", .fieldLink RX8 42 "MemoryMapModel" "kept" "[I", .fieldLink RX8 36 "MemoryMapModel" "places" "[I"] ++ wsX80)
def wsX8_call : List Cond := .code yX8_call cX8_call 7 (some .int) :: ([.fieldLink RX8 74 "MemoryMapModel" "thrown" "I", .constantLong RX8 111 (1000000), .fieldLink RX8 48 "MemoryMapModel" "stacks" "[J", .fieldLink RX8 52 "MemoryMapModel" "calls" "[Z"] ++ wsX80)
def wsX8_reckon : List Cond := .code yX8_reckon cX8_reckon 5 (some .long) :: ([.fieldLink RX8 52 "MemoryMapModel" "calls" "[Z", .fieldLink RX8 56 "MemoryMapModel" "depths" "[J", .constantLong RX8 107 (-1), .fieldLink RX8 48 "MemoryMapModel" "stacks" "[J"] ++ wsX80)
def wsX8_depth : List Cond := .code yX8_depth cX8_depth 4 (some .long) :: ([.fieldLink RX8 74 "MemoryMapModel" "thrown" "I", .constantLong RX8 113 (-2), .fieldLink RX8 56 "MemoryMapModel" "depths" "[J", .constantLong RX8 107 (-1), .methodLink RX8 115 yX8_reckon, .instanceMethod yX8_reckon, .selects RX8 yX8_reckon yX8_reckon, .initialized RX8, .code yX8_reckon cX8_reckon 5 (some .long), .fieldLink RX8 52 "MemoryMapModel" "calls" "[Z", .fieldLink RX8 48 "MemoryMapModel" "stacks" "[J"] ++ wsX80)
def wsX8_cell_ : List Cond := .code yX8_cell_ cX8_cell_ 3 (some .int) :: ([])
def wsX8_sum : List Cond := .code yX8_sum cX8_sum 6 (some .int) :: ([.fieldLink RX8 59 "MemoryMapModel" "octets" "[I", .fieldLink RX8 62 "MemoryMapModel" "copies" "[B", .constant RX8 131 (-1028477379), .methodLink RX8 127 yX8_cell_, .static yX8_cell_, .initialized RX8, .code yX8_cell_ cX8_cell_ 3 (some .int)] ++ wsX80)
def wsX8_block : List Cond := .code yX8_block cX8_block 3 (some .int) :: ([.fieldLink RX8 74 "MemoryMapModel" "thrown" "I", .constantLong RX8 119 (32), .fieldLink RX8 121 "MemoryMapModel" "blocks" "I", .fieldLink RX8 59 "MemoryMapModel" "octets" "[I", .fieldLink RX8 65 "MemoryMapModel" "sums" "[I", .methodLink RX8 124 yX8_sum, .instanceMethod yX8_sum, .selects RX8 yX8_sum yX8_sum, .initialized RX8, .code yX8_sum cX8_sum 6 (some .int), .fieldLink RX8 62 "MemoryMapModel" "copies" "[B", .constant RX8 131 (-1028477379), .methodLink RX8 127 yX8_cell_, .static yX8_cell_, .code yX8_cell_ cX8_cell_ 3 (some .int)] ++ wsX80)
def wsX8_noBlock : List Cond := .code yX8_noBlock cX8_noBlock 2 (some .boolean) :: ([.fieldLink RX8 121 "MemoryMapModel" "blocks" "I"] ++ wsX80)
def wsX8_write : List Cond := .code yX8_write cX8_write 5 (some .int) :: ([.fieldLink RX8 74 "MemoryMapModel" "thrown" "I", .fieldLink RX8 59 "MemoryMapModel" "octets" "[I", .fieldLink RX8 62 "MemoryMapModel" "copies" "[B", .fieldLink RX8 65 "MemoryMapModel" "sums" "[I", .methodLink RX8 132 yX8_noBlock, .instanceMethod yX8_noBlock, .selects RX8 yX8_noBlock yX8_noBlock, .initialized RX8, .code yX8_noBlock cX8_noBlock 2 (some .boolean), .fieldLink RX8 121 "MemoryMapModel" "blocks" "I", .methodLink RX8 127 yX8_cell_, .static yX8_cell_, .code yX8_cell_ cX8_cell_ 3 (some .int), .methodLink RX8 124 yX8_sum, .instanceMethod yX8_sum, .selects RX8 yX8_sum yX8_sum, .code yX8_sum cX8_sum 6 (some .int), .constant RX8 131 (-1028477379)] ++ wsX80)
def wsX8_poke : List Cond := .code yX8_poke cX8_poke 6 (some .int) :: ([.fieldLink RX8 74 "MemoryMapModel" "thrown" "I", .fieldLink RX8 59 "MemoryMapModel" "octets" "[I", .fieldLink RX8 62 "MemoryMapModel" "copies" "[B", .methodLink RX8 132 yX8_noBlock, .instanceMethod yX8_noBlock, .selects RX8 yX8_noBlock yX8_noBlock, .initialized RX8, .code yX8_noBlock cX8_noBlock 2 (some .boolean), .fieldLink RX8 121 "MemoryMapModel" "blocks" "I", .methodLink RX8 127 yX8_cell_, .static yX8_cell_, .code yX8_cell_ cX8_cell_ 3 (some .int)] ++ wsX80)
def wsX8_read : List Cond := .code yX8_read cX8_read 5 (some .int) :: ([.fieldLink RX8 74 "MemoryMapModel" "thrown" "I", .fieldLink RX8 65 "MemoryMapModel" "sums" "[I", .fieldLink RX8 59 "MemoryMapModel" "octets" "[I", .fieldLink RX8 62 "MemoryMapModel" "copies" "[B", .methodLink RX8 132 yX8_noBlock, .instanceMethod yX8_noBlock, .selects RX8 yX8_noBlock yX8_noBlock, .initialized RX8, .code yX8_noBlock cX8_noBlock 2 (some .boolean), .fieldLink RX8 121 "MemoryMapModel" "blocks" "I", .methodLink RX8 124 yX8_sum, .instanceMethod yX8_sum, .selects RX8 yX8_sum yX8_sum, .code yX8_sum cX8_sum 6 (some .int), .constant RX8 131 (-1028477379), .methodLink RX8 127 yX8_cell_, .static yX8_cell_, .code yX8_cell_ cX8_cell_ 3 (some .int)] ++ wsX80)
def wsJx00060_init_a7421 : List Cond := .code yJx00060_init_a7421 cJx00060_init_a7421 2 none :: ([])
def wsJ9_max_7cf53 : List Cond := .code yJ9_max_7cf53 cJ9_max_7cf53 2 (some .int) :: ([])
abbrev vwCl : List vw_C := [(RJx00060, TJx00060, 6), (RX0, TX0, 3), (RX1, TX1, 2), (RX2, TX2, 3), (RX3, TX3, 5), (RX4, TX4, 4), (RX5, TX5, 5), (RX6, TX6, 3), (RX7, TX7, 9), (RX8, TX8, 25)]
set_option maxRecDepth 20000 in
theorem ggX0_init_X1_init : GoodIn wsX0_init wsX1_init := goodIn_r _ [11, 12, 2, 3, 13, 14, 15, 16, 17, 7, 18, 19, 23, 24] (by decide +kernel) (by decide +kernel)
set_option maxRecDepth 20000 in
theorem gX0_init_X1_init_n15 : GoodIn wsX0_init (wsX1_init) := ggX0_init_X1_init
theorem dX0_init_0 : decode cX0_init 0 = .ok (.aload_n 0, 1) := by decide +kernel
theorem dX0_init_1 : decode cX0_init 1 = .ok (.invokespecial 1, 3) := by decide +kernel
theorem dX0_init_4 : decode cX0_init 4 = .ok (.aload_n 0, 1) := by decide +kernel
theorem dX0_init_5 : decode cX0_init 5 = .ok (.iload_n 1, 1) := by decide +kernel
theorem dX0_init_6 : decode cX0_init 6 = .ok (.putfield 7, 3) := by decide +kernel
theorem dX0_init_9 : decode cX0_init 9 = .ok (.aload_n 0, 1) := by decide +kernel
theorem dX0_init_10 : decode cX0_init 10 = .ok (.new 13, 3) := by decide +kernel
theorem dX0_init_13 : decode cX0_init 13 = .ok (.dup, 1) := by decide +kernel
theorem dX0_init_14 : decode cX0_init 14 = .ok (.iload_n 1, 1) := by decide +kernel
theorem dX0_init_15 : decode cX0_init 15 = .ok (.invokespecial 15, 3) := by decide +kernel
theorem dX0_init_18 : decode cX0_init 18 = .ok (.putfield 18, 3) := by decide +kernel
theorem dX0_init_21 : decode cX0_init 21 = .ok (.aload_n 0, 1) := by decide +kernel
theorem dX0_init_22 : decode cX0_init 22 = .ok (.new 13, 3) := by decide +kernel
theorem dX0_init_25 : decode cX0_init 25 = .ok (.dup, 1) := by decide +kernel
theorem dX0_init_26 : decode cX0_init 26 = .ok (.iload_n 1, 1) := by decide +kernel
theorem dX0_init_27 : decode cX0_init 27 = .ok (.invokespecial 15, 3) := by decide +kernel
theorem dX0_init_30 : decode cX0_init 30 = .ok (.putfield 22, 3) := by decide +kernel
theorem dX0_init_33 : decode cX0_init 33 = .ok (.return_, 1) := by decide +kernel
set_option maxRecDepth 20000 in
theorem ggX0_hasOctet_X7_isWithin : GoodIn wsX0_hasOctet wsX7_isWithin := goodIn_r _ [4] (by decide +kernel) (by decide +kernel)
set_option maxRecDepth 20000 in
theorem gX0_hasOctet_X7_isWithin_n25 : GoodIn wsX0_hasOctet (wsX7_isWithin) := ggX0_hasOctet_X7_isWithin
theorem dX0_hasOctet_0 : decode cX0_hasOctet 0 = .ok (.iload_n 1, 1) := by decide +kernel
theorem dX0_hasOctet_1 : decode cX0_hasOctet 1 = .ok (.i2l, 1) := by decide +kernel
theorem dX0_hasOctet_2 : decode cX0_hasOctet 2 = .ok (.lconst 0, 1) := by decide +kernel
theorem dX0_hasOctet_3 : decode cX0_hasOctet 3 = .ok (.aload_n 0, 1) := by decide +kernel
theorem dX0_hasOctet_4 : decode cX0_hasOctet 4 = .ok (.getfield 7, 3) := by decide +kernel
theorem dX0_hasOctet_7 : decode cX0_hasOctet 7 = .ok (.iconst 1, 1) := by decide +kernel
theorem dX0_hasOctet_8 : decode cX0_hasOctet 8 = .ok (.isub, 1) := by decide +kernel
theorem dX0_hasOctet_9 : decode cX0_hasOctet 9 = .ok (.i2l, 1) := by decide +kernel
theorem dX0_hasOctet_10 : decode cX0_hasOctet 10 = .ok (.invokestatic 25, 3) := by decide +kernel
theorem dX0_hasOctet_13 : decode cX0_hasOctet 13 = .ok (.ireturn, 1) := by decide +kernel
set_option maxRecDepth 20000 in
theorem ggX0_repair_X1_isGood : GoodIn wsX0_repair wsX1_isGood := goodIn_r _ [6, 7, 8, 9, 10, 4, 11, 12, 30, 31] (by decide +kernel) (by decide +kernel)
set_option maxRecDepth 20000 in
theorem gX0_repair_X1_isGood_n31 : GoodIn wsX0_repair (wsX1_isGood) := ggX0_repair_X1_isGood
set_option maxRecDepth 20000 in
theorem ggX0_repair_X1_become : GoodIn wsX0_repair wsX1_become := goodIn_r _ [15, 8, 16, 17, 18, 19, 7, 30, 31] (by decide +kernel) (by decide +kernel)
set_option maxRecDepth 20000 in
theorem gX0_repair_X1_become_n35 : GoodIn wsX0_repair (wsX1_become) := ggX0_repair_X1_become
set_option maxRecDepth 20000 in
theorem ggX0_repair_X1_clear : GoodIn wsX0_repair wsX1_clear := goodIn_r _ [22, 8, 7, 23, 24, 25, 26, 9, 10, 4, 11, 12, 30, 31] (by decide +kernel) (by decide +kernel)
set_option maxRecDepth 20000 in
theorem gX0_repair_X1_clear_n39 : GoodIn wsX0_repair (wsX1_clear) := ggX0_repair_X1_clear
theorem dX0_repair_0 : decode cX0_repair 0 = .ok (.aload_n 0, 1) := by decide +kernel
theorem dX0_repair_1 : decode cX0_repair 1 = .ok (.getfield 18, 3) := by decide +kernel
theorem dX0_repair_4 : decode cX0_repair 4 = .ok (.invokevirtual 31, 3) := by decide +kernel
theorem dX0_repair_7 : decode cX0_repair 7 = .ok (.ifCond .eq 16, 3) := by decide +kernel
theorem dX0_repair_10 : decode cX0_repair 10 = .ok (.aload_n 0, 1) := by decide +kernel
theorem dX0_repair_11 : decode cX0_repair 11 = .ok (.getfield 22, 3) := by decide +kernel
theorem dX0_repair_14 : decode cX0_repair 14 = .ok (.aload_n 0, 1) := by decide +kernel
theorem dX0_repair_15 : decode cX0_repair 15 = .ok (.getfield 18, 3) := by decide +kernel
theorem dX0_repair_18 : decode cX0_repair 18 = .ok (.invokevirtual 35, 3) := by decide +kernel
theorem dX0_repair_21 : decode cX0_repair 21 = .ok (.iconst 1, 1) := by decide +kernel
theorem dX0_repair_22 : decode cX0_repair 22 = .ok (.ireturn, 1) := by decide +kernel
theorem dX0_repair_23 : decode cX0_repair 23 = .ok (.aload_n 0, 1) := by decide +kernel
theorem dX0_repair_24 : decode cX0_repair 24 = .ok (.getfield 22, 3) := by decide +kernel
theorem dX0_repair_27 : decode cX0_repair 27 = .ok (.invokevirtual 31, 3) := by decide +kernel
theorem dX0_repair_30 : decode cX0_repair 30 = .ok (.ifCond .eq 16, 3) := by decide +kernel
theorem dX0_repair_33 : decode cX0_repair 33 = .ok (.aload_n 0, 1) := by decide +kernel
theorem dX0_repair_34 : decode cX0_repair 34 = .ok (.getfield 18, 3) := by decide +kernel
theorem dX0_repair_37 : decode cX0_repair 37 = .ok (.aload_n 0, 1) := by decide +kernel
theorem dX0_repair_38 : decode cX0_repair 38 = .ok (.getfield 22, 3) := by decide +kernel
theorem dX0_repair_41 : decode cX0_repair 41 = .ok (.invokevirtual 35, 3) := by decide +kernel
theorem dX0_repair_44 : decode cX0_repair 44 = .ok (.iconst 2, 1) := by decide +kernel
theorem dX0_repair_45 : decode cX0_repair 45 = .ok (.ireturn, 1) := by decide +kernel
theorem dX0_repair_46 : decode cX0_repair 46 = .ok (.aload_n 0, 1) := by decide +kernel
theorem dX0_repair_47 : decode cX0_repair 47 = .ok (.getfield 18, 3) := by decide +kernel
theorem dX0_repair_50 : decode cX0_repair 50 = .ok (.invokevirtual 39, 3) := by decide +kernel
theorem dX0_repair_53 : decode cX0_repair 53 = .ok (.aload_n 0, 1) := by decide +kernel
theorem dX0_repair_54 : decode cX0_repair 54 = .ok (.getfield 22, 3) := by decide +kernel
theorem dX0_repair_57 : decode cX0_repair 57 = .ok (.invokevirtual 39, 3) := by decide +kernel
theorem dX0_repair_60 : decode cX0_repair 60 = .ok (.iconst 0, 1) := by decide +kernel
theorem dX0_repair_61 : decode cX0_repair 61 = .ok (.ireturn, 1) := by decide +kernel
set_option maxRecDepth 20000 in
theorem ggX1_init_X1_sumOf : GoodIn wsX1_init wsX1_sumOf := goodIn_r _ [10, 11] (by decide +kernel) (by decide +kernel)
set_option maxRecDepth 20000 in
theorem gX1_init_X1_sumOf : GoodIn wsX1_init (va_wsS RX1 15 yX1_sumOf wsX1_sumOf) := goodIn_app (goodIn_of _ (by decide +kernel)) ggX1_init_X1_sumOf
theorem dX1_init_0 : decode cX1_init 0 = .ok (.aload_n 0, 1) := by decide +kernel
theorem dX1_init_1 : decode cX1_init 1 = .ok (.invokespecial 3, 3) := by decide +kernel
theorem dX1_init_4 : decode cX1_init 4 = .ok (.aload_n 0, 1) := by decide +kernel
theorem dX1_init_5 : decode cX1_init 5 = .ok (.iload_n 1, 1) := by decide +kernel
theorem dX1_init_6 : decode cX1_init 6 = .ok (.newarray .byte, 2) := by decide +kernel
theorem dX1_init_8 : decode cX1_init 8 = .ok (.putfield 9, 3) := by decide +kernel
theorem dX1_init_11 : decode cX1_init 11 = .ok (.aload_n 0, 1) := by decide +kernel
theorem dX1_init_12 : decode cX1_init 12 = .ok (.aload_n 0, 1) := by decide +kernel
theorem dX1_init_13 : decode cX1_init 13 = .ok (.getfield 9, 3) := by decide +kernel
theorem dX1_init_16 : decode cX1_init 16 = .ok (.invokestatic 15, 3) := by decide +kernel
theorem dX1_init_19 : decode cX1_init 19 = .ok (.putfield 19, 3) := by decide +kernel
theorem dX1_init_22 : decode cX1_init 22 = .ok (.return_, 1) := by decide +kernel
set_option maxRecDepth 20000 in
theorem ggX1_isGood_X1_sumOf : GoodIn wsX1_isGood wsX1_sumOf := goodIn_r _ [6, 7] (by decide +kernel) (by decide +kernel)
set_option maxRecDepth 20000 in
theorem gX1_isGood_X1_sumOf : GoodIn wsX1_isGood (va_wsS RX1 15 yX1_sumOf wsX1_sumOf) := goodIn_app (goodIn_of _ (by decide +kernel)) ggX1_isGood_X1_sumOf
theorem dX1_isGood_0 : decode cX1_isGood 0 = .ok (.aload_n 0, 1) := by decide +kernel
theorem dX1_isGood_1 : decode cX1_isGood 1 = .ok (.getfield 19, 3) := by decide +kernel
theorem dX1_isGood_4 : decode cX1_isGood 4 = .ok (.aload_n 0, 1) := by decide +kernel
theorem dX1_isGood_5 : decode cX1_isGood 5 = .ok (.getfield 9, 3) := by decide +kernel
theorem dX1_isGood_8 : decode cX1_isGood 8 = .ok (.invokestatic 15, 3) := by decide +kernel
theorem dX1_isGood_11 : decode cX1_isGood 11 = .ok (.if_icmp .ne 7, 3) := by decide +kernel
theorem dX1_isGood_14 : decode cX1_isGood 14 = .ok (.iconst 1, 1) := by decide +kernel
theorem dX1_isGood_15 : decode cX1_isGood 15 = .ok (.goto 4, 3) := by decide +kernel
theorem dX1_isGood_18 : decode cX1_isGood 18 = .ok (.iconst 0, 1) := by decide +kernel
theorem dX1_isGood_19 : decode cX1_isGood 19 = .ok (.ireturn, 1) := by decide +kernel
set_option maxRecDepth 20000 in
theorem ggX1_setOctet_X1_sumOf : GoodIn wsX1_setOctet wsX1_sumOf := goodIn_r _ [6, 7] (by decide +kernel) (by decide +kernel)
set_option maxRecDepth 20000 in
theorem gX1_setOctet_X1_sumOf : GoodIn wsX1_setOctet (va_wsS RX1 15 yX1_sumOf wsX1_sumOf) := goodIn_app (goodIn_of _ (by decide +kernel)) ggX1_setOctet_X1_sumOf
theorem dX1_setOctet_0 : decode cX1_setOctet 0 = .ok (.aload_n 0, 1) := by decide +kernel
theorem dX1_setOctet_1 : decode cX1_setOctet 1 = .ok (.getfield 9, 3) := by decide +kernel
theorem dX1_setOctet_4 : decode cX1_setOctet 4 = .ok (.iload_n 1, 1) := by decide +kernel
theorem dX1_setOctet_5 : decode cX1_setOctet 5 = .ok (.iload_n 2, 1) := by decide +kernel
theorem dX1_setOctet_6 : decode cX1_setOctet 6 = .ok (.bastore, 1) := by decide +kernel
theorem dX1_setOctet_7 : decode cX1_setOctet 7 = .ok (.aload_n 0, 1) := by decide +kernel
theorem dX1_setOctet_8 : decode cX1_setOctet 8 = .ok (.aload_n 0, 1) := by decide +kernel
theorem dX1_setOctet_9 : decode cX1_setOctet 9 = .ok (.getfield 9, 3) := by decide +kernel
theorem dX1_setOctet_12 : decode cX1_setOctet 12 = .ok (.invokestatic 15, 3) := by decide +kernel
theorem dX1_setOctet_15 : decode cX1_setOctet 15 = .ok (.putfield 19, 3) := by decide +kernel
theorem dX1_setOctet_18 : decode cX1_setOctet 18 = .ok (.return_, 1) := by decide +kernel
theorem dX1_flip_0 : decode cX1_flip 0 = .ok (.aload_n 0, 1) := by decide +kernel
theorem dX1_flip_1 : decode cX1_flip 1 = .ok (.getfield 9, 3) := by decide +kernel
theorem dX1_flip_4 : decode cX1_flip 4 = .ok (.iload_n 1, 1) := by decide +kernel
theorem dX1_flip_5 : decode cX1_flip 5 = .ok (.aload_n 0, 1) := by decide +kernel
theorem dX1_flip_6 : decode cX1_flip 6 = .ok (.getfield 9, 3) := by decide +kernel
theorem dX1_flip_9 : decode cX1_flip 9 = .ok (.iload_n 1, 1) := by decide +kernel
theorem dX1_flip_10 : decode cX1_flip 10 = .ok (.baload, 1) := by decide +kernel
theorem dX1_flip_11 : decode cX1_flip 11 = .ok (.iload_n 2, 1) := by decide +kernel
theorem dX1_flip_12 : decode cX1_flip 12 = .ok (.ixor, 1) := by decide +kernel
theorem dX1_flip_13 : decode cX1_flip 13 = .ok (.i2b, 1) := by decide +kernel
theorem dX1_flip_14 : decode cX1_flip 14 = .ok (.bastore, 1) := by decide +kernel
theorem dX1_flip_15 : decode cX1_flip 15 = .ok (.aload_n 0, 1) := by decide +kernel
theorem dX1_flip_16 : decode cX1_flip 16 = .ok (.getfield 9, 3) := by decide +kernel
theorem dX1_flip_19 : decode cX1_flip 19 = .ok (.iload_n 1, 1) := by decide +kernel
theorem dX1_flip_20 : decode cX1_flip 20 = .ok (.baload, 1) := by decide +kernel
theorem dX1_flip_21 : decode cX1_flip 21 = .ok (.sipush 255, 3) := by decide +kernel
theorem dX1_flip_24 : decode cX1_flip 24 = .ok (.iand, 1) := by decide +kernel
theorem dX1_flip_25 : decode cX1_flip 25 = .ok (.ireturn, 1) := by decide +kernel
theorem dX1_become_0 : decode cX1_become 0 = .ok (.aload_n 1, 1) := by decide +kernel
theorem dX1_become_1 : decode cX1_become 1 = .ok (.getfield 9, 3) := by decide +kernel
theorem dX1_become_4 : decode cX1_become 4 = .ok (.iconst 0, 1) := by decide +kernel
theorem dX1_become_5 : decode cX1_become 5 = .ok (.aload_n 0, 1) := by decide +kernel
theorem dX1_become_6 : decode cX1_become 6 = .ok (.getfield 9, 3) := by decide +kernel
theorem dX1_become_9 : decode cX1_become 9 = .ok (.iconst 0, 1) := by decide +kernel
theorem dX1_become_10 : decode cX1_become 10 = .ok (.aload_n 0, 1) := by decide +kernel
theorem dX1_become_11 : decode cX1_become 11 = .ok (.getfield 9, 3) := by decide +kernel
theorem dX1_become_14 : decode cX1_become 14 = .ok (.arraylength, 1) := by decide +kernel
theorem dX1_become_15 : decode cX1_become 15 = .ok (.invokestatic 23, 3) := by decide +kernel
theorem dX1_become_18 : decode cX1_become 18 = .ok (.aload_n 0, 1) := by decide +kernel
theorem dX1_become_19 : decode cX1_become 19 = .ok (.aload_n 1, 1) := by decide +kernel
theorem dX1_become_20 : decode cX1_become 20 = .ok (.getfield 19, 3) := by decide +kernel
theorem dX1_become_23 : decode cX1_become 23 = .ok (.putfield 19, 3) := by decide +kernel
theorem dX1_become_26 : decode cX1_become 26 = .ok (.return_, 1) := by decide +kernel
set_option maxRecDepth 20000 in
theorem ggX1_clear_J7_fill_031fb : GoodIn wsX1_clear wsJ7_fill_031fb := goodIn_r _ [6] (by decide +kernel) (by decide +kernel)
set_option maxRecDepth 20000 in
theorem gX1_clear_J7_fill_031fb : GoodIn wsX1_clear (va_wsS RX1 29 yJ7_fill_031fb wsJ7_fill_031fb) := goodIn_app (goodIn_of _ (by decide +kernel)) ggX1_clear_J7_fill_031fb
set_option maxRecDepth 20000 in
theorem ggX1_clear_X1_sumOf : GoodIn wsX1_clear wsX1_sumOf := goodIn_r _ [10, 11] (by decide +kernel) (by decide +kernel)
set_option maxRecDepth 20000 in
theorem gX1_clear_X1_sumOf : GoodIn wsX1_clear (va_wsS RX1 15 yX1_sumOf wsX1_sumOf) := goodIn_app (goodIn_of _ (by decide +kernel)) ggX1_clear_X1_sumOf
theorem dX1_clear_0 : decode cX1_clear 0 = .ok (.aload_n 0, 1) := by decide +kernel
theorem dX1_clear_1 : decode cX1_clear 1 = .ok (.getfield 9, 3) := by decide +kernel
theorem dX1_clear_4 : decode cX1_clear 4 = .ok (.iconst 0, 1) := by decide +kernel
theorem dX1_clear_5 : decode cX1_clear 5 = .ok (.invokestatic 29, 3) := by decide +kernel
theorem dX1_clear_8 : decode cX1_clear 8 = .ok (.aload_n 0, 1) := by decide +kernel
theorem dX1_clear_9 : decode cX1_clear 9 = .ok (.aload_n 0, 1) := by decide +kernel
theorem dX1_clear_10 : decode cX1_clear 10 = .ok (.getfield 9, 3) := by decide +kernel
theorem dX1_clear_13 : decode cX1_clear 13 = .ok (.invokestatic 15, 3) := by decide +kernel
theorem dX1_clear_16 : decode cX1_clear 16 = .ok (.putfield 19, 3) := by decide +kernel
theorem dX1_clear_19 : decode cX1_clear 19 = .ok (.return_, 1) := by decide +kernel
theorem dX1_sumOf_0 : decode cX1_sumOf 0 = .ok (.iconst 1, 1) := by decide +kernel
theorem dX1_sumOf_1 : decode cX1_sumOf 1 = .ok (.istore_n 1, 1) := by decide +kernel
theorem dX1_sumOf_2 : decode cX1_sumOf 2 = .ok (.iconst 0, 1) := by decide +kernel
theorem dX1_sumOf_3 : decode cX1_sumOf 3 = .ok (.istore_n 2, 1) := by decide +kernel
theorem dX1_sumOf_4 : decode cX1_sumOf 4 = .ok (.iload_n 2, 1) := by decide +kernel
theorem dX1_sumOf_5 : decode cX1_sumOf 5 = .ok (.aload_n 0, 1) := by decide +kernel
theorem dX1_sumOf_6 : decode cX1_sumOf 6 = .ok (.arraylength, 1) := by decide +kernel
theorem dX1_sumOf_7 : decode cX1_sumOf 7 = .ok (.if_icmp .ge 31, 3) := by decide +kernel
theorem dX1_sumOf_10 : decode cX1_sumOf 10 = .ok (.iload_n 1, 1) := by decide +kernel
theorem dX1_sumOf_11 : decode cX1_sumOf 11 = .ok (.aload_n 0, 1) := by decide +kernel
theorem dX1_sumOf_12 : decode cX1_sumOf 12 = .ok (.iload_n 2, 1) := by decide +kernel
theorem dX1_sumOf_13 : decode cX1_sumOf 13 = .ok (.baload, 1) := by decide +kernel
theorem dX1_sumOf_14 : decode cX1_sumOf 14 = .ok (.sipush 255, 3) := by decide +kernel
theorem dX1_sumOf_17 : decode cX1_sumOf 17 = .ok (.iand, 1) := by decide +kernel
theorem dX1_sumOf_18 : decode cX1_sumOf 18 = .ok (.ixor, 1) := by decide +kernel
theorem dX1_sumOf_19 : decode cX1_sumOf 19 = .ok (.istore_n 3, 1) := by decide +kernel
theorem dX1_sumOf_20 : decode cX1_sumOf 20 = .ok (.iload_n 3, 1) := by decide +kernel
theorem dX1_sumOf_21 : decode cX1_sumOf 21 = .ok (.iconst 5, 1) := by decide +kernel
theorem dX1_sumOf_22 : decode cX1_sumOf 22 = .ok (.ishl, 1) := by decide +kernel
theorem dX1_sumOf_23 : decode cX1_sumOf 23 = .ok (.iload_n 3, 1) := by decide +kernel
theorem dX1_sumOf_24 : decode cX1_sumOf 24 = .ok (.bipush 27, 2) := by decide +kernel
theorem dX1_sumOf_26 : decode cX1_sumOf 26 = .ok (.iushr, 1) := by decide +kernel
theorem dX1_sumOf_27 : decode cX1_sumOf 27 = .ok (.ior, 1) := by decide +kernel
theorem dX1_sumOf_28 : decode cX1_sumOf 28 = .ok (.ldc 35, 2) := by decide +kernel
theorem dX1_sumOf_30 : decode cX1_sumOf 30 = .ok (.imul, 1) := by decide +kernel
theorem dX1_sumOf_31 : decode cX1_sumOf 31 = .ok (.istore_n 1, 1) := by decide +kernel
theorem dX1_sumOf_32 : decode cX1_sumOf 32 = .ok (.iinc 2 1, 3) := by decide +kernel
theorem dX1_sumOf_35 : decode cX1_sumOf 35 = .ok (.goto (-31), 3) := by decide +kernel
theorem dX1_sumOf_38 : decode cX1_sumOf 38 = .ok (.iload_n 1, 1) := by decide +kernel
theorem dX1_sumOf_39 : decode cX1_sumOf 39 = .ok (.ireturn, 1) := by decide +kernel
theorem dX2_init_0 : decode cX2_init 0 = .ok (.aload_n 0, 1) := by decide +kernel
theorem dX2_init_1 : decode cX2_init 1 = .ok (.invokespecial 3, 3) := by decide +kernel
theorem dX2_init_4 : decode cX2_init 4 = .ok (.aload_n 0, 1) := by decide +kernel
theorem dX2_init_5 : decode cX2_init 5 = .ok (.bipush 31, 2) := by decide +kernel
theorem dX2_init_7 : decode cX2_init 7 = .ok (.newarray .int, 2) := by decide +kernel
theorem dX2_init_9 : decode cX2_init 9 = .ok (.putfield 9, 3) := by decide +kernel
theorem dX2_init_12 : decode cX2_init 12 = .ok (.aload_n 0, 1) := by decide +kernel
theorem dX2_init_13 : decode cX2_init 13 = .ok (.bipush 31, 2) := by decide +kernel
theorem dX2_init_15 : decode cX2_init 15 = .ok (.newarray .int, 2) := by decide +kernel
theorem dX2_init_17 : decode cX2_init 17 = .ok (.putfield 15, 3) := by decide +kernel
theorem dX2_init_20 : decode cX2_init 20 = .ok (.aload_n 0, 1) := by decide +kernel
theorem dX2_init_21 : decode cX2_init 21 = .ok (.bipush 31, 2) := by decide +kernel
theorem dX2_init_23 : decode cX2_init 23 = .ok (.newarray .int, 2) := by decide +kernel
theorem dX2_init_25 : decode cX2_init 25 = .ok (.putfield 18, 3) := by decide +kernel
theorem dX2_init_28 : decode cX2_init 28 = .ok (.return_, 1) := by decide +kernel
theorem dX2_addCall_0 : decode cX2_addCall 0 = .ok (.aload_n 0, 1) := by decide +kernel
theorem dX2_addCall_1 : decode cX2_addCall 1 = .ok (.getfield 15, 3) := by decide +kernel
theorem dX2_addCall_4 : decode cX2_addCall 4 = .ok (.iload_n 1, 1) := by decide +kernel
theorem dX2_addCall_5 : decode cX2_addCall 5 = .ok (.dup2, 1) := by decide +kernel
theorem dX2_addCall_6 : decode cX2_addCall 6 = .ok (.iaload, 1) := by decide +kernel
theorem dX2_addCall_7 : decode cX2_addCall 7 = .ok (.iconst 1, 1) := by decide +kernel
theorem dX2_addCall_8 : decode cX2_addCall 8 = .ok (.iload_n 2, 1) := by decide +kernel
theorem dX2_addCall_9 : decode cX2_addCall 9 = .ok (.ishl, 1) := by decide +kernel
theorem dX2_addCall_10 : decode cX2_addCall 10 = .ok (.ior, 1) := by decide +kernel
theorem dX2_addCall_11 : decode cX2_addCall 11 = .ok (.iastore, 1) := by decide +kernel
theorem dX2_addCall_12 : decode cX2_addCall 12 = .ok (.return_, 1) := by decide +kernel
set_option maxRecDepth 20000 in
theorem ggX2_countCalls_J6_bitCount_0f7a4 : GoodIn wsX2_countCalls wsJ6_bitCount_0f7a4 := goodIn_r _ [5, 6, 7, 8] (by decide +kernel) (by decide +kernel)
set_option maxRecDepth 20000 in
theorem gX2_countCalls_J6_bitCount_0f7a4 : GoodIn wsX2_countCalls (va_wsS RX2 21 yJ6_bitCount_0f7a4 wsJ6_bitCount_0f7a4) := goodIn_app (goodIn_of _ (by decide +kernel)) ggX2_countCalls_J6_bitCount_0f7a4
theorem dX2_countCalls_0 : decode cX2_countCalls 0 = .ok (.aload_n 0, 1) := by decide +kernel
theorem dX2_countCalls_1 : decode cX2_countCalls 1 = .ok (.getfield 15, 3) := by decide +kernel
theorem dX2_countCalls_4 : decode cX2_countCalls 4 = .ok (.iload_n 1, 1) := by decide +kernel
theorem dX2_countCalls_5 : decode cX2_countCalls 5 = .ok (.iaload, 1) := by decide +kernel
theorem dX2_countCalls_6 : decode cX2_countCalls 6 = .ok (.invokestatic 21, 3) := by decide +kernel
theorem dX2_countCalls_9 : decode cX2_countCalls 9 = .ok (.ireturn, 1) := by decide +kernel
set_option maxRecDepth 20000 in
theorem ggX2_depthFrom_X2_contains : GoodIn wsX2_depthFrom wsX2_contains := goodIn_r _ [5] (by decide +kernel) (by decide +kernel)
set_option maxRecDepth 20000 in
theorem gX2_depthFrom_X2_contains : GoodIn wsX2_depthFrom (va_wsS RX2 27 yX2_contains wsX2_contains) := goodIn_app (goodIn_of _ (by decide +kernel)) ggX2_depthFrom_X2_contains
set_option maxRecDepth 20000 in
theorem ggX2_depthFrom_X2_settleMore : GoodIn wsX2_depthFrom wsX2_settleMore := goodIn_r _ [9, 10, 1, 11, 2, 3, 4, 5, 12, 13, 14, 15, 16, 17, 18, 19, 20, 21, 22] (by decide +kernel) (by decide +kernel)
set_option maxRecDepth 20000 in
theorem gX2_depthFrom_X2_settleMore : GoodIn wsX2_depthFrom (wsV RX2 31 RX2 yX2_settleMore wsX2_settleMore) := goodIn_app (goodIn_of _ (by decide +kernel)) ggX2_depthFrom_X2_settleMore
theorem dX2_depthFrom_0 : decode cX2_depthFrom 0 = .ok (.iconst 0, 1) := by decide +kernel
theorem dX2_depthFrom_1 : decode cX2_depthFrom 1 = .ok (.istore_n 2, 1) := by decide +kernel
theorem dX2_depthFrom_2 : decode cX2_depthFrom 2 = .ok (.iconst 0, 1) := by decide +kernel
theorem dX2_depthFrom_3 : decode cX2_depthFrom 3 = .ok (.istore_n 3, 1) := by decide +kernel
theorem dX2_depthFrom_4 : decode cX2_depthFrom 4 = .ok (.iload_n 3, 1) := by decide +kernel
theorem dX2_depthFrom_5 : decode cX2_depthFrom 5 = .ok (.bipush 30, 2) := by decide +kernel
theorem dX2_depthFrom_7 : decode cX2_depthFrom 7 = .ok (.if_icmp .ge 23, 3) := by decide +kernel
theorem dX2_depthFrom_10 : decode cX2_depthFrom 10 = .ok (.iload_n 2, 1) := by decide +kernel
theorem dX2_depthFrom_11 : decode cX2_depthFrom 11 = .ok (.iload_n 1, 1) := by decide +kernel
theorem dX2_depthFrom_12 : decode cX2_depthFrom 12 = .ok (.invokestatic 27, 3) := by decide +kernel
theorem dX2_depthFrom_15 : decode cX2_depthFrom 15 = .ok (.ifCond .ne 15, 3) := by decide +kernel
theorem dX2_depthFrom_18 : decode cX2_depthFrom 18 = .ok (.aload_n 0, 1) := by decide +kernel
theorem dX2_depthFrom_19 : decode cX2_depthFrom 19 = .ok (.iload_n 2, 1) := by decide +kernel
theorem dX2_depthFrom_20 : decode cX2_depthFrom 20 = .ok (.invokevirtual 31, 3) := by decide +kernel
theorem dX2_depthFrom_23 : decode cX2_depthFrom 23 = .ok (.istore_n 2, 1) := by decide +kernel
theorem dX2_depthFrom_24 : decode cX2_depthFrom 24 = .ok (.iinc 3 1, 3) := by decide +kernel
theorem dX2_depthFrom_27 : decode cX2_depthFrom 27 = .ok (.goto (-23), 3) := by decide +kernel
theorem dX2_depthFrom_30 : decode cX2_depthFrom 30 = .ok (.iload_n 2, 1) := by decide +kernel
theorem dX2_depthFrom_31 : decode cX2_depthFrom 31 = .ok (.iload_n 1, 1) := by decide +kernel
theorem dX2_depthFrom_32 : decode cX2_depthFrom 32 = .ok (.invokestatic 27, 3) := by decide +kernel
theorem dX2_depthFrom_35 : decode cX2_depthFrom 35 = .ok (.ifCond .eq 12, 3) := by decide +kernel
theorem dX2_depthFrom_38 : decode cX2_depthFrom 38 = .ok (.aload_n 0, 1) := by decide +kernel
theorem dX2_depthFrom_39 : decode cX2_depthFrom 39 = .ok (.getfield 18, 3) := by decide +kernel
theorem dX2_depthFrom_42 : decode cX2_depthFrom 42 = .ok (.iload_n 1, 1) := by decide +kernel
theorem dX2_depthFrom_43 : decode cX2_depthFrom 43 = .ok (.iaload, 1) := by decide +kernel
theorem dX2_depthFrom_44 : decode cX2_depthFrom 44 = .ok (.goto 4, 3) := by decide +kernel
theorem dX2_depthFrom_47 : decode cX2_depthFrom 47 = .ok (.iconst (-1), 1) := by decide +kernel
theorem dX2_depthFrom_48 : decode cX2_depthFrom 48 = .ok (.ireturn, 1) := by decide +kernel
set_option maxRecDepth 20000 in
theorem ggX2_settleMore_X2_contains : GoodIn wsX2_settleMore wsX2_contains := goodIn_r _ [7] (by decide +kernel) (by decide +kernel)
set_option maxRecDepth 20000 in
theorem gX2_settleMore_X2_contains : GoodIn wsX2_settleMore (va_wsS RX2 27 yX2_contains wsX2_contains) := goodIn_app (goodIn_of _ (by decide +kernel)) ggX2_settleMore_X2_contains
set_option maxRecDepth 20000 in
theorem ggX2_settleMore_X2_deepestCalled : GoodIn wsX2_settleMore wsX2_deepestCalled := goodIn_r _ [11, 1, 2, 12, 13, 14, 15, 4, 5, 6, 7, 16, 17, 18] (by decide +kernel) (by decide +kernel)
set_option maxRecDepth 20000 in
theorem gX2_settleMore_X2_deepestCalled : GoodIn wsX2_settleMore (wsV RX2 34 RX2 yX2_deepestCalled wsX2_deepestCalled) := goodIn_app (goodIn_of _ (by decide +kernel)) ggX2_settleMore_X2_deepestCalled
theorem dX2_settleMore_0 : decode cX2_settleMore 0 = .ok (.iload_n 1, 1) := by decide +kernel
theorem dX2_settleMore_1 : decode cX2_settleMore 1 = .ok (.istore_n 2, 1) := by decide +kernel
theorem dX2_settleMore_2 : decode cX2_settleMore 2 = .ok (.iconst 1, 1) := by decide +kernel
theorem dX2_settleMore_3 : decode cX2_settleMore 3 = .ok (.istore_n 3, 1) := by decide +kernel
theorem dX2_settleMore_4 : decode cX2_settleMore 4 = .ok (.iload_n 3, 1) := by decide +kernel
theorem dX2_settleMore_5 : decode cX2_settleMore 5 = .ok (.bipush 30, 2) := by decide +kernel
theorem dX2_settleMore_7 : decode cX2_settleMore 7 = .ok (.if_icmp .gt 54, 3) := by decide +kernel
theorem dX2_settleMore_10 : decode cX2_settleMore 10 = .ok (.iload_n 2, 1) := by decide +kernel
theorem dX2_settleMore_11 : decode cX2_settleMore 11 = .ok (.iload_n 3, 1) := by decide +kernel
theorem dX2_settleMore_12 : decode cX2_settleMore 12 = .ok (.invokestatic 27, 3) := by decide +kernel
theorem dX2_settleMore_15 : decode cX2_settleMore 15 = .ok (.ifCond .ne 40, 3) := by decide +kernel
theorem dX2_settleMore_18 : decode cX2_settleMore 18 = .ok (.aload_n 0, 1) := by decide +kernel
theorem dX2_settleMore_19 : decode cX2_settleMore 19 = .ok (.getfield 15, 3) := by decide +kernel
theorem dX2_settleMore_22 : decode cX2_settleMore 22 = .ok (.iload_n 3, 1) := by decide +kernel
theorem dX2_settleMore_23 : decode cX2_settleMore 23 = .ok (.iaload, 1) := by decide +kernel
theorem dX2_settleMore_24 : decode cX2_settleMore 24 = .ok (.iload_n 2, 1) := by decide +kernel
theorem dX2_settleMore_25 : decode cX2_settleMore 25 = .ok (.iconst (-1), 1) := by decide +kernel
theorem dX2_settleMore_26 : decode cX2_settleMore 26 = .ok (.ixor, 1) := by decide +kernel
theorem dX2_settleMore_27 : decode cX2_settleMore 27 = .ok (.iand, 1) := by decide +kernel
theorem dX2_settleMore_28 : decode cX2_settleMore 28 = .ok (.ifCond .ne 27, 3) := by decide +kernel
theorem dX2_settleMore_31 : decode cX2_settleMore 31 = .ok (.aload_n 0, 1) := by decide +kernel
theorem dX2_settleMore_32 : decode cX2_settleMore 32 = .ok (.getfield 18, 3) := by decide +kernel
theorem dX2_settleMore_35 : decode cX2_settleMore 35 = .ok (.iload_n 3, 1) := by decide +kernel
theorem dX2_settleMore_36 : decode cX2_settleMore 36 = .ok (.aload_n 0, 1) := by decide +kernel
theorem dX2_settleMore_37 : decode cX2_settleMore 37 = .ok (.getfield 9, 3) := by decide +kernel
theorem dX2_settleMore_40 : decode cX2_settleMore 40 = .ok (.iload_n 3, 1) := by decide +kernel
theorem dX2_settleMore_41 : decode cX2_settleMore 41 = .ok (.iaload, 1) := by decide +kernel
theorem dX2_settleMore_42 : decode cX2_settleMore 42 = .ok (.aload_n 0, 1) := by decide +kernel
theorem dX2_settleMore_43 : decode cX2_settleMore 43 = .ok (.iload_n 3, 1) := by decide +kernel
theorem dX2_settleMore_44 : decode cX2_settleMore 44 = .ok (.invokevirtual 34, 3) := by decide +kernel
theorem dX2_settleMore_47 : decode cX2_settleMore 47 = .ok (.iadd, 1) := by decide +kernel
theorem dX2_settleMore_48 : decode cX2_settleMore 48 = .ok (.iastore, 1) := by decide +kernel
theorem dX2_settleMore_49 : decode cX2_settleMore 49 = .ok (.iload_n 2, 1) := by decide +kernel
theorem dX2_settleMore_50 : decode cX2_settleMore 50 = .ok (.iconst 1, 1) := by decide +kernel
theorem dX2_settleMore_51 : decode cX2_settleMore 51 = .ok (.iload_n 3, 1) := by decide +kernel
theorem dX2_settleMore_52 : decode cX2_settleMore 52 = .ok (.ishl, 1) := by decide +kernel
theorem dX2_settleMore_53 : decode cX2_settleMore 53 = .ok (.ior, 1) := by decide +kernel
theorem dX2_settleMore_54 : decode cX2_settleMore 54 = .ok (.istore_n 2, 1) := by decide +kernel
theorem dX2_settleMore_55 : decode cX2_settleMore 55 = .ok (.iinc 3 1, 3) := by decide +kernel
theorem dX2_settleMore_58 : decode cX2_settleMore 58 = .ok (.goto (-54), 3) := by decide +kernel
theorem dX2_settleMore_61 : decode cX2_settleMore 61 = .ok (.iload_n 2, 1) := by decide +kernel
theorem dX2_settleMore_62 : decode cX2_settleMore 62 = .ok (.ireturn, 1) := by decide +kernel
set_option maxRecDepth 20000 in
theorem ggX2_deepestCalled_X2_contains : GoodIn wsX2_deepestCalled wsX2_contains := goodIn_r _ [10] (by decide +kernel) (by decide +kernel)
set_option maxRecDepth 20000 in
theorem gX2_deepestCalled_X2_contains : GoodIn wsX2_deepestCalled (va_wsS RX2 27 yX2_contains wsX2_contains) := goodIn_app (goodIn_of _ (by decide +kernel)) ggX2_deepestCalled_X2_contains
theorem dX2_deepestCalled_0 : decode cX2_deepestCalled 0 = .ok (.iconst 0, 1) := by decide +kernel
theorem dX2_deepestCalled_1 : decode cX2_deepestCalled 1 = .ok (.istore_n 2, 1) := by decide +kernel
theorem dX2_deepestCalled_2 : decode cX2_deepestCalled 2 = .ok (.iconst 1, 1) := by decide +kernel
theorem dX2_deepestCalled_3 : decode cX2_deepestCalled 3 = .ok (.istore_n 3, 1) := by decide +kernel
theorem dX2_deepestCalled_4 : decode cX2_deepestCalled 4 = .ok (.iload_n 3, 1) := by decide +kernel
theorem dX2_deepestCalled_5 : decode cX2_deepestCalled 5 = .ok (.bipush 30, 2) := by decide +kernel
theorem dX2_deepestCalled_7 : decode cX2_deepestCalled 7 = .ok (.if_icmp .gt 33, 3) := by decide +kernel
theorem dX2_deepestCalled_10 : decode cX2_deepestCalled 10 = .ok (.aload_n 0, 1) := by decide +kernel
theorem dX2_deepestCalled_11 : decode cX2_deepestCalled 11 = .ok (.getfield 15, 3) := by decide +kernel
theorem dX2_deepestCalled_14 : decode cX2_deepestCalled 14 = .ok (.iload_n 1, 1) := by decide +kernel
theorem dX2_deepestCalled_15 : decode cX2_deepestCalled 15 = .ok (.iaload, 1) := by decide +kernel
theorem dX2_deepestCalled_16 : decode cX2_deepestCalled 16 = .ok (.iload_n 3, 1) := by decide +kernel
theorem dX2_deepestCalled_17 : decode cX2_deepestCalled 17 = .ok (.invokestatic 27, 3) := by decide +kernel
theorem dX2_deepestCalled_20 : decode cX2_deepestCalled 20 = .ok (.ifCond .eq 14, 3) := by decide +kernel
theorem dX2_deepestCalled_23 : decode cX2_deepestCalled 23 = .ok (.iload_n 2, 1) := by decide +kernel
theorem dX2_deepestCalled_24 : decode cX2_deepestCalled 24 = .ok (.aload_n 0, 1) := by decide +kernel
theorem dX2_deepestCalled_25 : decode cX2_deepestCalled 25 = .ok (.getfield 18, 3) := by decide +kernel
theorem dX2_deepestCalled_28 : decode cX2_deepestCalled 28 = .ok (.iload_n 3, 1) := by decide +kernel
theorem dX2_deepestCalled_29 : decode cX2_deepestCalled 29 = .ok (.iaload, 1) := by decide +kernel
theorem dX2_deepestCalled_30 : decode cX2_deepestCalled 30 = .ok (.invokestatic 37, 3) := by decide +kernel
theorem dX2_deepestCalled_33 : decode cX2_deepestCalled 33 = .ok (.istore_n 2, 1) := by decide +kernel
theorem dX2_deepestCalled_34 : decode cX2_deepestCalled 34 = .ok (.iinc 3 1, 3) := by decide +kernel
theorem dX2_deepestCalled_37 : decode cX2_deepestCalled 37 = .ok (.goto (-33), 3) := by decide +kernel
theorem dX2_deepestCalled_40 : decode cX2_deepestCalled 40 = .ok (.iload_n 2, 1) := by decide +kernel
theorem dX2_deepestCalled_41 : decode cX2_deepestCalled 41 = .ok (.ireturn, 1) := by decide +kernel
theorem dX2_contains_0 : decode cX2_contains 0 = .ok (.iload_n 0, 1) := by decide +kernel
theorem dX2_contains_1 : decode cX2_contains 1 = .ok (.iload_n 1, 1) := by decide +kernel
theorem dX2_contains_2 : decode cX2_contains 2 = .ok (.ishr, 1) := by decide +kernel
theorem dX2_contains_3 : decode cX2_contains 3 = .ok (.iconst 1, 1) := by decide +kernel
theorem dX2_contains_4 : decode cX2_contains 4 = .ok (.iand, 1) := by decide +kernel
theorem dX2_contains_5 : decode cX2_contains 5 = .ok (.iconst 1, 1) := by decide +kernel
theorem dX2_contains_6 : decode cX2_contains 6 = .ok (.if_icmp .ne 7, 3) := by decide +kernel
theorem dX2_contains_9 : decode cX2_contains 9 = .ok (.iconst 1, 1) := by decide +kernel
theorem dX2_contains_10 : decode cX2_contains 10 = .ok (.goto 4, 3) := by decide +kernel
theorem dX2_contains_13 : decode cX2_contains 13 = .ok (.iconst 0, 1) := by decide +kernel
theorem dX2_contains_14 : decode cX2_contains 14 = .ok (.ireturn, 1) := by decide +kernel
theorem dX3_init_0 : decode cX3_init 0 = .ok (.aload_n 0, 1) := by decide +kernel
theorem dX3_init_1 : decode cX3_init 1 = .ok (.invokespecial 3, 3) := by decide +kernel
theorem dX3_init_4 : decode cX3_init 4 = .ok (.aload_n 0, 1) := by decide +kernel
theorem dX3_init_5 : decode cX3_init 5 = .ok (.bipush 40, 2) := by decide +kernel
theorem dX3_init_7 : decode cX3_init 7 = .ok (.newarray .int, 2) := by decide +kernel
theorem dX3_init_9 : decode cX3_init 9 = .ok (.putfield 9, 3) := by decide +kernel
theorem dX3_init_12 : decode cX3_init 12 = .ok (.aload_n 0, 1) := by decide +kernel
theorem dX3_init_13 : decode cX3_init 13 = .ok (.bipush 50, 2) := by decide +kernel
theorem dX3_init_15 : decode cX3_init 15 = .ok (.bipush 40, 2) := by decide +kernel
theorem dX3_init_17 : decode cX3_init 17 = .ok (.multianewarray 15 2, 4) := by decide +kernel
theorem dX3_init_21 : decode cX3_init 21 = .ok (.putfield 17, 3) := by decide +kernel
theorem dX3_init_24 : decode cX3_init 24 = .ok (.aload_n 0, 1) := by decide +kernel
theorem dX3_init_25 : decode cX3_init 25 = .ok (.bipush 50, 2) := by decide +kernel
theorem dX3_init_27 : decode cX3_init 27 = .ok (.newarray .int, 2) := by decide +kernel
theorem dX3_init_29 : decode cX3_init 29 = .ok (.putfield 20, 3) := by decide +kernel
theorem dX3_init_32 : decode cX3_init 32 = .ok (.return_, 1) := by decide +kernel
theorem dX3_add_0 : decode cX3_add 0 = .ok (.aload_n 1, 1) := by decide +kernel
theorem dX3_add_1 : decode cX3_add 1 = .ok (.iconst 0, 1) := by decide +kernel
theorem dX3_add_2 : decode cX3_add 2 = .ok (.aload_n 0, 1) := by decide +kernel
theorem dX3_add_3 : decode cX3_add 3 = .ok (.getfield 9, 3) := by decide +kernel
theorem dX3_add_6 : decode cX3_add 6 = .ok (.iconst 0, 1) := by decide +kernel
theorem dX3_add_7 : decode cX3_add 7 = .ok (.iload_n 2, 1) := by decide +kernel
theorem dX3_add_8 : decode cX3_add 8 = .ok (.invokestatic 23, 3) := by decide +kernel
theorem dX3_add_11 : decode cX3_add 11 = .ok (.aload_n 0, 1) := by decide +kernel
theorem dX3_add_12 : decode cX3_add 12 = .ok (.iload_n 2, 1) := by decide +kernel
theorem dX3_add_13 : decode cX3_add 13 = .ok (.putfield 29, 3) := by decide +kernel
theorem dX3_add_16 : decode cX3_add 16 = .ok (.aload_n 0, 1) := by decide +kernel
theorem dX3_add_17 : decode cX3_add 17 = .ok (.getfield 33, 3) := by decide +kernel
theorem dX3_add_20 : decode cX3_add 20 = .ok (.bipush 50, 2) := by decide +kernel
theorem dX3_add_22 : decode cX3_add 22 = .ok (.if_icmp .ge 39, 3) := by decide +kernel
theorem dX3_add_25 : decode cX3_add 25 = .ok (.aload_n 1, 1) := by decide +kernel
theorem dX3_add_26 : decode cX3_add 26 = .ok (.iconst 0, 1) := by decide +kernel
theorem dX3_add_27 : decode cX3_add 27 = .ok (.aload_n 0, 1) := by decide +kernel
theorem dX3_add_28 : decode cX3_add 28 = .ok (.getfield 17, 3) := by decide +kernel
theorem dX3_add_31 : decode cX3_add 31 = .ok (.aload_n 0, 1) := by decide +kernel
theorem dX3_add_32 : decode cX3_add 32 = .ok (.getfield 33, 3) := by decide +kernel
theorem dX3_add_35 : decode cX3_add 35 = .ok (.aaload, 1) := by decide +kernel
theorem dX3_add_36 : decode cX3_add 36 = .ok (.iconst 0, 1) := by decide +kernel
theorem dX3_add_37 : decode cX3_add 37 = .ok (.iload_n 2, 1) := by decide +kernel
theorem dX3_add_38 : decode cX3_add 38 = .ok (.invokestatic 23, 3) := by decide +kernel
theorem dX3_add_41 : decode cX3_add 41 = .ok (.aload_n 0, 1) := by decide +kernel
theorem dX3_add_42 : decode cX3_add 42 = .ok (.getfield 20, 3) := by decide +kernel
theorem dX3_add_45 : decode cX3_add 45 = .ok (.aload_n 0, 1) := by decide +kernel
theorem dX3_add_46 : decode cX3_add 46 = .ok (.getfield 33, 3) := by decide +kernel
theorem dX3_add_49 : decode cX3_add 49 = .ok (.iload_n 2, 1) := by decide +kernel
theorem dX3_add_50 : decode cX3_add 50 = .ok (.iastore, 1) := by decide +kernel
theorem dX3_add_51 : decode cX3_add 51 = .ok (.aload_n 0, 1) := by decide +kernel
theorem dX3_add_52 : decode cX3_add 52 = .ok (.dup, 1) := by decide +kernel
theorem dX3_add_53 : decode cX3_add 53 = .ok (.getfield 33, 3) := by decide +kernel
theorem dX3_add_56 : decode cX3_add 56 = .ok (.iconst 1, 1) := by decide +kernel
theorem dX3_add_57 : decode cX3_add 57 = .ok (.iadd, 1) := by decide +kernel
theorem dX3_add_58 : decode cX3_add 58 = .ok (.putfield 33, 3) := by decide +kernel
theorem dX3_add_61 : decode cX3_add 61 = .ok (.return_, 1) := by decide +kernel
theorem dX3_countMovedSince_0 : decode cX3_countMovedSince 0 = .ok (.iconst 0, 1) := by decide +kernel
theorem dX3_countMovedSince_1 : decode cX3_countMovedSince 1 = .ok (.istore_n 2, 1) := by decide +kernel
theorem dX3_countMovedSince_2 : decode cX3_countMovedSince 2 = .ok (.iconst 0, 1) := by decide +kernel
theorem dX3_countMovedSince_3 : decode cX3_countMovedSince 3 = .ok (.istore_n 3, 1) := by decide +kernel
theorem dX3_countMovedSince_4 : decode cX3_countMovedSince 4 = .ok (.iload_n 3, 1) := by decide +kernel
theorem dX3_countMovedSince_5 : decode cX3_countMovedSince 5 = .ok (.aload_n 0, 1) := by decide +kernel
theorem dX3_countMovedSince_6 : decode cX3_countMovedSince 6 = .ok (.getfield 20, 3) := by decide +kernel
theorem dX3_countMovedSince_9 : decode cX3_countMovedSince 9 = .ok (.iload_n 1, 1) := by decide +kernel
theorem dX3_countMovedSince_10 : decode cX3_countMovedSince 10 = .ok (.iaload, 1) := by decide +kernel
theorem dX3_countMovedSince_11 : decode cX3_countMovedSince 11 = .ok (.if_icmp .ge 29, 3) := by decide +kernel
theorem dX3_countMovedSince_14 : decode cX3_countMovedSince 14 = .ok (.aload_n 0, 1) := by decide +kernel
theorem dX3_countMovedSince_15 : decode cX3_countMovedSince 15 = .ok (.getfield 17, 3) := by decide +kernel
theorem dX3_countMovedSince_18 : decode cX3_countMovedSince 18 = .ok (.iload_n 1, 1) := by decide +kernel
theorem dX3_countMovedSince_19 : decode cX3_countMovedSince 19 = .ok (.aaload, 1) := by decide +kernel
theorem dX3_countMovedSince_20 : decode cX3_countMovedSince 20 = .ok (.iload_n 3, 1) := by decide +kernel
theorem dX3_countMovedSince_21 : decode cX3_countMovedSince 21 = .ok (.iaload, 1) := by decide +kernel
theorem dX3_countMovedSince_22 : decode cX3_countMovedSince 22 = .ok (.aload_n 0, 1) := by decide +kernel
theorem dX3_countMovedSince_23 : decode cX3_countMovedSince 23 = .ok (.getfield 9, 3) := by decide +kernel
theorem dX3_countMovedSince_26 : decode cX3_countMovedSince 26 = .ok (.iload_n 3, 1) := by decide +kernel
theorem dX3_countMovedSince_27 : decode cX3_countMovedSince 27 = .ok (.iaload, 1) := by decide +kernel
theorem dX3_countMovedSince_28 : decode cX3_countMovedSince 28 = .ok (.if_icmp .eq 6, 3) := by decide +kernel
theorem dX3_countMovedSince_31 : decode cX3_countMovedSince 31 = .ok (.iinc 2 1, 3) := by decide +kernel
theorem dX3_countMovedSince_34 : decode cX3_countMovedSince 34 = .ok (.iinc 3 1, 3) := by decide +kernel
theorem dX3_countMovedSince_37 : decode cX3_countMovedSince 37 = .ok (.goto (-33), 3) := by decide +kernel
theorem dX3_countMovedSince_40 : decode cX3_countMovedSince 40 = .ok (.iload_n 2, 1) := by decide +kernel
theorem dX3_countMovedSince_41 : decode cX3_countMovedSince 41 = .ok (.ireturn, 1) := by decide +kernel
theorem dX4_init_0 : decode cX4_init 0 = .ok (.aload_n 0, 1) := by decide +kernel
theorem dX4_init_1 : decode cX4_init 1 = .ok (.invokespecial 3, 3) := by decide +kernel
theorem dX4_init_4 : decode cX4_init 4 = .ok (.aload_n 0, 1) := by decide +kernel
theorem dX4_init_5 : decode cX4_init 5 = .ok (.bipush 16, 2) := by decide +kernel
theorem dX4_init_7 : decode cX4_init 7 = .ok (.newarray .int, 2) := by decide +kernel
theorem dX4_init_9 : decode cX4_init 9 = .ok (.putfield 9, 3) := by decide +kernel
theorem dX4_init_12 : decode cX4_init 12 = .ok (.aload_n 0, 1) := by decide +kernel
theorem dX4_init_13 : decode cX4_init 13 = .ok (.bipush 16, 2) := by decide +kernel
theorem dX4_init_15 : decode cX4_init 15 = .ok (.newarray .int, 2) := by decide +kernel
theorem dX4_init_17 : decode cX4_init 17 = .ok (.putfield 15, 3) := by decide +kernel
theorem dX4_init_20 : decode cX4_init 20 = .ok (.aload_n 0, 1) := by decide +kernel
theorem dX4_init_21 : decode cX4_init 21 = .ok (.bipush 16, 2) := by decide +kernel
theorem dX4_init_23 : decode cX4_init 23 = .ok (.newarray .int, 2) := by decide +kernel
theorem dX4_init_25 : decode cX4_init 25 = .ok (.putfield 18, 3) := by decide +kernel
theorem dX4_init_28 : decode cX4_init 28 = .ok (.return_, 1) := by decide +kernel
theorem dX4_overlap_0 : decode cX4_overlap 0 = .ok (.iconst 0, 1) := by decide +kernel
theorem dX4_overlap_1 : decode cX4_overlap 1 = .ok (.istore_n 3, 1) := by decide +kernel
theorem dX4_overlap_2 : decode cX4_overlap 2 = .ok (.iload_n 3, 1) := by decide +kernel
theorem dX4_overlap_3 : decode cX4_overlap 3 = .ok (.aload_n 0, 1) := by decide +kernel
theorem dX4_overlap_4 : decode cX4_overlap 4 = .ok (.getfield 21, 3) := by decide +kernel
theorem dX4_overlap_7 : decode cX4_overlap 7 = .ok (.if_icmp .ge 31, 3) := by decide +kernel
theorem dX4_overlap_10 : decode cX4_overlap 10 = .ok (.iload_n 1, 1) := by decide +kernel
theorem dX4_overlap_11 : decode cX4_overlap 11 = .ok (.aload_n 0, 1) := by decide +kernel
theorem dX4_overlap_12 : decode cX4_overlap 12 = .ok (.getfield 15, 3) := by decide +kernel
theorem dX4_overlap_15 : decode cX4_overlap 15 = .ok (.iload_n 3, 1) := by decide +kernel
theorem dX4_overlap_16 : decode cX4_overlap 16 = .ok (.iaload, 1) := by decide +kernel
theorem dX4_overlap_17 : decode cX4_overlap 17 = .ok (.if_icmp .ge 15, 3) := by decide +kernel
theorem dX4_overlap_20 : decode cX4_overlap 20 = .ok (.aload_n 0, 1) := by decide +kernel
theorem dX4_overlap_21 : decode cX4_overlap 21 = .ok (.getfield 9, 3) := by decide +kernel
theorem dX4_overlap_24 : decode cX4_overlap 24 = .ok (.iload_n 3, 1) := by decide +kernel
theorem dX4_overlap_25 : decode cX4_overlap 25 = .ok (.iaload, 1) := by decide +kernel
theorem dX4_overlap_26 : decode cX4_overlap 26 = .ok (.iload_n 2, 1) := by decide +kernel
theorem dX4_overlap_27 : decode cX4_overlap 27 = .ok (.if_icmp .ge 5, 3) := by decide +kernel
theorem dX4_overlap_30 : decode cX4_overlap 30 = .ok (.iconst 1, 1) := by decide +kernel
theorem dX4_overlap_31 : decode cX4_overlap 31 = .ok (.ireturn, 1) := by decide +kernel
theorem dX4_overlap_32 : decode cX4_overlap 32 = .ok (.iinc 3 1, 3) := by decide +kernel
theorem dX4_overlap_35 : decode cX4_overlap 35 = .ok (.goto (-33), 3) := by decide +kernel
theorem dX4_overlap_38 : decode cX4_overlap 38 = .ok (.iconst 0, 1) := by decide +kernel
theorem dX4_overlap_39 : decode cX4_overlap 39 = .ok (.ireturn, 1) := by decide +kernel
theorem dX4_allow_0 : decode cX4_allow 0 = .ok (.aload_n 0, 1) := by decide +kernel
theorem dX4_allow_1 : decode cX4_allow 1 = .ok (.getfield 18, 3) := by decide +kernel
theorem dX4_allow_4 : decode cX4_allow 4 = .ok (.iload_n 1, 1) := by decide +kernel
theorem dX4_allow_5 : decode cX4_allow 5 = .ok (.iaload, 1) := by decide +kernel
theorem dX4_allow_6 : decode cX4_allow 6 = .ok (.iload_n 2, 1) := by decide +kernel
theorem dX4_allow_7 : decode cX4_allow 7 = .ok (.iand, 1) := by decide +kernel
theorem dX4_allow_8 : decode cX4_allow 8 = .ok (.iload_n 2, 1) := by decide +kernel
theorem dX4_allow_9 : decode cX4_allow 9 = .ok (.if_icmp .ne 7, 3) := by decide +kernel
theorem dX4_allow_12 : decode cX4_allow 12 = .ok (.iconst 1, 1) := by decide +kernel
theorem dX4_allow_13 : decode cX4_allow 13 = .ok (.goto 4, 3) := by decide +kernel
theorem dX4_allow_16 : decode cX4_allow 16 = .ok (.iconst 0, 1) := by decide +kernel
theorem dX4_allow_17 : decode cX4_allow 17 = .ok (.ireturn, 1) := by decide +kernel
theorem dX4_add_0 : decode cX4_add 0 = .ok (.aload_n 0, 1) := by decide +kernel
theorem dX4_add_1 : decode cX4_add 1 = .ok (.getfield 21, 3) := by decide +kernel
theorem dX4_add_4 : decode cX4_add 4 = .ok (.bipush 16, 2) := by decide +kernel
theorem dX4_add_6 : decode cX4_add 6 = .ok (.if_icmp .lt 6, 3) := by decide +kernel
theorem dX4_add_9 : decode cX4_add 9 = .ok (.bipush (-4), 2) := by decide +kernel
theorem dX4_add_11 : decode cX4_add 11 = .ok (.ireturn, 1) := by decide +kernel
theorem dX4_add_12 : decode cX4_add 12 = .ok (.aload_n 0, 1) := by decide +kernel
theorem dX4_add_13 : decode cX4_add 13 = .ok (.getfield 9, 3) := by decide +kernel
theorem dX4_add_16 : decode cX4_add 16 = .ok (.aload_n 0, 1) := by decide +kernel
theorem dX4_add_17 : decode cX4_add 17 = .ok (.getfield 21, 3) := by decide +kernel
theorem dX4_add_20 : decode cX4_add 20 = .ok (.iload_n 1, 1) := by decide +kernel
theorem dX4_add_21 : decode cX4_add 21 = .ok (.iastore, 1) := by decide +kernel
theorem dX4_add_22 : decode cX4_add 22 = .ok (.aload_n 0, 1) := by decide +kernel
theorem dX4_add_23 : decode cX4_add 23 = .ok (.getfield 15, 3) := by decide +kernel
theorem dX4_add_26 : decode cX4_add 26 = .ok (.aload_n 0, 1) := by decide +kernel
theorem dX4_add_27 : decode cX4_add 27 = .ok (.getfield 21, 3) := by decide +kernel
theorem dX4_add_30 : decode cX4_add 30 = .ok (.iload_n 2, 1) := by decide +kernel
theorem dX4_add_31 : decode cX4_add 31 = .ok (.iastore, 1) := by decide +kernel
theorem dX4_add_32 : decode cX4_add 32 = .ok (.aload_n 0, 1) := by decide +kernel
theorem dX4_add_33 : decode cX4_add 33 = .ok (.getfield 18, 3) := by decide +kernel
theorem dX4_add_36 : decode cX4_add 36 = .ok (.aload_n 0, 1) := by decide +kernel
theorem dX4_add_37 : decode cX4_add 37 = .ok (.getfield 21, 3) := by decide +kernel
theorem dX4_add_40 : decode cX4_add 40 = .ok (.iload_n 3, 1) := by decide +kernel
theorem dX4_add_41 : decode cX4_add 41 = .ok (.iastore, 1) := by decide +kernel
theorem dX4_add_42 : decode cX4_add 42 = .ok (.aload_n 0, 1) := by decide +kernel
theorem dX4_add_43 : decode cX4_add 43 = .ok (.dup, 1) := by decide +kernel
theorem dX4_add_44 : decode cX4_add 44 = .ok (.getfield 21, 3) := by decide +kernel
theorem dX4_add_47 : decode cX4_add 47 = .ok (.iconst 1, 1) := by decide +kernel
theorem dX4_add_48 : decode cX4_add 48 = .ok (.iadd, 1) := by decide +kernel
theorem dX4_add_49 : decode cX4_add 49 = .ok (.putfield 21, 3) := by decide +kernel
theorem dX4_add_52 : decode cX4_add 52 = .ok (.aload_n 0, 1) := by decide +kernel
theorem dX4_add_53 : decode cX4_add 53 = .ok (.getfield 21, 3) := by decide +kernel
theorem dX4_add_56 : decode cX4_add 56 = .ok (.ireturn, 1) := by decide +kernel
theorem dX5_init_0 : decode cX5_init 0 = .ok (.aload_n 0, 1) := by decide +kernel
theorem dX5_init_1 : decode cX5_init 1 = .ok (.invokespecial 3, 3) := by decide +kernel
theorem dX5_init_4 : decode cX5_init 4 = .ok (.aload_n 0, 1) := by decide +kernel
theorem dX5_init_5 : decode cX5_init 5 = .ok (.bipush 40, 2) := by decide +kernel
theorem dX5_init_7 : decode cX5_init 7 = .ok (.newarray .int, 2) := by decide +kernel
theorem dX5_init_9 : decode cX5_init 9 = .ok (.putfield 9, 3) := by decide +kernel
theorem dX5_init_12 : decode cX5_init 12 = .ok (.aload_n 0, 1) := by decide +kernel
theorem dX5_init_13 : decode cX5_init 13 = .ok (.bipush 40, 2) := by decide +kernel
theorem dX5_init_15 : decode cX5_init 15 = .ok (.newarray .int, 2) := by decide +kernel
theorem dX5_init_17 : decode cX5_init 17 = .ok (.putfield 15, 3) := by decide +kernel
theorem dX5_init_20 : decode cX5_init 20 = .ok (.aload_n 0, 1) := by decide +kernel
theorem dX5_init_21 : decode cX5_init 21 = .ok (.bipush 40, 2) := by decide +kernel
theorem dX5_init_23 : decode cX5_init 23 = .ok (.newarray .int, 2) := by decide +kernel
theorem dX5_init_25 : decode cX5_init 25 = .ok (.putfield 18, 3) := by decide +kernel
theorem dX5_init_28 : decode cX5_init 28 = .ok (.aload_n 0, 1) := by decide +kernel
theorem dX5_init_29 : decode cX5_init 29 = .ok (.bipush 40, 2) := by decide +kernel
theorem dX5_init_31 : decode cX5_init 31 = .ok (.newarray .int, 2) := by decide +kernel
theorem dX5_init_33 : decode cX5_init 33 = .ok (.putfield 21, 3) := by decide +kernel
theorem dX5_init_36 : decode cX5_init 36 = .ok (.return_, 1) := by decide +kernel
set_option maxRecDepth 20000 in
theorem ggX5_add_X5_enterInOrder : GoodIn wsX5_add wsX5_enterInOrder := goodIn_r _ [9, 2, 10, 11, 12, 13, 14, 15] (by decide +kernel) (by decide +kernel)
set_option maxRecDepth 20000 in
theorem gX5_add_X5_enterInOrder : GoodIn wsX5_add (wsV RX5 28 RX5 yX5_enterInOrder wsX5_enterInOrder) := goodIn_app (goodIn_of _ (by decide +kernel)) ggX5_add_X5_enterInOrder
theorem dX5_add_0 : decode cX5_add 0 = .ok (.aload_n 0, 1) := by decide +kernel
theorem dX5_add_1 : decode cX5_add 1 = .ok (.getfield 24, 3) := by decide +kernel
theorem dX5_add_4 : decode cX5_add 4 = .ok (.bipush 40, 2) := by decide +kernel
theorem dX5_add_6 : decode cX5_add 6 = .ok (.if_icmp .lt 6, 3) := by decide +kernel
theorem dX5_add_9 : decode cX5_add 9 = .ok (.bipush (-4), 2) := by decide +kernel
theorem dX5_add_11 : decode cX5_add 11 = .ok (.ireturn, 1) := by decide +kernel
theorem dX5_add_12 : decode cX5_add 12 = .ok (.aload_n 0, 1) := by decide +kernel
theorem dX5_add_13 : decode cX5_add 13 = .ok (.getfield 9, 3) := by decide +kernel
theorem dX5_add_16 : decode cX5_add 16 = .ok (.aload_n 0, 1) := by decide +kernel
theorem dX5_add_17 : decode cX5_add 17 = .ok (.getfield 24, 3) := by decide +kernel
theorem dX5_add_20 : decode cX5_add 20 = .ok (.iload_n 1, 1) := by decide +kernel
theorem dX5_add_21 : decode cX5_add 21 = .ok (.iastore, 1) := by decide +kernel
theorem dX5_add_22 : decode cX5_add 22 = .ok (.aload_n 0, 1) := by decide +kernel
theorem dX5_add_23 : decode cX5_add 23 = .ok (.getfield 15, 3) := by decide +kernel
theorem dX5_add_26 : decode cX5_add 26 = .ok (.aload_n 0, 1) := by decide +kernel
theorem dX5_add_27 : decode cX5_add 27 = .ok (.getfield 24, 3) := by decide +kernel
theorem dX5_add_30 : decode cX5_add 30 = .ok (.iload_n 2, 1) := by decide +kernel
theorem dX5_add_31 : decode cX5_add 31 = .ok (.iastore, 1) := by decide +kernel
theorem dX5_add_32 : decode cX5_add 32 = .ok (.aload_n 0, 1) := by decide +kernel
theorem dX5_add_33 : decode cX5_add 33 = .ok (.getfield 18, 3) := by decide +kernel
theorem dX5_add_36 : decode cX5_add 36 = .ok (.aload_n 0, 1) := by decide +kernel
theorem dX5_add_37 : decode cX5_add 37 = .ok (.getfield 24, 3) := by decide +kernel
theorem dX5_add_40 : decode cX5_add 40 = .ok (.iload_n 3, 1) := by decide +kernel
theorem dX5_add_41 : decode cX5_add 41 = .ok (.iastore, 1) := by decide +kernel
theorem dX5_add_42 : decode cX5_add 42 = .ok (.aload_n 0, 1) := by decide +kernel
theorem dX5_add_43 : decode cX5_add 43 = .ok (.aload_n 0, 1) := by decide +kernel
theorem dX5_add_44 : decode cX5_add 44 = .ok (.getfield 24, 3) := by decide +kernel
theorem dX5_add_47 : decode cX5_add 47 = .ok (.invokevirtual 28, 3) := by decide +kernel
theorem dX5_add_50 : decode cX5_add 50 = .ok (.aload_n 0, 1) := by decide +kernel
theorem dX5_add_51 : decode cX5_add 51 = .ok (.dup, 1) := by decide +kernel
theorem dX5_add_52 : decode cX5_add 52 = .ok (.getfield 24, 3) := by decide +kernel
theorem dX5_add_55 : decode cX5_add 55 = .ok (.iconst 1, 1) := by decide +kernel
theorem dX5_add_56 : decode cX5_add 56 = .ok (.iadd, 1) := by decide +kernel
theorem dX5_add_57 : decode cX5_add 57 = .ok (.putfield 24, 3) := by decide +kernel
theorem dX5_add_60 : decode cX5_add 60 = .ok (.aload_n 0, 1) := by decide +kernel
theorem dX5_add_61 : decode cX5_add 61 = .ok (.getfield 24, 3) := by decide +kernel
theorem dX5_add_64 : decode cX5_add 64 = .ok (.ireturn, 1) := by decide +kernel
theorem dX5_enterInOrder_0 : decode cX5_enterInOrder 0 = .ok (.iload_n 1, 1) := by decide +kernel
theorem dX5_enterInOrder_1 : decode cX5_enterInOrder 1 = .ok (.istore_n 2, 1) := by decide +kernel
theorem dX5_enterInOrder_2 : decode cX5_enterInOrder 2 = .ok (.iload_n 2, 1) := by decide +kernel
theorem dX5_enterInOrder_3 : decode cX5_enterInOrder 3 = .ok (.ifCond .le 45, 3) := by decide +kernel
theorem dX5_enterInOrder_6 : decode cX5_enterInOrder 6 = .ok (.aload_n 0, 1) := by decide +kernel
theorem dX5_enterInOrder_7 : decode cX5_enterInOrder 7 = .ok (.getfield 9, 3) := by decide +kernel
theorem dX5_enterInOrder_10 : decode cX5_enterInOrder 10 = .ok (.aload_n 0, 1) := by decide +kernel
theorem dX5_enterInOrder_11 : decode cX5_enterInOrder 11 = .ok (.getfield 21, 3) := by decide +kernel
theorem dX5_enterInOrder_14 : decode cX5_enterInOrder 14 = .ok (.iload_n 2, 1) := by decide +kernel
theorem dX5_enterInOrder_15 : decode cX5_enterInOrder 15 = .ok (.iconst 1, 1) := by decide +kernel
theorem dX5_enterInOrder_16 : decode cX5_enterInOrder 16 = .ok (.isub, 1) := by decide +kernel
theorem dX5_enterInOrder_17 : decode cX5_enterInOrder 17 = .ok (.iaload, 1) := by decide +kernel
theorem dX5_enterInOrder_18 : decode cX5_enterInOrder 18 = .ok (.iaload, 1) := by decide +kernel
theorem dX5_enterInOrder_19 : decode cX5_enterInOrder 19 = .ok (.aload_n 0, 1) := by decide +kernel
theorem dX5_enterInOrder_20 : decode cX5_enterInOrder 20 = .ok (.getfield 9, 3) := by decide +kernel
theorem dX5_enterInOrder_23 : decode cX5_enterInOrder 23 = .ok (.iload_n 1, 1) := by decide +kernel
theorem dX5_enterInOrder_24 : decode cX5_enterInOrder 24 = .ok (.iaload, 1) := by decide +kernel
theorem dX5_enterInOrder_25 : decode cX5_enterInOrder 25 = .ok (.if_icmp .ge 23, 3) := by decide +kernel
theorem dX5_enterInOrder_28 : decode cX5_enterInOrder 28 = .ok (.aload_n 0, 1) := by decide +kernel
theorem dX5_enterInOrder_29 : decode cX5_enterInOrder 29 = .ok (.getfield 21, 3) := by decide +kernel
theorem dX5_enterInOrder_32 : decode cX5_enterInOrder 32 = .ok (.iload_n 2, 1) := by decide +kernel
theorem dX5_enterInOrder_33 : decode cX5_enterInOrder 33 = .ok (.aload_n 0, 1) := by decide +kernel
theorem dX5_enterInOrder_34 : decode cX5_enterInOrder 34 = .ok (.getfield 21, 3) := by decide +kernel
theorem dX5_enterInOrder_37 : decode cX5_enterInOrder 37 = .ok (.iload_n 2, 1) := by decide +kernel
theorem dX5_enterInOrder_38 : decode cX5_enterInOrder 38 = .ok (.iconst 1, 1) := by decide +kernel
theorem dX5_enterInOrder_39 : decode cX5_enterInOrder 39 = .ok (.isub, 1) := by decide +kernel
theorem dX5_enterInOrder_40 : decode cX5_enterInOrder 40 = .ok (.iaload, 1) := by decide +kernel
theorem dX5_enterInOrder_41 : decode cX5_enterInOrder 41 = .ok (.iastore, 1) := by decide +kernel
theorem dX5_enterInOrder_42 : decode cX5_enterInOrder 42 = .ok (.iinc 2 (-1), 3) := by decide +kernel
theorem dX5_enterInOrder_45 : decode cX5_enterInOrder 45 = .ok (.goto (-43), 3) := by decide +kernel
theorem dX5_enterInOrder_48 : decode cX5_enterInOrder 48 = .ok (.aload_n 0, 1) := by decide +kernel
theorem dX5_enterInOrder_49 : decode cX5_enterInOrder 49 = .ok (.getfield 21, 3) := by decide +kernel
theorem dX5_enterInOrder_52 : decode cX5_enterInOrder 52 = .ok (.iload_n 2, 1) := by decide +kernel
theorem dX5_enterInOrder_53 : decode cX5_enterInOrder 53 = .ok (.iload_n 1, 1) := by decide +kernel
theorem dX5_enterInOrder_54 : decode cX5_enterInOrder 54 = .ok (.iastore, 1) := by decide +kernel
theorem dX5_enterInOrder_55 : decode cX5_enterInOrder 55 = .ok (.return_, 1) := by decide +kernel
theorem dX6_init_0 : decode cX6_init 0 = .ok (.aload_n 0, 1) := by decide +kernel
theorem dX6_init_1 : decode cX6_init 1 = .ok (.invokespecial 3, 3) := by decide +kernel
theorem dX6_init_4 : decode cX6_init 4 = .ok (.aload_n 0, 1) := by decide +kernel
theorem dX6_init_5 : decode cX6_init 5 = .ok (.bipush 40, 2) := by decide +kernel
theorem dX6_init_7 : decode cX6_init 7 = .ok (.newarray .int, 2) := by decide +kernel
theorem dX6_init_9 : decode cX6_init 9 = .ok (.putfield 9, 3) := by decide +kernel
theorem dX6_init_12 : decode cX6_init 12 = .ok (.aload_n 0, 1) := by decide +kernel
theorem dX6_init_13 : decode cX6_init 13 = .ok (.bipush 40, 2) := by decide +kernel
theorem dX6_init_15 : decode cX6_init 15 = .ok (.newarray .int, 2) := by decide +kernel
theorem dX6_init_17 : decode cX6_init 17 = .ok (.putfield 15, 3) := by decide +kernel
theorem dX6_init_20 : decode cX6_init 20 = .ok (.return_, 1) := by decide +kernel
theorem dX6_clear_0 : decode cX6_clear 0 = .ok (.aload_n 0, 1) := by decide +kernel
theorem dX6_clear_1 : decode cX6_clear 1 = .ok (.iconst 0, 1) := by decide +kernel
theorem dX6_clear_2 : decode cX6_clear 2 = .ok (.putfield 18, 3) := by decide +kernel
theorem dX6_clear_5 : decode cX6_clear 5 = .ok (.return_, 1) := by decide +kernel
set_option maxRecDepth 20000 in
theorem ggX6_leastFree_X6_alignedUp : GoodIn wsX6_leastFree wsX6_alignedUp := goodIn_r _ [7] (by decide +kernel) (by decide +kernel)
set_option maxRecDepth 20000 in
theorem gX6_leastFree_X6_alignedUp : GoodIn wsX6_leastFree (va_wsS RX6 22 yX6_alignedUp wsX6_alignedUp) := goodIn_app (goodIn_of _ (by decide +kernel)) ggX6_leastFree_X6_alignedUp
theorem dX6_leastFree_0 : decode cX6_leastFree 0 = .ok (.iload_n 1, 1) := by decide +kernel
theorem dX6_leastFree_1 : decode cX6_leastFree 1 = .ok (.iload_n 3, 1) := by decide +kernel
theorem dX6_leastFree_2 : decode cX6_leastFree 2 = .ok (.invokestatic 22, 3) := by decide +kernel
theorem dX6_leastFree_5 : decode cX6_leastFree 5 = .ok (.istore 4, 2) := by decide +kernel
theorem dX6_leastFree_7 : decode cX6_leastFree 7 = .ok (.iconst 0, 1) := by decide +kernel
theorem dX6_leastFree_8 : decode cX6_leastFree 8 = .ok (.istore 5, 2) := by decide +kernel
theorem dX6_leastFree_10 : decode cX6_leastFree 10 = .ok (.iload 5, 2) := by decide +kernel
theorem dX6_leastFree_12 : decode cX6_leastFree 12 = .ok (.aload_n 0, 1) := by decide +kernel
theorem dX6_leastFree_13 : decode cX6_leastFree 13 = .ok (.getfield 18, 3) := by decide +kernel
theorem dX6_leastFree_16 : decode cX6_leastFree 16 = .ok (.if_icmp .ge 48, 3) := by decide +kernel
theorem dX6_leastFree_19 : decode cX6_leastFree 19 = .ok (.aload_n 0, 1) := by decide +kernel
theorem dX6_leastFree_20 : decode cX6_leastFree 20 = .ok (.getfield 9, 3) := by decide +kernel
theorem dX6_leastFree_23 : decode cX6_leastFree 23 = .ok (.iload 5, 2) := by decide +kernel
theorem dX6_leastFree_25 : decode cX6_leastFree 25 = .ok (.iaload, 1) := by decide +kernel
theorem dX6_leastFree_26 : decode cX6_leastFree 26 = .ok (.iload 4, 2) := by decide +kernel
theorem dX6_leastFree_28 : decode cX6_leastFree 28 = .ok (.iload_n 2, 1) := by decide +kernel
theorem dX6_leastFree_29 : decode cX6_leastFree 29 = .ok (.iadd, 1) := by decide +kernel
theorem dX6_leastFree_30 : decode cX6_leastFree 30 = .ok (.if_icmp .ge 34, 3) := by decide +kernel
theorem dX6_leastFree_33 : decode cX6_leastFree 33 = .ok (.aload_n 0, 1) := by decide +kernel
theorem dX6_leastFree_34 : decode cX6_leastFree 34 = .ok (.getfield 15, 3) := by decide +kernel
theorem dX6_leastFree_37 : decode cX6_leastFree 37 = .ok (.iload 5, 2) := by decide +kernel
theorem dX6_leastFree_39 : decode cX6_leastFree 39 = .ok (.iaload, 1) := by decide +kernel
theorem dX6_leastFree_40 : decode cX6_leastFree 40 = .ok (.iload 4, 2) := by decide +kernel
theorem dX6_leastFree_42 : decode cX6_leastFree 42 = .ok (.if_icmp .le 16, 3) := by decide +kernel
theorem dX6_leastFree_45 : decode cX6_leastFree 45 = .ok (.aload_n 0, 1) := by decide +kernel
theorem dX6_leastFree_46 : decode cX6_leastFree 46 = .ok (.getfield 15, 3) := by decide +kernel
theorem dX6_leastFree_49 : decode cX6_leastFree 49 = .ok (.iload 5, 2) := by decide +kernel
theorem dX6_leastFree_51 : decode cX6_leastFree 51 = .ok (.iaload, 1) := by decide +kernel
theorem dX6_leastFree_52 : decode cX6_leastFree 52 = .ok (.iload_n 3, 1) := by decide +kernel
theorem dX6_leastFree_53 : decode cX6_leastFree 53 = .ok (.invokestatic 22, 3) := by decide +kernel
theorem dX6_leastFree_56 : decode cX6_leastFree 56 = .ok (.istore 4, 2) := by decide +kernel
theorem dX6_leastFree_58 : decode cX6_leastFree 58 = .ok (.iinc 5 1, 3) := by decide +kernel
theorem dX6_leastFree_61 : decode cX6_leastFree 61 = .ok (.goto (-51), 3) := by decide +kernel
theorem dX6_leastFree_64 : decode cX6_leastFree 64 = .ok (.iload 4, 2) := by decide +kernel
theorem dX6_leastFree_66 : decode cX6_leastFree 66 = .ok (.ireturn, 1) := by decide +kernel
theorem dX6_add_0 : decode cX6_add 0 = .ok (.aload_n 0, 1) := by decide +kernel
theorem dX6_add_1 : decode cX6_add 1 = .ok (.getfield 18, 3) := by decide +kernel
theorem dX6_add_4 : decode cX6_add 4 = .ok (.bipush 40, 2) := by decide +kernel
theorem dX6_add_6 : decode cX6_add 6 = .ok (.if_icmp .lt 4, 3) := by decide +kernel
theorem dX6_add_9 : decode cX6_add 9 = .ok (.return_, 1) := by decide +kernel
theorem dX6_add_10 : decode cX6_add 10 = .ok (.aload_n 0, 1) := by decide +kernel
theorem dX6_add_11 : decode cX6_add 11 = .ok (.getfield 18, 3) := by decide +kernel
theorem dX6_add_14 : decode cX6_add 14 = .ok (.istore_n 3, 1) := by decide +kernel
theorem dX6_add_15 : decode cX6_add 15 = .ok (.iload_n 3, 1) := by decide +kernel
theorem dX6_add_16 : decode cX6_add 16 = .ok (.ifCond .le 49, 3) := by decide +kernel
theorem dX6_add_19 : decode cX6_add 19 = .ok (.aload_n 0, 1) := by decide +kernel
theorem dX6_add_20 : decode cX6_add 20 = .ok (.getfield 9, 3) := by decide +kernel
theorem dX6_add_23 : decode cX6_add 23 = .ok (.iload_n 3, 1) := by decide +kernel
theorem dX6_add_24 : decode cX6_add 24 = .ok (.iconst 1, 1) := by decide +kernel
theorem dX6_add_25 : decode cX6_add 25 = .ok (.isub, 1) := by decide +kernel
theorem dX6_add_26 : decode cX6_add 26 = .ok (.iaload, 1) := by decide +kernel
theorem dX6_add_27 : decode cX6_add 27 = .ok (.iload_n 1, 1) := by decide +kernel
theorem dX6_add_28 : decode cX6_add 28 = .ok (.if_icmp .le 37, 3) := by decide +kernel
theorem dX6_add_31 : decode cX6_add 31 = .ok (.aload_n 0, 1) := by decide +kernel
theorem dX6_add_32 : decode cX6_add 32 = .ok (.getfield 9, 3) := by decide +kernel
theorem dX6_add_35 : decode cX6_add 35 = .ok (.iload_n 3, 1) := by decide +kernel
theorem dX6_add_36 : decode cX6_add 36 = .ok (.aload_n 0, 1) := by decide +kernel
theorem dX6_add_37 : decode cX6_add 37 = .ok (.getfield 9, 3) := by decide +kernel
theorem dX6_add_40 : decode cX6_add 40 = .ok (.iload_n 3, 1) := by decide +kernel
theorem dX6_add_41 : decode cX6_add 41 = .ok (.iconst 1, 1) := by decide +kernel
theorem dX6_add_42 : decode cX6_add 42 = .ok (.isub, 1) := by decide +kernel
theorem dX6_add_43 : decode cX6_add 43 = .ok (.iaload, 1) := by decide +kernel
theorem dX6_add_44 : decode cX6_add 44 = .ok (.iastore, 1) := by decide +kernel
theorem dX6_add_45 : decode cX6_add 45 = .ok (.aload_n 0, 1) := by decide +kernel
theorem dX6_add_46 : decode cX6_add 46 = .ok (.getfield 15, 3) := by decide +kernel
theorem dX6_add_49 : decode cX6_add 49 = .ok (.iload_n 3, 1) := by decide +kernel
theorem dX6_add_50 : decode cX6_add 50 = .ok (.aload_n 0, 1) := by decide +kernel
theorem dX6_add_51 : decode cX6_add 51 = .ok (.getfield 15, 3) := by decide +kernel
theorem dX6_add_54 : decode cX6_add 54 = .ok (.iload_n 3, 1) := by decide +kernel
theorem dX6_add_55 : decode cX6_add 55 = .ok (.iconst 1, 1) := by decide +kernel
theorem dX6_add_56 : decode cX6_add 56 = .ok (.isub, 1) := by decide +kernel
theorem dX6_add_57 : decode cX6_add 57 = .ok (.iaload, 1) := by decide +kernel
theorem dX6_add_58 : decode cX6_add 58 = .ok (.iastore, 1) := by decide +kernel
theorem dX6_add_59 : decode cX6_add 59 = .ok (.iinc 3 (-1), 3) := by decide +kernel
theorem dX6_add_62 : decode cX6_add 62 = .ok (.goto (-47), 3) := by decide +kernel
theorem dX6_add_65 : decode cX6_add 65 = .ok (.aload_n 0, 1) := by decide +kernel
theorem dX6_add_66 : decode cX6_add 66 = .ok (.getfield 9, 3) := by decide +kernel
theorem dX6_add_69 : decode cX6_add 69 = .ok (.iload_n 3, 1) := by decide +kernel
theorem dX6_add_70 : decode cX6_add 70 = .ok (.iload_n 1, 1) := by decide +kernel
theorem dX6_add_71 : decode cX6_add 71 = .ok (.iastore, 1) := by decide +kernel
theorem dX6_add_72 : decode cX6_add 72 = .ok (.aload_n 0, 1) := by decide +kernel
theorem dX6_add_73 : decode cX6_add 73 = .ok (.getfield 15, 3) := by decide +kernel
theorem dX6_add_76 : decode cX6_add 76 = .ok (.iload_n 3, 1) := by decide +kernel
theorem dX6_add_77 : decode cX6_add 77 = .ok (.iload_n 2, 1) := by decide +kernel
theorem dX6_add_78 : decode cX6_add 78 = .ok (.iastore, 1) := by decide +kernel
theorem dX6_add_79 : decode cX6_add 79 = .ok (.aload_n 0, 1) := by decide +kernel
theorem dX6_add_80 : decode cX6_add 80 = .ok (.dup, 1) := by decide +kernel
theorem dX6_add_81 : decode cX6_add 81 = .ok (.getfield 18, 3) := by decide +kernel
theorem dX6_add_84 : decode cX6_add 84 = .ok (.iconst 1, 1) := by decide +kernel
theorem dX6_add_85 : decode cX6_add 85 = .ok (.iadd, 1) := by decide +kernel
theorem dX6_add_86 : decode cX6_add 86 = .ok (.putfield 18, 3) := by decide +kernel
theorem dX6_add_89 : decode cX6_add 89 = .ok (.return_, 1) := by decide +kernel
theorem dX6_alignedUp_0 : decode cX6_alignedUp 0 = .ok (.iload_n 1, 1) := by decide +kernel
theorem dX6_alignedUp_1 : decode cX6_alignedUp 1 = .ok (.iconst 1, 1) := by decide +kernel
theorem dX6_alignedUp_2 : decode cX6_alignedUp 2 = .ok (.if_icmp .ge 7, 3) := by decide +kernel
theorem dX6_alignedUp_5 : decode cX6_alignedUp 5 = .ok (.iload_n 0, 1) := by decide +kernel
theorem dX6_alignedUp_6 : decode cX6_alignedUp 6 = .ok (.goto 12, 3) := by decide +kernel
theorem dX6_alignedUp_9 : decode cX6_alignedUp 9 = .ok (.iload_n 0, 1) := by decide +kernel
theorem dX6_alignedUp_10 : decode cX6_alignedUp 10 = .ok (.iload_n 1, 1) := by decide +kernel
theorem dX6_alignedUp_11 : decode cX6_alignedUp 11 = .ok (.iadd, 1) := by decide +kernel
theorem dX6_alignedUp_12 : decode cX6_alignedUp 12 = .ok (.iconst 1, 1) := by decide +kernel
theorem dX6_alignedUp_13 : decode cX6_alignedUp 13 = .ok (.isub, 1) := by decide +kernel
theorem dX6_alignedUp_14 : decode cX6_alignedUp 14 = .ok (.iload_n 1, 1) := by decide +kernel
theorem dX6_alignedUp_15 : decode cX6_alignedUp 15 = .ok (.idiv, 1) := by decide +kernel
theorem dX6_alignedUp_16 : decode cX6_alignedUp 16 = .ok (.iload_n 1, 1) := by decide +kernel
theorem dX6_alignedUp_17 : decode cX6_alignedUp 17 = .ok (.imul, 1) := by decide +kernel
theorem dX6_alignedUp_18 : decode cX6_alignedUp 18 = .ok (.ireturn, 1) := by decide +kernel
end
section
set_option maxRecDepth 20000 in
theorem ggX7_init_X4_init : GoodIn wsX7_init wsX4_init := goodIn_r _ [31, 32, 2, 3, 16, 33, 34, 35, 65, 66, 67, 68] (by decide +kernel) (by decide +kernel)
set_option maxRecDepth 20000 in
theorem gX7_init_X4_init_n9 : GoodIn wsX7_init (wsX4_init) := ggX7_init_X4_init
set_option maxRecDepth 20000 in
theorem ggX7_init_X5_init : GoodIn wsX7_init wsX5_init := goodIn_r _ [37, 38, 2, 3, 16, 39, 40, 41, 42, 78, 79, 80, 81, 82] (by decide +kernel) (by decide +kernel)
set_option maxRecDepth 20000 in
theorem gX7_init_X5_init_n18 : GoodIn wsX7_init (wsX5_init) := ggX7_init_X5_init
set_option maxRecDepth 20000 in
theorem ggX7_init_X6_init : GoodIn wsX7_init wsX6_init := goodIn_r _ [44, 45, 2, 3, 16, 46, 47, 83, 84, 85] (by decide +kernel) (by decide +kernel)
set_option maxRecDepth 20000 in
theorem gX7_init_X6_init_n25 : GoodIn wsX7_init (wsX6_init) := ggX7_init_X6_init
set_option maxRecDepth 20000 in
theorem ggX7_init_X3_init : GoodIn wsX7_init wsX3_init := goodIn_r _ [49, 50, 2, 3, 16, 51, 52, 53, 54, 86, 87, 88, 89, 90] (by decide +kernel) (by decide +kernel)
set_option maxRecDepth 20000 in
theorem gX7_init_X3_init_n36 : GoodIn wsX7_init (wsX3_init) := ggX7_init_X3_init
set_option maxRecDepth 20000 in
theorem ggX7_init_X2_init : GoodIn wsX7_init wsX2_init := goodIn_r _ [56, 57, 2, 3, 16, 58, 59, 60, 91, 92, 93] (by decide +kernel) (by decide +kernel)
set_option maxRecDepth 20000 in
theorem gX7_init_X2_init_n43 : GoodIn wsX7_init (wsX2_init) := ggX7_init_X2_init
set_option maxRecDepth 20000 in
theorem ggX7_init_X7_isWithin : GoodIn wsX7_init wsX7_isWithin := goodIn_r _ [64] (by decide +kernel) (by decide +kernel)
set_option maxRecDepth 20000 in
theorem gX7_init_X7_isWithin : GoodIn wsX7_init (va_wsS RX7 56 yX7_isWithin wsX7_isWithin) := goodIn_app (goodIn_of _ (by decide +kernel)) ggX7_init_X7_isWithin
theorem dX7_init_0 : decode cX7_init 0 = .ok (.aload_n 0, 1) := by decide +kernel
theorem dX7_init_1 : decode cX7_init 1 = .ok (.invokespecial 1, 3) := by decide +kernel
theorem dX7_init_4 : decode cX7_init 4 = .ok (.aload_n 0, 1) := by decide +kernel
theorem dX7_init_5 : decode cX7_init 5 = .ok (.new 7, 3) := by decide +kernel
theorem dX7_init_8 : decode cX7_init 8 = .ok (.dup, 1) := by decide +kernel
theorem dX7_init_9 : decode cX7_init 9 = .ok (.invokespecial 9, 3) := by decide +kernel
theorem dX7_init_12 : decode cX7_init 12 = .ok (.putfield 10, 3) := by decide +kernel
theorem dX7_init_15 : decode cX7_init 15 = .ok (.aload_n 0, 1) := by decide +kernel
theorem dX7_init_16 : decode cX7_init 16 = .ok (.new 16, 3) := by decide +kernel
theorem dX7_init_19 : decode cX7_init 19 = .ok (.dup, 1) := by decide +kernel
theorem dX7_init_20 : decode cX7_init 20 = .ok (.invokespecial 18, 3) := by decide +kernel
theorem dX7_init_23 : decode cX7_init 23 = .ok (.putfield 19, 3) := by decide +kernel
theorem dX7_init_26 : decode cX7_init 26 = .ok (.aload_n 0, 1) := by decide +kernel
theorem dX7_init_27 : decode cX7_init 27 = .ok (.new 23, 3) := by decide +kernel
theorem dX7_init_30 : decode cX7_init 30 = .ok (.dup, 1) := by decide +kernel
theorem dX7_init_31 : decode cX7_init 31 = .ok (.invokespecial 25, 3) := by decide +kernel
theorem dX7_init_34 : decode cX7_init 34 = .ok (.putfield 26, 3) := by decide +kernel
theorem dX7_init_37 : decode cX7_init 37 = .ok (.aload_n 0, 1) := by decide +kernel
theorem dX7_init_38 : decode cX7_init 38 = .ok (.bipush 40, 2) := by decide +kernel
theorem dX7_init_40 : decode cX7_init 40 = .ok (.newarray .int, 2) := by decide +kernel
theorem dX7_init_42 : decode cX7_init 42 = .ok (.putfield 30, 3) := by decide +kernel
theorem dX7_init_45 : decode cX7_init 45 = .ok (.aload_n 0, 1) := by decide +kernel
theorem dX7_init_46 : decode cX7_init 46 = .ok (.new 34, 3) := by decide +kernel
theorem dX7_init_49 : decode cX7_init 49 = .ok (.dup, 1) := by decide +kernel
theorem dX7_init_50 : decode cX7_init 50 = .ok (.invokespecial 36, 3) := by decide +kernel
theorem dX7_init_53 : decode cX7_init 53 = .ok (.putfield 37, 3) := by decide +kernel
theorem dX7_init_56 : decode cX7_init 56 = .ok (.aload_n 0, 1) := by decide +kernel
theorem dX7_init_57 : decode cX7_init 57 = .ok (.new 41, 3) := by decide +kernel
theorem dX7_init_60 : decode cX7_init 60 = .ok (.dup, 1) := by decide +kernel
theorem dX7_init_61 : decode cX7_init 61 = .ok (.invokespecial 43, 3) := by decide +kernel
theorem dX7_init_64 : decode cX7_init 64 = .ok (.putfield 44, 3) := by decide +kernel
theorem dX7_init_67 : decode cX7_init 67 = .ok (.aload_n 0, 1) := by decide +kernel
theorem dX7_init_68 : decode cX7_init 68 = .ok (.bipush 20, 2) := by decide +kernel
theorem dX7_init_70 : decode cX7_init 70 = .ok (.anewarray 48, 3) := by decide +kernel
theorem dX7_init_73 : decode cX7_init 73 = .ok (.putfield 50, 3) := by decide +kernel
theorem dX7_init_76 : decode cX7_init 76 = .ok (.aload_n 0, 1) := by decide +kernel
theorem dX7_init_77 : decode cX7_init 77 = .ok (.lload_n 1, 1) := by decide +kernel
theorem dX7_init_78 : decode cX7_init 78 = .ok (.lconst 1, 1) := by decide +kernel
theorem dX7_init_79 : decode cX7_init 79 = .ok (.ldc2_w 54, 3) := by decide +kernel
theorem dX7_init_82 : decode cX7_init 82 = .ok (.invokestatic 56, 3) := by decide +kernel
theorem dX7_init_85 : decode cX7_init 85 = .ok (.ifCond .eq 8, 3) := by decide +kernel
theorem dX7_init_88 : decode cX7_init 88 = .ok (.lload_n 1, 1) := by decide +kernel
theorem dX7_init_89 : decode cX7_init 89 = .ok (.l2i, 1) := by decide +kernel
theorem dX7_init_90 : decode cX7_init 90 = .ok (.goto 6, 3) := by decide +kernel
theorem dX7_init_93 : decode cX7_init 93 = .ok (.sipush 4096, 3) := by decide +kernel
theorem dX7_init_96 : decode cX7_init 96 = .ok (.putfield 60, 3) := by decide +kernel
theorem dX7_init_99 : decode cX7_init 99 = .ok (.return_, 1) := by decide +kernel
set_option maxRecDepth 20000 in
theorem ggX7_region_X7_isWithin : GoodIn wsX7_region wsX7_isWithin := goodIn_r _ [7] (by decide +kernel) (by decide +kernel)
set_option maxRecDepth 20000 in
theorem gX7_region_X7_isWithin : GoodIn wsX7_region (va_wsS RX7 56 yX7_isWithin wsX7_isWithin) := goodIn_app (goodIn_of _ (by decide +kernel)) ggX7_region_X7_isWithin
set_option maxRecDepth 20000 in
theorem ggX7_region_X4_overlap : GoodIn wsX7_region wsX4_overlap := goodIn_r _ [11, 12, 13, 14, 28, 29, 30, 31] (by decide +kernel) (by decide +kernel)
set_option maxRecDepth 20000 in
theorem gX7_region_X4_overlap_n66 : GoodIn wsX7_region (wsX4_overlap) := ggX7_region_X4_overlap
set_option maxRecDepth 20000 in
theorem ggX7_region_X4_add : GoodIn wsX7_region wsX4_add := goodIn_r _ [17, 12, 14, 13, 18, 28, 29, 30, 31] (by decide +kernel) (by decide +kernel)
set_option maxRecDepth 20000 in
theorem gX7_region_X4_add_n70 : GoodIn wsX7_region (wsX4_add) := ggX7_region_X4_add
theorem dX7_region_0 : decode cX7_region 0 = .ok (.lload_n 3, 1) := by decide +kernel
theorem dX7_region_1 : decode cX7_region 1 = .ok (.lconst 1, 1) := by decide +kernel
theorem dX7_region_2 : decode cX7_region 2 = .ok (.lcmp, 1) := by decide +kernel
theorem dX7_region_3 : decode cX7_region 3 = .ok (.ifCond .lt 25, 3) := by decide +kernel
theorem dX7_region_6 : decode cX7_region 6 = .ok (.lload_n 1, 1) := by decide +kernel
theorem dX7_region_7 : decode cX7_region 7 = .ok (.lconst 0, 1) := by decide +kernel
theorem dX7_region_8 : decode cX7_region 8 = .ok (.lcmp, 1) := by decide +kernel
theorem dX7_region_9 : decode cX7_region 9 = .ok (.ifCond .lt 19, 3) := by decide +kernel
theorem dX7_region_12 : decode cX7_region 12 = .ok (.lload_n 1, 1) := by decide +kernel
theorem dX7_region_13 : decode cX7_region 13 = .ok (.aload_n 0, 1) := by decide +kernel
theorem dX7_region_14 : decode cX7_region 14 = .ok (.getfield 60, 3) := by decide +kernel
theorem dX7_region_17 : decode cX7_region 17 = .ok (.i2l, 1) := by decide +kernel
theorem dX7_region_18 : decode cX7_region 18 = .ok (.lload_n 3, 1) := by decide +kernel
theorem dX7_region_19 : decode cX7_region 19 = .ok (.lsub, 1) := by decide +kernel
theorem dX7_region_20 : decode cX7_region 20 = .ok (.lcmp, 1) := by decide +kernel
theorem dX7_region_21 : decode cX7_region 21 = .ok (.ifCond .gt 7, 3) := by decide +kernel
theorem dX7_region_24 : decode cX7_region 24 = .ok (.iconst 1, 1) := by decide +kernel
theorem dX7_region_25 : decode cX7_region 25 = .ok (.goto 4, 3) := by decide +kernel
theorem dX7_region_28 : decode cX7_region 28 = .ok (.iconst 0, 1) := by decide +kernel
theorem dX7_region_29 : decode cX7_region 29 = .ok (.istore 6, 2) := by decide +kernel
theorem dX7_region_31 : decode cX7_region 31 = .ok (.iload 6, 2) := by decide +kernel
theorem dX7_region_33 : decode cX7_region 33 = .ok (.ifCond .eq 16, 3) := by decide +kernel
theorem dX7_region_36 : decode cX7_region 36 = .ok (.iload 5, 2) := by decide +kernel
theorem dX7_region_38 : decode cX7_region 38 = .ok (.i2l, 1) := by decide +kernel
theorem dX7_region_39 : decode cX7_region 39 = .ok (.lconst 0, 1) := by decide +kernel
theorem dX7_region_40 : decode cX7_region 40 = .ok (.ldc2_w 64, 3) := by decide +kernel
theorem dX7_region_43 : decode cX7_region 43 = .ok (.invokestatic 56, 3) := by decide +kernel
theorem dX7_region_46 : decode cX7_region 46 = .ok (.ifCond .ne 6, 3) := by decide +kernel
theorem dX7_region_49 : decode cX7_region 49 = .ok (.bipush (-2), 2) := by decide +kernel
theorem dX7_region_51 : decode cX7_region 51 = .ok (.ireturn, 1) := by decide +kernel
theorem dX7_region_52 : decode cX7_region 52 = .ok (.lload_n 1, 1) := by decide +kernel
theorem dX7_region_53 : decode cX7_region 53 = .ok (.l2i, 1) := by decide +kernel
theorem dX7_region_54 : decode cX7_region 54 = .ok (.istore 7, 2) := by decide +kernel
theorem dX7_region_56 : decode cX7_region 56 = .ok (.iload 7, 2) := by decide +kernel
theorem dX7_region_58 : decode cX7_region 58 = .ok (.lload_n 3, 1) := by decide +kernel
theorem dX7_region_59 : decode cX7_region 59 = .ok (.l2i, 1) := by decide +kernel
theorem dX7_region_60 : decode cX7_region 60 = .ok (.iadd, 1) := by decide +kernel
theorem dX7_region_61 : decode cX7_region 61 = .ok (.istore 8, 2) := by decide +kernel
theorem dX7_region_63 : decode cX7_region 63 = .ok (.aload_n 0, 1) := by decide +kernel
theorem dX7_region_64 : decode cX7_region 64 = .ok (.getfield 10, 3) := by decide +kernel
theorem dX7_region_67 : decode cX7_region 67 = .ok (.iload 7, 2) := by decide +kernel
theorem dX7_region_69 : decode cX7_region 69 = .ok (.iload 8, 2) := by decide +kernel
theorem dX7_region_71 : decode cX7_region 71 = .ok (.invokevirtual 66, 3) := by decide +kernel
theorem dX7_region_74 : decode cX7_region 74 = .ok (.ifCond .eq 6, 3) := by decide +kernel
theorem dX7_region_77 : decode cX7_region 77 = .ok (.bipush (-3), 2) := by decide +kernel
theorem dX7_region_79 : decode cX7_region 79 = .ok (.ireturn, 1) := by decide +kernel
theorem dX7_region_80 : decode cX7_region 80 = .ok (.aload_n 0, 1) := by decide +kernel
theorem dX7_region_81 : decode cX7_region 81 = .ok (.getfield 10, 3) := by decide +kernel
theorem dX7_region_84 : decode cX7_region 84 = .ok (.iload 7, 2) := by decide +kernel
theorem dX7_region_86 : decode cX7_region 86 = .ok (.iload 8, 2) := by decide +kernel
theorem dX7_region_88 : decode cX7_region 88 = .ok (.iload 5, 2) := by decide +kernel
theorem dX7_region_90 : decode cX7_region 90 = .ok (.invokevirtual 70, 3) := by decide +kernel
theorem dX7_region_93 : decode cX7_region 93 = .ok (.ireturn, 1) := by decide +kernel
set_option maxRecDepth 20000 in
theorem ggX7_section_X7_isWithin : GoodIn wsX7_section wsX7_isWithin := goodIn_r _ [9] (by decide +kernel) (by decide +kernel)
set_option maxRecDepth 20000 in
theorem gX7_section_X7_isWithin : GoodIn wsX7_section (va_wsS RX7 56 yX7_isWithin wsX7_isWithin) := goodIn_app (goodIn_of _ (by decide +kernel)) ggX7_section_X7_isWithin
set_option maxRecDepth 20000 in
theorem ggX7_section_X5_add : GoodIn wsX7_section wsX5_add := goodIn_r _ [13, 14, 15, 16, 17, 18, 19, 20, 11, 21, 22, 32, 33, 34, 35, 36] (by decide +kernel) (by decide +kernel)
set_option maxRecDepth 20000 in
theorem gX7_section_X5_add_n84 : GoodIn wsX7_section (wsX5_add) := ggX7_section_X5_add
theorem dX7_section_0 : decode cX7_section 0 = .ok (.lload_n 1, 1) := by decide +kernel
theorem dX7_section_1 : decode cX7_section 1 = .ok (.lconst 0, 1) := by decide +kernel
theorem dX7_section_2 : decode cX7_section 2 = .ok (.ldc2_w 54, 3) := by decide +kernel
theorem dX7_section_5 : decode cX7_section 5 = .ok (.invokestatic 56, 3) := by decide +kernel
theorem dX7_section_8 : decode cX7_section 8 = .ok (.ifCond .eq 27, 3) := by decide +kernel
theorem dX7_section_11 : decode cX7_section 11 = .ok (.lload_n 3, 1) := by decide +kernel
theorem dX7_section_12 : decode cX7_section 12 = .ok (.lconst 0, 1) := by decide +kernel
theorem dX7_section_13 : decode cX7_section 13 = .ok (.ldc2_w 54, 3) := by decide +kernel
theorem dX7_section_16 : decode cX7_section 16 = .ok (.invokestatic 56, 3) := by decide +kernel
theorem dX7_section_19 : decode cX7_section 19 = .ok (.ifCond .eq 16, 3) := by decide +kernel
theorem dX7_section_22 : decode cX7_section 22 = .ok (.iload 5, 2) := by decide +kernel
theorem dX7_section_24 : decode cX7_section 24 = .ok (.i2l, 1) := by decide +kernel
theorem dX7_section_25 : decode cX7_section 25 = .ok (.lconst 0, 1) := by decide +kernel
theorem dX7_section_26 : decode cX7_section 26 = .ok (.ldc2_w 64, 3) := by decide +kernel
theorem dX7_section_29 : decode cX7_section 29 = .ok (.invokestatic 56, 3) := by decide +kernel
theorem dX7_section_32 : decode cX7_section 32 = .ok (.ifCond .ne 6, 3) := by decide +kernel
theorem dX7_section_35 : decode cX7_section 35 = .ok (.bipush (-2), 2) := by decide +kernel
theorem dX7_section_37 : decode cX7_section 37 = .ok (.ireturn, 1) := by decide +kernel
theorem dX7_section_38 : decode cX7_section 38 = .ok (.aload_n 0, 1) := by decide +kernel
theorem dX7_section_39 : decode cX7_section 39 = .ok (.getfield 19, 3) := by decide +kernel
theorem dX7_section_42 : decode cX7_section 42 = .ok (.getfield 74, 3) := by decide +kernel
theorem dX7_section_45 : decode cX7_section 45 = .ok (.bipush 40, 2) := by decide +kernel
theorem dX7_section_47 : decode cX7_section 47 = .ok (.if_icmp .lt 6, 3) := by decide +kernel
theorem dX7_section_50 : decode cX7_section 50 = .ok (.bipush (-4), 2) := by decide +kernel
theorem dX7_section_52 : decode cX7_section 52 = .ok (.ireturn, 1) := by decide +kernel
theorem dX7_section_53 : decode cX7_section 53 = .ok (.lload_n 3, 1) := by decide +kernel
theorem dX7_section_54 : decode cX7_section 54 = .ok (.lconst 0, 1) := by decide +kernel
theorem dX7_section_55 : decode cX7_section 55 = .ok (.lcmp, 1) := by decide +kernel
theorem dX7_section_56 : decode cX7_section 56 = .ok (.ifCond .ne 13, 3) := by decide +kernel
theorem dX7_section_59 : decode cX7_section 59 = .ok (.new 77, 3) := by decide +kernel
theorem dX7_section_62 : decode cX7_section 62 = .ok (.dup, 1) := by decide +kernel
theorem dX7_section_63 : decode cX7_section 63 = .ok (.ldc 79, 2) := by decide +kernel
theorem dX7_section_65 : decode cX7_section 65 = .ok (.invokespecial 81, 3) := by decide +kernel
theorem dX7_section_68 : decode cX7_section 68 = .ok (.athrow, 1) := by decide +kernel
theorem dX7_section_69 : decode cX7_section 69 = .ok (.aload_n 0, 1) := by decide +kernel
theorem dX7_section_70 : decode cX7_section 70 = .ok (.getfield 19, 3) := by decide +kernel
theorem dX7_section_73 : decode cX7_section 73 = .ok (.lload_n 1, 1) := by decide +kernel
theorem dX7_section_74 : decode cX7_section 74 = .ok (.l2i, 1) := by decide +kernel
theorem dX7_section_75 : decode cX7_section 75 = .ok (.lload_n 3, 1) := by decide +kernel
theorem dX7_section_76 : decode cX7_section 76 = .ok (.l2i, 1) := by decide +kernel
theorem dX7_section_77 : decode cX7_section 77 = .ok (.iload 5, 2) := by decide +kernel
theorem dX7_section_79 : decode cX7_section 79 = .ok (.invokevirtual 84, 3) := by decide +kernel
theorem dX7_section_82 : decode cX7_section 82 = .ok (.ireturn, 1) := by decide +kernel
set_option maxRecDepth 20000 in
theorem ggX7_place_X6_clear : GoodIn wsX7_place wsX6_clear := goodIn_r _ [8, 9, 59, 60, 61] (by decide +kernel) (by decide +kernel)
set_option maxRecDepth 20000 in
theorem gX7_place_X6_clear_n85 : GoodIn wsX7_place (wsX6_clear) := ggX7_place_X6_clear
set_option maxRecDepth 20000 in
theorem ggX7_place_X7_takeSpaceFor : GoodIn wsX7_place wsX7_takeSpaceFor := goodIn_r _ [14, 2, 15, 1, 16, 17, 18, 19, 20, 21, 6, 22, 23, 9, 24, 25, 26, 27, 28, 29, 30, 31, 45, 46, 47, 48, 49, 50, 51, 52, 53, 54, 55, 56, 57, 58, 62, 63, 64, 65, 59, 60, 61] (by decide +kernel) (by decide +kernel)
set_option maxRecDepth 20000 in
theorem gX7_place_X7_takeSpaceFor : GoodIn wsX7_place (wsV RX7 91 RX7 yX7_takeSpaceFor wsX7_takeSpaceFor) := goodIn_app (goodIn_of _ (by decide +kernel)) ggX7_place_X7_takeSpaceFor
set_option maxRecDepth 20000 in
theorem ggX7_place_X3_add : GoodIn wsX7_place wsX3_add := goodIn_r _ [35, 36, 37, 38, 39, 40, 41, 42, 43, 44, 66, 67, 68, 69, 70] (by decide +kernel) (by decide +kernel)
set_option maxRecDepth 20000 in
theorem gX7_place_X3_add_n95 : GoodIn wsX7_place (wsX3_add) := ggX7_place_X3_add
theorem dX7_place_0 : decode cX7_place 0 = .ok (.aload_n 0, 1) := by decide +kernel
theorem dX7_place_1 : decode cX7_place 1 = .ok (.getfield 26, 3) := by decide +kernel
theorem dX7_place_4 : decode cX7_place 4 = .ok (.invokevirtual 85, 3) := by decide +kernel
theorem dX7_place_7 : decode cX7_place 7 = .ok (.iconst 0, 1) := by decide +kernel
theorem dX7_place_8 : decode cX7_place 8 = .ok (.istore_n 1, 1) := by decide +kernel
theorem dX7_place_9 : decode cX7_place 9 = .ok (.iload_n 1, 1) := by decide +kernel
theorem dX7_place_10 : decode cX7_place 10 = .ok (.aload_n 0, 1) := by decide +kernel
theorem dX7_place_11 : decode cX7_place 11 = .ok (.getfield 19, 3) := by decide +kernel
theorem dX7_place_14 : decode cX7_place 14 = .ok (.getfield 74, 3) := by decide +kernel
theorem dX7_place_17 : decode cX7_place 17 = .ok (.if_icmp .ge 42, 3) := by decide +kernel
theorem dX7_place_20 : decode cX7_place 20 = .ok (.aload_n 0, 1) := by decide +kernel
theorem dX7_place_21 : decode cX7_place 21 = .ok (.getfield 19, 3) := by decide +kernel
theorem dX7_place_24 : decode cX7_place 24 = .ok (.getfield 88, 3) := by decide +kernel
theorem dX7_place_27 : decode cX7_place 27 = .ok (.iload_n 1, 1) := by decide +kernel
theorem dX7_place_28 : decode cX7_place 28 = .ok (.iaload, 1) := by decide +kernel
theorem dX7_place_29 : decode cX7_place 29 = .ok (.istore_n 2, 1) := by decide +kernel
theorem dX7_place_30 : decode cX7_place 30 = .ok (.aload_n 0, 1) := by decide +kernel
theorem dX7_place_31 : decode cX7_place 31 = .ok (.iload_n 2, 1) := by decide +kernel
theorem dX7_place_32 : decode cX7_place 32 = .ok (.invokevirtual 91, 3) := by decide +kernel
theorem dX7_place_35 : decode cX7_place 35 = .ok (.istore_n 3, 1) := by decide +kernel
theorem dX7_place_36 : decode cX7_place 36 = .ok (.iload_n 3, 1) := by decide +kernel
theorem dX7_place_37 : decode cX7_place 37 = .ok (.iconst (-1), 1) := by decide +kernel
theorem dX7_place_38 : decode cX7_place 38 = .ok (.if_icmp .ne 8, 3) := by decide +kernel
theorem dX7_place_41 : decode cX7_place 41 = .ok (.iload_n 2, 1) := by decide +kernel
theorem dX7_place_42 : decode cX7_place 42 = .ok (.iconst 1, 1) := by decide +kernel
theorem dX7_place_43 : decode cX7_place 43 = .ok (.iadd, 1) := by decide +kernel
theorem dX7_place_44 : decode cX7_place 44 = .ok (.ineg, 1) := by decide +kernel
theorem dX7_place_45 : decode cX7_place 45 = .ok (.ireturn, 1) := by decide +kernel
theorem dX7_place_46 : decode cX7_place 46 = .ok (.aload_n 0, 1) := by decide +kernel
theorem dX7_place_47 : decode cX7_place 47 = .ok (.getfield 30, 3) := by decide +kernel
theorem dX7_place_50 : decode cX7_place 50 = .ok (.iload_n 2, 1) := by decide +kernel
theorem dX7_place_51 : decode cX7_place 51 = .ok (.iload_n 3, 1) := by decide +kernel
theorem dX7_place_52 : decode cX7_place 52 = .ok (.iastore, 1) := by decide +kernel
theorem dX7_place_53 : decode cX7_place 53 = .ok (.iinc 1 1, 3) := by decide +kernel
theorem dX7_place_56 : decode cX7_place 56 = .ok (.goto (-47), 3) := by decide +kernel
theorem dX7_place_59 : decode cX7_place 59 = .ok (.aload_n 0, 1) := by decide +kernel
theorem dX7_place_60 : decode cX7_place 60 = .ok (.getfield 37, 3) := by decide +kernel
theorem dX7_place_63 : decode cX7_place 63 = .ok (.aload_n 0, 1) := by decide +kernel
theorem dX7_place_64 : decode cX7_place 64 = .ok (.getfield 30, 3) := by decide +kernel
theorem dX7_place_67 : decode cX7_place 67 = .ok (.aload_n 0, 1) := by decide +kernel
theorem dX7_place_68 : decode cX7_place 68 = .ok (.getfield 19, 3) := by decide +kernel
theorem dX7_place_71 : decode cX7_place 71 = .ok (.getfield 74, 3) := by decide +kernel
theorem dX7_place_74 : decode cX7_place 74 = .ok (.invokevirtual 95, 3) := by decide +kernel
theorem dX7_place_77 : decode cX7_place 77 = .ok (.iconst 1, 1) := by decide +kernel
theorem dX7_place_78 : decode cX7_place 78 = .ok (.ireturn, 1) := by decide +kernel
set_option maxRecDepth 20000 in
theorem ggX7_at_X7_isWithin : GoodIn wsX7_at wsX7_isWithin := goodIn_r _ [8] (by decide +kernel) (by decide +kernel)
set_option maxRecDepth 20000 in
theorem gX7_at_X7_isWithin : GoodIn wsX7_at (va_wsS RX7 56 yX7_isWithin wsX7_isWithin) := goodIn_app (goodIn_of _ (by decide +kernel)) ggX7_at_X7_isWithin
theorem dX7_at_0 : decode cX7_at 0 = .ok (.iload_n 1, 1) := by decide +kernel
theorem dX7_at_1 : decode cX7_at 1 = .ok (.i2l, 1) := by decide +kernel
theorem dX7_at_2 : decode cX7_at 2 = .ok (.lconst 1, 1) := by decide +kernel
theorem dX7_at_3 : decode cX7_at 3 = .ok (.aload_n 0, 1) := by decide +kernel
theorem dX7_at_4 : decode cX7_at 4 = .ok (.getfield 19, 3) := by decide +kernel
theorem dX7_at_7 : decode cX7_at 7 = .ok (.getfield 74, 3) := by decide +kernel
theorem dX7_at_10 : decode cX7_at 10 = .ok (.i2l, 1) := by decide +kernel
theorem dX7_at_11 : decode cX7_at 11 = .ok (.invokestatic 56, 3) := by decide +kernel
theorem dX7_at_14 : decode cX7_at 14 = .ok (.ifCond .ne 7, 3) := by decide +kernel
theorem dX7_at_17 : decode cX7_at 17 = .ok (.ldc2_w 98, 3) := by decide +kernel
theorem dX7_at_20 : decode cX7_at 20 = .ok (.lreturn, 1) := by decide +kernel
theorem dX7_at_21 : decode cX7_at 21 = .ok (.iload_n 1, 1) := by decide +kernel
theorem dX7_at_22 : decode cX7_at 22 = .ok (.aload_n 0, 1) := by decide +kernel
theorem dX7_at_23 : decode cX7_at 23 = .ok (.getfield 37, 3) := by decide +kernel
theorem dX7_at_26 : decode cX7_at 26 = .ok (.getfield 100, 3) := by decide +kernel
theorem dX7_at_29 : decode cX7_at 29 = .ok (.if_icmp .le 7, 3) := by decide +kernel
theorem dX7_at_32 : decode cX7_at 32 = .ok (.ldc2_w 103, 3) := by decide +kernel
theorem dX7_at_35 : decode cX7_at 35 = .ok (.lreturn, 1) := by decide +kernel
theorem dX7_at_36 : decode cX7_at 36 = .ok (.aload_n 0, 1) := by decide +kernel
theorem dX7_at_37 : decode cX7_at 37 = .ok (.getfield 37, 3) := by decide +kernel
theorem dX7_at_40 : decode cX7_at 40 = .ok (.getfield 105, 3) := by decide +kernel
theorem dX7_at_43 : decode cX7_at 43 = .ok (.iload_n 1, 1) := by decide +kernel
theorem dX7_at_44 : decode cX7_at 44 = .ok (.iconst 1, 1) := by decide +kernel
theorem dX7_at_45 : decode cX7_at 45 = .ok (.isub, 1) := by decide +kernel
theorem dX7_at_46 : decode cX7_at 46 = .ok (.iaload, 1) := by decide +kernel
theorem dX7_at_47 : decode cX7_at 47 = .ok (.i2l, 1) := by decide +kernel
theorem dX7_at_48 : decode cX7_at 48 = .ok (.lreturn, 1) := by decide +kernel
set_option maxRecDepth 20000 in
theorem ggX7_call_X7_isWithin : GoodIn wsX7_call wsX7_isWithin := goodIn_r _ [7] (by decide +kernel) (by decide +kernel)
set_option maxRecDepth 20000 in
theorem gX7_call_X7_isWithin : GoodIn wsX7_call (va_wsS RX7 56 yX7_isWithin wsX7_isWithin) := goodIn_app (goodIn_of _ (by decide +kernel)) ggX7_call_X7_isWithin
set_option maxRecDepth 20000 in
theorem ggX7_call_X2_addCall : GoodIn wsX7_call wsX2_addCall := goodIn_r _ [11, 12, 32, 33, 34] (by decide +kernel) (by decide +kernel)
set_option maxRecDepth 20000 in
theorem gX7_call_X2_addCall_n115 : GoodIn wsX7_call (wsX2_addCall) := ggX7_call_X2_addCall
set_option maxRecDepth 20000 in
theorem ggX7_call_X2_countCalls : GoodIn wsX7_call wsX2_countCalls := goodIn_r _ [15, 12, 16, 17, 18, 19, 20, 21, 22, 32, 33, 34] (by decide +kernel) (by decide +kernel)
set_option maxRecDepth 20000 in
theorem gX7_call_X2_countCalls_n119 : GoodIn wsX7_call (wsX2_countCalls) := ggX7_call_X2_countCalls
theorem dX7_call_0 : decode cX7_call 0 = .ok (.iload_n 1, 1) := by decide +kernel
theorem dX7_call_1 : decode cX7_call 1 = .ok (.i2l, 1) := by decide +kernel
theorem dX7_call_2 : decode cX7_call 2 = .ok (.lconst 1, 1) := by decide +kernel
theorem dX7_call_3 : decode cX7_call 3 = .ok (.ldc2_w 108, 3) := by decide +kernel
theorem dX7_call_6 : decode cX7_call 6 = .ok (.invokestatic 56, 3) := by decide +kernel
theorem dX7_call_9 : decode cX7_call 9 = .ok (.ifCond .eq 15, 3) := by decide +kernel
theorem dX7_call_12 : decode cX7_call 12 = .ok (.iload_n 2, 1) := by decide +kernel
theorem dX7_call_13 : decode cX7_call 13 = .ok (.i2l, 1) := by decide +kernel
theorem dX7_call_14 : decode cX7_call 14 = .ok (.lconst 0, 1) := by decide +kernel
theorem dX7_call_15 : decode cX7_call 15 = .ok (.ldc2_w 108, 3) := by decide +kernel
theorem dX7_call_18 : decode cX7_call 18 = .ok (.invokestatic 56, 3) := by decide +kernel
theorem dX7_call_21 : decode cX7_call 21 = .ok (.ifCond .ne 5, 3) := by decide +kernel
theorem dX7_call_24 : decode cX7_call 24 = .ok (.iconst (-1), 1) := by decide +kernel
theorem dX7_call_25 : decode cX7_call 25 = .ok (.ireturn, 1) := by decide +kernel
theorem dX7_call_26 : decode cX7_call 26 = .ok (.lload_n 3, 1) := by decide +kernel
theorem dX7_call_27 : decode cX7_call 27 = .ok (.lconst 0, 1) := by decide +kernel
theorem dX7_call_28 : decode cX7_call 28 = .ok (.ldc2_w 110, 3) := by decide +kernel
theorem dX7_call_31 : decode cX7_call 31 = .ok (.invokestatic 56, 3) := by decide +kernel
theorem dX7_call_34 : decode cX7_call 34 = .ok (.ifCond .ne 6, 3) := by decide +kernel
theorem dX7_call_37 : decode cX7_call 37 = .ok (.bipush (-2), 2) := by decide +kernel
theorem dX7_call_39 : decode cX7_call 39 = .ok (.ireturn, 1) := by decide +kernel
theorem dX7_call_40 : decode cX7_call 40 = .ok (.aload_n 0, 1) := by decide +kernel
theorem dX7_call_41 : decode cX7_call 41 = .ok (.getfield 44, 3) := by decide +kernel
theorem dX7_call_44 : decode cX7_call 44 = .ok (.getfield 112, 3) := by decide +kernel
theorem dX7_call_47 : decode cX7_call 47 = .ok (.iload_n 1, 1) := by decide +kernel
theorem dX7_call_48 : decode cX7_call 48 = .ok (.lload_n 3, 1) := by decide +kernel
theorem dX7_call_49 : decode cX7_call 49 = .ok (.l2i, 1) := by decide +kernel
theorem dX7_call_50 : decode cX7_call 50 = .ok (.iastore, 1) := by decide +kernel
theorem dX7_call_51 : decode cX7_call 51 = .ok (.iload_n 2, 1) := by decide +kernel
theorem dX7_call_52 : decode cX7_call 52 = .ok (.ifCond .eq 12, 3) := by decide +kernel
theorem dX7_call_55 : decode cX7_call 55 = .ok (.aload_n 0, 1) := by decide +kernel
theorem dX7_call_56 : decode cX7_call 56 = .ok (.getfield 44, 3) := by decide +kernel
theorem dX7_call_59 : decode cX7_call 59 = .ok (.iload_n 1, 1) := by decide +kernel
theorem dX7_call_60 : decode cX7_call 60 = .ok (.iload_n 2, 1) := by decide +kernel
theorem dX7_call_61 : decode cX7_call 61 = .ok (.invokevirtual 115, 3) := by decide +kernel
theorem dX7_call_64 : decode cX7_call 64 = .ok (.aload_n 0, 1) := by decide +kernel
theorem dX7_call_65 : decode cX7_call 65 = .ok (.getfield 44, 3) := by decide +kernel
theorem dX7_call_68 : decode cX7_call 68 = .ok (.iload_n 1, 1) := by decide +kernel
theorem dX7_call_69 : decode cX7_call 69 = .ok (.invokevirtual 119, 3) := by decide +kernel
theorem dX7_call_72 : decode cX7_call 72 = .ok (.ireturn, 1) := by decide +kernel
set_option maxRecDepth 20000 in
theorem ggX7_depth_X7_isWithin : GoodIn wsX7_depth wsX7_isWithin := goodIn_r _ [7] (by decide +kernel) (by decide +kernel)
set_option maxRecDepth 20000 in
theorem gX7_depth_X7_isWithin : GoodIn wsX7_depth (va_wsS RX7 56 yX7_isWithin wsX7_isWithin) := goodIn_app (goodIn_of _ (by decide +kernel)) ggX7_depth_X7_isWithin
set_option maxRecDepth 20000 in
theorem ggX7_depth_X2_depthFrom : GoodIn wsX7_depth wsX2_depthFrom := goodIn_r _ [11, 12, 13, 14, 9, 15, 16, 17, 18, 19, 20, 21, 22, 23, 24, 25, 26, 27, 28, 29, 39, 40, 41] (by decide +kernel) (by decide +kernel)
set_option maxRecDepth 20000 in
theorem gX7_depth_X2_depthFrom_n124 : GoodIn wsX7_depth (wsX2_depthFrom) := ggX7_depth_X2_depthFrom
theorem dX7_depth_0 : decode cX7_depth 0 = .ok (.iload_n 1, 1) := by decide +kernel
theorem dX7_depth_1 : decode cX7_depth 1 = .ok (.i2l, 1) := by decide +kernel
theorem dX7_depth_2 : decode cX7_depth 2 = .ok (.lconst 1, 1) := by decide +kernel
theorem dX7_depth_3 : decode cX7_depth 3 = .ok (.ldc2_w 108, 3) := by decide +kernel
theorem dX7_depth_6 : decode cX7_depth 6 = .ok (.invokestatic 56, 3) := by decide +kernel
theorem dX7_depth_9 : decode cX7_depth 9 = .ok (.ifCond .ne 7, 3) := by decide +kernel
theorem dX7_depth_12 : decode cX7_depth 12 = .ok (.ldc2_w 122, 3) := by decide +kernel
theorem dX7_depth_15 : decode cX7_depth 15 = .ok (.lreturn, 1) := by decide +kernel
theorem dX7_depth_16 : decode cX7_depth 16 = .ok (.aload_n 0, 1) := by decide +kernel
theorem dX7_depth_17 : decode cX7_depth 17 = .ok (.getfield 44, 3) := by decide +kernel
theorem dX7_depth_20 : decode cX7_depth 20 = .ok (.iload_n 1, 1) := by decide +kernel
theorem dX7_depth_21 : decode cX7_depth 21 = .ok (.invokevirtual 124, 3) := by decide +kernel
theorem dX7_depth_24 : decode cX7_depth 24 = .ok (.i2l, 1) := by decide +kernel
theorem dX7_depth_25 : decode cX7_depth 25 = .ok (.lreturn, 1) := by decide +kernel
set_option maxRecDepth 20000 in
theorem ggX7_block_X7_isWithin : GoodIn wsX7_block wsX7_isWithin := goodIn_r _ [10] (by decide +kernel) (by decide +kernel)
set_option maxRecDepth 20000 in
theorem gX7_block_X7_isWithin : GoodIn wsX7_block (va_wsS RX7 56 yX7_isWithin wsX7_isWithin) := goodIn_app (goodIn_of _ (by decide +kernel)) ggX7_block_X7_isWithin
set_option maxRecDepth 20000 in
theorem ggX7_block_X0_init : GoodIn wsX7_block wsX0_init := goodIn_r _ [12, 13, 14, 15, 16, 17, 18, 19, 20, 21, 22, 23, 24, 25, 26, 27, 28, 29, 30, 31, 41, 42, 43, 44, 45] (by decide +kernel) (by decide +kernel)
set_option maxRecDepth 20000 in
theorem gX7_block_X0_init_n132 : GoodIn wsX7_block (wsX0_init) := ggX7_block_X0_init
theorem dX7_block_0 : decode cX7_block 0 = .ok (.lload_n 1, 1) := by decide +kernel
theorem dX7_block_1 : decode cX7_block 1 = .ok (.lconst 1, 1) := by decide +kernel
theorem dX7_block_2 : decode cX7_block 2 = .ok (.ldc2_w 127, 3) := by decide +kernel
theorem dX7_block_5 : decode cX7_block 5 = .ok (.invokestatic 56, 3) := by decide +kernel
theorem dX7_block_8 : decode cX7_block 8 = .ok (.ifCond .ne 6, 3) := by decide +kernel
theorem dX7_block_11 : decode cX7_block 11 = .ok (.bipush (-2), 2) := by decide +kernel
theorem dX7_block_13 : decode cX7_block 13 = .ok (.ireturn, 1) := by decide +kernel
theorem dX7_block_14 : decode cX7_block 14 = .ok (.aload_n 0, 1) := by decide +kernel
theorem dX7_block_15 : decode cX7_block 15 = .ok (.getfield 129, 3) := by decide +kernel
theorem dX7_block_18 : decode cX7_block 18 = .ok (.bipush 20, 2) := by decide +kernel
theorem dX7_block_20 : decode cX7_block 20 = .ok (.if_icmp .lt 6, 3) := by decide +kernel
theorem dX7_block_23 : decode cX7_block 23 = .ok (.bipush (-4), 2) := by decide +kernel
theorem dX7_block_25 : decode cX7_block 25 = .ok (.ireturn, 1) := by decide +kernel
theorem dX7_block_26 : decode cX7_block 26 = .ok (.aload_n 0, 1) := by decide +kernel
theorem dX7_block_27 : decode cX7_block 27 = .ok (.getfield 50, 3) := by decide +kernel
theorem dX7_block_30 : decode cX7_block 30 = .ok (.aload_n 0, 1) := by decide +kernel
theorem dX7_block_31 : decode cX7_block 31 = .ok (.getfield 129, 3) := by decide +kernel
theorem dX7_block_34 : decode cX7_block 34 = .ok (.new 48, 3) := by decide +kernel
theorem dX7_block_37 : decode cX7_block 37 = .ok (.dup, 1) := by decide +kernel
theorem dX7_block_38 : decode cX7_block 38 = .ok (.lload_n 1, 1) := by decide +kernel
theorem dX7_block_39 : decode cX7_block 39 = .ok (.l2i, 1) := by decide +kernel
theorem dX7_block_40 : decode cX7_block 40 = .ok (.invokespecial 132, 3) := by decide +kernel
theorem dX7_block_43 : decode cX7_block 43 = .ok (.aastore, 1) := by decide +kernel
theorem dX7_block_44 : decode cX7_block 44 = .ok (.aload_n 0, 1) := by decide +kernel
theorem dX7_block_45 : decode cX7_block 45 = .ok (.dup, 1) := by decide +kernel
theorem dX7_block_46 : decode cX7_block 46 = .ok (.getfield 129, 3) := by decide +kernel
theorem dX7_block_49 : decode cX7_block 49 = .ok (.iconst 1, 1) := by decide +kernel
theorem dX7_block_50 : decode cX7_block 50 = .ok (.iadd, 1) := by decide +kernel
theorem dX7_block_51 : decode cX7_block 51 = .ok (.putfield 129, 3) := by decide +kernel
theorem dX7_block_54 : decode cX7_block 54 = .ok (.aload_n 0, 1) := by decide +kernel
theorem dX7_block_55 : decode cX7_block 55 = .ok (.getfield 129, 3) := by decide +kernel
theorem dX7_block_58 : decode cX7_block 58 = .ok (.ireturn, 1) := by decide +kernel
set_option maxRecDepth 20000 in
theorem ggX7_write_X7_blockNumbered : GoodIn wsX7_write wsX7_blockNumbered := goodIn_r _ [5, 6, 7, 8, 9, 4, 10, 29, 30, 31, 32, 33, 34, 35, 36, 37] (by decide +kernel) (by decide +kernel)
set_option maxRecDepth 20000 in
theorem gX7_write_X7_blockNumbered : GoodIn wsX7_write (wsV RX7 135 RX7 yX7_blockNumbered wsX7_blockNumbered) := goodIn_app (goodIn_of _ (by decide +kernel)) ggX7_write_X7_blockNumbered
set_option maxRecDepth 20000 in
theorem ggX7_write_X0_hasOctet : GoodIn wsX7_write wsX0_hasOctet := goodIn_r _ [14, 15, 9, 4, 10, 26, 27, 28] (by decide +kernel) (by decide +kernel)
set_option maxRecDepth 20000 in
theorem gX7_write_X0_hasOctet_n139 : GoodIn wsX7_write (wsX0_hasOctet) := ggX7_write_X0_hasOctet
set_option maxRecDepth 20000 in
theorem ggX7_write_X1_setOctet : GoodIn wsX7_write wsX1_setOctet := goodIn_r _ [19, 20, 21, 22, 23, 17, 24, 25, 38, 39] (by decide +kernel) (by decide +kernel)
set_option maxRecDepth 20000 in
theorem gX7_write_X1_setOctet_n147 : GoodIn wsX7_write (wsX1_setOctet) := ggX7_write_X1_setOctet
theorem dX7_write_0 : decode cX7_write 0 = .ok (.aload_n 0, 1) := by decide +kernel
theorem dX7_write_1 : decode cX7_write 1 = .ok (.iload_n 1, 1) := by decide +kernel
theorem dX7_write_2 : decode cX7_write 2 = .ok (.invokevirtual 135, 3) := by decide +kernel
theorem dX7_write_5 : decode cX7_write 5 = .ok (.astore 4, 2) := by decide +kernel
theorem dX7_write_7 : decode cX7_write 7 = .ok (.aload 4, 2) := by decide +kernel
theorem dX7_write_9 : decode cX7_write 9 = .ok (.ifnonnull 5, 3) := by decide +kernel
theorem dX7_write_12 : decode cX7_write 12 = .ok (.iconst (-1), 1) := by decide +kernel
theorem dX7_write_13 : decode cX7_write 13 = .ok (.ireturn, 1) := by decide +kernel
theorem dX7_write_14 : decode cX7_write 14 = .ok (.aload 4, 2) := by decide +kernel
theorem dX7_write_16 : decode cX7_write 16 = .ok (.iload_n 2, 1) := by decide +kernel
theorem dX7_write_17 : decode cX7_write 17 = .ok (.invokevirtual 139, 3) := by decide +kernel
theorem dX7_write_20 : decode cX7_write 20 = .ok (.ifCond .ne 6, 3) := by decide +kernel
theorem dX7_write_23 : decode cX7_write 23 = .ok (.bipush (-2), 2) := by decide +kernel
theorem dX7_write_25 : decode cX7_write 25 = .ok (.ireturn, 1) := by decide +kernel
theorem dX7_write_26 : decode cX7_write 26 = .ok (.aload 4, 2) := by decide +kernel
theorem dX7_write_28 : decode cX7_write 28 = .ok (.getfield 143, 3) := by decide +kernel
theorem dX7_write_31 : decode cX7_write 31 = .ok (.iload_n 2, 1) := by decide +kernel
theorem dX7_write_32 : decode cX7_write 32 = .ok (.iload_n 3, 1) := by decide +kernel
theorem dX7_write_33 : decode cX7_write 33 = .ok (.invokevirtual 147, 3) := by decide +kernel
theorem dX7_write_36 : decode cX7_write 36 = .ok (.aload 4, 2) := by decide +kernel
theorem dX7_write_38 : decode cX7_write 38 = .ok (.getfield 153, 3) := by decide +kernel
theorem dX7_write_41 : decode cX7_write 41 = .ok (.iload_n 2, 1) := by decide +kernel
theorem dX7_write_42 : decode cX7_write 42 = .ok (.iload_n 3, 1) := by decide +kernel
theorem dX7_write_43 : decode cX7_write 43 = .ok (.invokevirtual 147, 3) := by decide +kernel
theorem dX7_write_46 : decode cX7_write 46 = .ok (.iconst 1, 1) := by decide +kernel
theorem dX7_write_47 : decode cX7_write 47 = .ok (.ireturn, 1) := by decide +kernel
set_option maxRecDepth 20000 in
theorem ggX7_poke_X7_blockNumbered : GoodIn wsX7_poke wsX7_blockNumbered := goodIn_r _ [6, 7, 8, 9, 10, 5, 11, 25, 26, 27, 28, 29, 30, 31, 32, 33] (by decide +kernel) (by decide +kernel)
set_option maxRecDepth 20000 in
theorem gX7_poke_X7_blockNumbered : GoodIn wsX7_poke (wsV RX7 135 RX7 yX7_blockNumbered wsX7_blockNumbered) := goodIn_app (goodIn_of _ (by decide +kernel)) ggX7_poke_X7_blockNumbered
set_option maxRecDepth 20000 in
theorem ggX7_poke_X7_isWithin : GoodIn wsX7_poke wsX7_isWithin := goodIn_r _ [11] (by decide +kernel) (by decide +kernel)
set_option maxRecDepth 20000 in
theorem gX7_poke_X7_isWithin : GoodIn wsX7_poke (va_wsS RX7 56 yX7_isWithin wsX7_isWithin) := goodIn_app (goodIn_of _ (by decide +kernel)) ggX7_poke_X7_isWithin
set_option maxRecDepth 20000 in
theorem ggX7_poke_X0_hasOctet : GoodIn wsX7_poke wsX0_hasOctet := goodIn_r _ [15, 16, 10, 5, 11, 22, 23, 24] (by decide +kernel) (by decide +kernel)
set_option maxRecDepth 20000 in
theorem gX7_poke_X0_hasOctet_n139 : GoodIn wsX7_poke (wsX0_hasOctet) := ggX7_poke_X0_hasOctet
set_option maxRecDepth 20000 in
theorem ggX7_poke_X1_flip : GoodIn wsX7_poke wsX1_flip := goodIn_r _ [20, 21, 34, 35] (by decide +kernel) (by decide +kernel)
set_option maxRecDepth 20000 in
theorem gX7_poke_X1_flip_n158 : GoodIn wsX7_poke (wsX1_flip) := ggX7_poke_X1_flip
theorem dX7_poke_0 : decode cX7_poke 0 = .ok (.aload_n 0, 1) := by decide +kernel
theorem dX7_poke_1 : decode cX7_poke 1 = .ok (.iload_n 1, 1) := by decide +kernel
theorem dX7_poke_2 : decode cX7_poke 2 = .ok (.invokevirtual 135, 3) := by decide +kernel
theorem dX7_poke_5 : decode cX7_poke 5 = .ok (.astore 5, 2) := by decide +kernel
theorem dX7_poke_7 : decode cX7_poke 7 = .ok (.aload 5, 2) := by decide +kernel
theorem dX7_poke_9 : decode cX7_poke 9 = .ok (.ifnull 15, 3) := by decide +kernel
theorem dX7_poke_12 : decode cX7_poke 12 = .ok (.iload_n 2, 1) := by decide +kernel
theorem dX7_poke_13 : decode cX7_poke 13 = .ok (.i2l, 1) := by decide +kernel
theorem dX7_poke_14 : decode cX7_poke 14 = .ok (.lconst 1, 1) := by decide +kernel
theorem dX7_poke_15 : decode cX7_poke 15 = .ok (.ldc2_w 156, 3) := by decide +kernel
theorem dX7_poke_18 : decode cX7_poke 18 = .ok (.invokestatic 56, 3) := by decide +kernel
theorem dX7_poke_21 : decode cX7_poke 21 = .ok (.ifCond .ne 5, 3) := by decide +kernel
theorem dX7_poke_24 : decode cX7_poke 24 = .ok (.iconst (-1), 1) := by decide +kernel
theorem dX7_poke_25 : decode cX7_poke 25 = .ok (.ireturn, 1) := by decide +kernel
theorem dX7_poke_26 : decode cX7_poke 26 = .ok (.aload 5, 2) := by decide +kernel
theorem dX7_poke_28 : decode cX7_poke 28 = .ok (.iload_n 3, 1) := by decide +kernel
theorem dX7_poke_29 : decode cX7_poke 29 = .ok (.invokevirtual 139, 3) := by decide +kernel
theorem dX7_poke_32 : decode cX7_poke 32 = .ok (.ifCond .ne 6, 3) := by decide +kernel
theorem dX7_poke_35 : decode cX7_poke 35 = .ok (.bipush (-2), 2) := by decide +kernel
theorem dX7_poke_37 : decode cX7_poke 37 = .ok (.ireturn, 1) := by decide +kernel
theorem dX7_poke_38 : decode cX7_poke 38 = .ok (.iload_n 2, 1) := by decide +kernel
theorem dX7_poke_39 : decode cX7_poke 39 = .ok (.iconst 1, 1) := by decide +kernel
theorem dX7_poke_40 : decode cX7_poke 40 = .ok (.if_icmp .ne 17, 3) := by decide +kernel
theorem dX7_poke_43 : decode cX7_poke 43 = .ok (.aload 5, 2) := by decide +kernel
theorem dX7_poke_45 : decode cX7_poke 45 = .ok (.getfield 143, 3) := by decide +kernel
theorem dX7_poke_48 : decode cX7_poke 48 = .ok (.iload_n 3, 1) := by decide +kernel
theorem dX7_poke_49 : decode cX7_poke 49 = .ok (.iload 4, 2) := by decide +kernel
theorem dX7_poke_51 : decode cX7_poke 51 = .ok (.invokevirtual 158, 3) := by decide +kernel
theorem dX7_poke_54 : decode cX7_poke 54 = .ok (.goto 14, 3) := by decide +kernel
theorem dX7_poke_57 : decode cX7_poke 57 = .ok (.aload 5, 2) := by decide +kernel
theorem dX7_poke_59 : decode cX7_poke 59 = .ok (.getfield 153, 3) := by decide +kernel
theorem dX7_poke_62 : decode cX7_poke 62 = .ok (.iload_n 3, 1) := by decide +kernel
theorem dX7_poke_63 : decode cX7_poke 63 = .ok (.iload 4, 2) := by decide +kernel
theorem dX7_poke_65 : decode cX7_poke 65 = .ok (.invokevirtual 158, 3) := by decide +kernel
theorem dX7_poke_68 : decode cX7_poke 68 = .ok (.ireturn, 1) := by decide +kernel
set_option maxRecDepth 20000 in
theorem ggX7_read_X7_blockNumbered : GoodIn wsX7_read wsX7_blockNumbered := goodIn_r _ [5, 6, 7, 8, 9, 4, 10, 41, 42, 43, 44, 45, 46, 47, 48, 49] (by decide +kernel) (by decide +kernel)
set_option maxRecDepth 20000 in
theorem gX7_read_X7_blockNumbered : GoodIn wsX7_read (wsV RX7 135 RX7 yX7_blockNumbered wsX7_blockNumbered) := goodIn_app (goodIn_of _ (by decide +kernel)) ggX7_read_X7_blockNumbered
set_option maxRecDepth 20000 in
theorem ggX7_read_X0_repair : GoodIn wsX7_read wsX0_repair := goodIn_r _ [14, 15, 16, 17, 18, 19, 20, 21, 22, 23, 24, 25, 26, 27, 28, 29, 30, 31, 32, 33, 34, 35, 36, 37, 38, 39, 40, 50, 51, 52, 53, 54] (by decide +kernel) (by decide +kernel)
set_option maxRecDepth 20000 in
theorem gX7_read_X0_repair_n162 : GoodIn wsX7_read (wsX0_repair) := ggX7_read_X0_repair
theorem dX7_read_0 : decode cX7_read 0 = .ok (.aload_n 0, 1) := by decide +kernel
theorem dX7_read_1 : decode cX7_read 1 = .ok (.iload_n 1, 1) := by decide +kernel
theorem dX7_read_2 : decode cX7_read 2 = .ok (.invokevirtual 135, 3) := by decide +kernel
theorem dX7_read_5 : decode cX7_read 5 = .ok (.astore_n 2, 1) := by decide +kernel
theorem dX7_read_6 : decode cX7_read 6 = .ok (.aload_n 2, 1) := by decide +kernel
theorem dX7_read_7 : decode cX7_read 7 = .ok (.ifnonnull 5, 3) := by decide +kernel
theorem dX7_read_10 : decode cX7_read 10 = .ok (.iconst (-1), 1) := by decide +kernel
theorem dX7_read_11 : decode cX7_read 11 = .ok (.ireturn, 1) := by decide +kernel
theorem dX7_read_12 : decode cX7_read 12 = .ok (.aload_n 2, 1) := by decide +kernel
theorem dX7_read_13 : decode cX7_read 13 = .ok (.invokevirtual 162, 3) := by decide +kernel
theorem dX7_read_16 : decode cX7_read 16 = .ok (.ireturn, 1) := by decide +kernel
theorem dX7_cell_0 : decode cX7_cell 0 = .ok (.lload_n 1, 1) := by decide +kernel
theorem dX7_cell_1 : decode cX7_cell 1 = .ok (.lconst 0, 1) := by decide +kernel
theorem dX7_cell_2 : decode cX7_cell 2 = .ok (.lcmp, 1) := by decide +kernel
theorem dX7_cell_3 : decode cX7_cell 3 = .ok (.ifCond .lt 13, 3) := by decide +kernel
theorem dX7_cell_6 : decode cX7_cell 6 = .ok (.lload_n 1, 1) := by decide +kernel
theorem dX7_cell_7 : decode cX7_cell 7 = .ok (.aload_n 0, 1) := by decide +kernel
theorem dX7_cell_8 : decode cX7_cell 8 = .ok (.getfield 60, 3) := by decide +kernel
theorem dX7_cell_11 : decode cX7_cell 11 = .ok (.i2l, 1) := by decide +kernel
theorem dX7_cell_12 : decode cX7_cell 12 = .ok (.lcmp, 1) := by decide +kernel
theorem dX7_cell_13 : decode cX7_cell 13 = .ok (.ifCond .lt 13, 3) := by decide +kernel
theorem dX7_cell_16 : decode cX7_cell 16 = .ok (.new 166, 3) := by decide +kernel
theorem dX7_cell_19 : decode cX7_cell 19 = .ok (.dup, 1) := by decide +kernel
theorem dX7_cell_20 : decode cX7_cell 20 = .ok (.ldc 168, 2) := by decide +kernel
theorem dX7_cell_22 : decode cX7_cell 22 = .ok (.invokespecial 170, 3) := by decide +kernel
theorem dX7_cell_25 : decode cX7_cell 25 = .ok (.athrow, 1) := by decide +kernel
theorem dX7_cell_26 : decode cX7_cell 26 = .ok (.iconst 0, 1) := by decide +kernel
theorem dX7_cell_27 : decode cX7_cell 27 = .ok (.istore_n 3, 1) := by decide +kernel
theorem dX7_cell_28 : decode cX7_cell 28 = .ok (.iload_n 3, 1) := by decide +kernel
theorem dX7_cell_29 : decode cX7_cell 29 = .ok (.aload_n 0, 1) := by decide +kernel
theorem dX7_cell_30 : decode cX7_cell 30 = .ok (.getfield 37, 3) := by decide +kernel
theorem dX7_cell_33 : decode cX7_cell 33 = .ok (.getfield 100, 3) := by decide +kernel
theorem dX7_cell_36 : decode cX7_cell 36 = .ok (.if_icmp .ge 51, 3) := by decide +kernel
theorem dX7_cell_39 : decode cX7_cell 39 = .ok (.aload_n 0, 1) := by decide +kernel
theorem dX7_cell_40 : decode cX7_cell 40 = .ok (.getfield 37, 3) := by decide +kernel
theorem dX7_cell_43 : decode cX7_cell 43 = .ok (.getfield 105, 3) := by decide +kernel
theorem dX7_cell_46 : decode cX7_cell 46 = .ok (.iload_n 3, 1) := by decide +kernel
theorem dX7_cell_47 : decode cX7_cell 47 = .ok (.iaload, 1) := by decide +kernel
theorem dX7_cell_48 : decode cX7_cell 48 = .ok (.istore 4, 2) := by decide +kernel
theorem dX7_cell_50 : decode cX7_cell 50 = .ok (.lload_n 1, 1) := by decide +kernel
theorem dX7_cell_51 : decode cX7_cell 51 = .ok (.iload 4, 2) := by decide +kernel
theorem dX7_cell_53 : decode cX7_cell 53 = .ok (.i2l, 1) := by decide +kernel
theorem dX7_cell_54 : decode cX7_cell 54 = .ok (.lcmp, 1) := by decide +kernel
theorem dX7_cell_55 : decode cX7_cell 55 = .ok (.ifCond .lt 26, 3) := by decide +kernel
theorem dX7_cell_58 : decode cX7_cell 58 = .ok (.lload_n 1, 1) := by decide +kernel
theorem dX7_cell_59 : decode cX7_cell 59 = .ok (.iload 4, 2) := by decide +kernel
theorem dX7_cell_61 : decode cX7_cell 61 = .ok (.aload_n 0, 1) := by decide +kernel
theorem dX7_cell_62 : decode cX7_cell 62 = .ok (.getfield 19, 3) := by decide +kernel
theorem dX7_cell_65 : decode cX7_cell 65 = .ok (.getfield 171, 3) := by decide +kernel
theorem dX7_cell_68 : decode cX7_cell 68 = .ok (.iload_n 3, 1) := by decide +kernel
theorem dX7_cell_69 : decode cX7_cell 69 = .ok (.iaload, 1) := by decide +kernel
theorem dX7_cell_70 : decode cX7_cell 70 = .ok (.iadd, 1) := by decide +kernel
theorem dX7_cell_71 : decode cX7_cell 71 = .ok (.i2l, 1) := by decide +kernel
theorem dX7_cell_72 : decode cX7_cell 72 = .ok (.lcmp, 1) := by decide +kernel
theorem dX7_cell_73 : decode cX7_cell 73 = .ok (.ifCond .ge 8, 3) := by decide +kernel
theorem dX7_cell_76 : decode cX7_cell 76 = .ok (.iload_n 3, 1) := by decide +kernel
theorem dX7_cell_77 : decode cX7_cell 77 = .ok (.iconst 1, 1) := by decide +kernel
theorem dX7_cell_78 : decode cX7_cell 78 = .ok (.iadd, 1) := by decide +kernel
theorem dX7_cell_79 : decode cX7_cell 79 = .ok (.i2b, 1) := by decide +kernel
theorem dX7_cell_80 : decode cX7_cell 80 = .ok (.ireturn, 1) := by decide +kernel
theorem dX7_cell_81 : decode cX7_cell 81 = .ok (.iinc 3 1, 3) := by decide +kernel
theorem dX7_cell_84 : decode cX7_cell 84 = .ok (.goto (-56), 3) := by decide +kernel
theorem dX7_cell_87 : decode cX7_cell 87 = .ok (.iconst (-1), 1) := by decide +kernel
theorem dX7_cell_88 : decode cX7_cell 88 = .ok (.ireturn, 1) := by decide +kernel
set_option maxRecDepth 20000 in
theorem ggX7_moved_X7_isWithin : GoodIn wsX7_moved wsX7_isWithin := goodIn_r _ [5] (by decide +kernel) (by decide +kernel)
set_option maxRecDepth 20000 in
theorem gX7_moved_X7_isWithin : GoodIn wsX7_moved (va_wsS RX7 56 yX7_isWithin wsX7_isWithin) := goodIn_app (goodIn_of _ (by decide +kernel)) ggX7_moved_X7_isWithin
set_option maxRecDepth 20000 in
theorem ggX7_moved_X3_countMovedSince : GoodIn wsX7_moved wsX3_countMovedSince := goodIn_r _ [9, 10, 11, 12, 22, 23, 24, 25, 26] (by decide +kernel) (by decide +kernel)
set_option maxRecDepth 20000 in
theorem gX7_moved_X3_countMovedSince_n177 : GoodIn wsX7_moved (wsX3_countMovedSince) := ggX7_moved_X3_countMovedSince
theorem dX7_moved_0 : decode cX7_moved 0 = .ok (.iload_n 1, 1) := by decide +kernel
theorem dX7_moved_1 : decode cX7_moved 1 = .ok (.i2l, 1) := by decide +kernel
theorem dX7_moved_2 : decode cX7_moved 2 = .ok (.lconst 1, 1) := by decide +kernel
theorem dX7_moved_3 : decode cX7_moved 3 = .ok (.aload_n 0, 1) := by decide +kernel
theorem dX7_moved_4 : decode cX7_moved 4 = .ok (.getfield 37, 3) := by decide +kernel
theorem dX7_moved_7 : decode cX7_moved 7 = .ok (.getfield 174, 3) := by decide +kernel
theorem dX7_moved_10 : decode cX7_moved 10 = .ok (.i2l, 1) := by decide +kernel
theorem dX7_moved_11 : decode cX7_moved 11 = .ok (.invokestatic 56, 3) := by decide +kernel
theorem dX7_moved_14 : decode cX7_moved 14 = .ok (.ifCond .ne 5, 3) := by decide +kernel
theorem dX7_moved_17 : decode cX7_moved 17 = .ok (.iconst (-1), 1) := by decide +kernel
theorem dX7_moved_18 : decode cX7_moved 18 = .ok (.ireturn, 1) := by decide +kernel
theorem dX7_moved_19 : decode cX7_moved 19 = .ok (.aload_n 0, 1) := by decide +kernel
theorem dX7_moved_20 : decode cX7_moved 20 = .ok (.getfield 37, 3) := by decide +kernel
theorem dX7_moved_23 : decode cX7_moved 23 = .ok (.iload_n 1, 1) := by decide +kernel
theorem dX7_moved_24 : decode cX7_moved 24 = .ok (.iconst 1, 1) := by decide +kernel
theorem dX7_moved_25 : decode cX7_moved 25 = .ok (.isub, 1) := by decide +kernel
theorem dX7_moved_26 : decode cX7_moved 26 = .ok (.invokevirtual 177, 3) := by decide +kernel
theorem dX7_moved_29 : decode cX7_moved 29 = .ok (.ireturn, 1) := by decide +kernel
set_option maxRecDepth 20000 in
theorem ggX7_takeSpaceFor_X4_allow : GoodIn wsX7_takeSpaceFor wsX4_allow := goodIn_r _ [7, 8, 36, 37, 38, 39] (by decide +kernel) (by decide +kernel)
set_option maxRecDepth 20000 in
theorem gX7_takeSpaceFor_X4_allow_n184 : GoodIn wsX7_takeSpaceFor (wsX4_allow) := ggX7_takeSpaceFor_X4_allow
set_option maxRecDepth 20000 in
theorem ggX7_takeSpaceFor_X6_leastFree : GoodIn wsX7_takeSpaceFor wsX6_leastFree := goodIn_r _ [12, 13, 14, 15, 16, 17, 10, 18, 40, 41, 42] (by decide +kernel) (by decide +kernel)
set_option maxRecDepth 20000 in
theorem gX7_takeSpaceFor_X6_leastFree_n193 : GoodIn wsX7_takeSpaceFor (wsX6_leastFree) := ggX7_takeSpaceFor_X6_leastFree
set_option maxRecDepth 20000 in
theorem ggX7_takeSpaceFor_X6_add : GoodIn wsX7_takeSpaceFor wsX6_add := goodIn_r _ [21, 13, 14, 15, 40, 41, 42] (by decide +kernel) (by decide +kernel)
set_option maxRecDepth 20000 in
theorem gX7_takeSpaceFor_X6_add_n199 : GoodIn wsX7_takeSpaceFor (wsX6_add) := ggX7_takeSpaceFor_X6_add
theorem dX7_takeSpaceFor_0 : decode cX7_takeSpaceFor 0 = .ok (.aload_n 0, 1) := by decide +kernel
theorem dX7_takeSpaceFor_1 : decode cX7_takeSpaceFor 1 = .ok (.getfield 19, 3) := by decide +kernel
theorem dX7_takeSpaceFor_4 : decode cX7_takeSpaceFor 4 = .ok (.getfield 171, 3) := by decide +kernel
theorem dX7_takeSpaceFor_7 : decode cX7_takeSpaceFor 7 = .ok (.iload_n 1, 1) := by decide +kernel
theorem dX7_takeSpaceFor_8 : decode cX7_takeSpaceFor 8 = .ok (.iaload, 1) := by decide +kernel
theorem dX7_takeSpaceFor_9 : decode cX7_takeSpaceFor 9 = .ok (.istore_n 2, 1) := by decide +kernel
theorem dX7_takeSpaceFor_10 : decode cX7_takeSpaceFor 10 = .ok (.iload_n 2, 1) := by decide +kernel
theorem dX7_takeSpaceFor_11 : decode cX7_takeSpaceFor 11 = .ok (.ifCond .ne 5, 3) := by decide +kernel
theorem dX7_takeSpaceFor_14 : decode cX7_takeSpaceFor 14 = .ok (.iconst 0, 1) := by decide +kernel
theorem dX7_takeSpaceFor_15 : decode cX7_takeSpaceFor 15 = .ok (.ireturn, 1) := by decide +kernel
theorem dX7_takeSpaceFor_16 : decode cX7_takeSpaceFor 16 = .ok (.iconst 0, 1) := by decide +kernel
theorem dX7_takeSpaceFor_17 : decode cX7_takeSpaceFor 17 = .ok (.istore_n 3, 1) := by decide +kernel
theorem dX7_takeSpaceFor_18 : decode cX7_takeSpaceFor 18 = .ok (.iload_n 3, 1) := by decide +kernel
theorem dX7_takeSpaceFor_19 : decode cX7_takeSpaceFor 19 = .ok (.aload_n 0, 1) := by decide +kernel
theorem dX7_takeSpaceFor_20 : decode cX7_takeSpaceFor 20 = .ok (.getfield 10, 3) := by decide +kernel
theorem dX7_takeSpaceFor_23 : decode cX7_takeSpaceFor 23 = .ok (.getfield 180, 3) := by decide +kernel
theorem dX7_takeSpaceFor_26 : decode cX7_takeSpaceFor 26 = .ok (.if_icmp .ge 89, 3) := by decide +kernel
theorem dX7_takeSpaceFor_29 : decode cX7_takeSpaceFor 29 = .ok (.aload_n 0, 1) := by decide +kernel
theorem dX7_takeSpaceFor_30 : decode cX7_takeSpaceFor 30 = .ok (.getfield 10, 3) := by decide +kernel
theorem dX7_takeSpaceFor_33 : decode cX7_takeSpaceFor 33 = .ok (.iload_n 3, 1) := by decide +kernel
theorem dX7_takeSpaceFor_34 : decode cX7_takeSpaceFor 34 = .ok (.aload_n 0, 1) := by decide +kernel
theorem dX7_takeSpaceFor_35 : decode cX7_takeSpaceFor 35 = .ok (.getfield 19, 3) := by decide +kernel
theorem dX7_takeSpaceFor_38 : decode cX7_takeSpaceFor 38 = .ok (.getfield 181, 3) := by decide +kernel
theorem dX7_takeSpaceFor_41 : decode cX7_takeSpaceFor 41 = .ok (.iload_n 1, 1) := by decide +kernel
theorem dX7_takeSpaceFor_42 : decode cX7_takeSpaceFor 42 = .ok (.iaload, 1) := by decide +kernel
theorem dX7_takeSpaceFor_43 : decode cX7_takeSpaceFor 43 = .ok (.invokevirtual 184, 3) := by decide +kernel
theorem dX7_takeSpaceFor_46 : decode cX7_takeSpaceFor 46 = .ok (.ifCond .eq 63, 3) := by decide +kernel
theorem dX7_takeSpaceFor_49 : decode cX7_takeSpaceFor 49 = .ok (.aload_n 0, 1) := by decide +kernel
theorem dX7_takeSpaceFor_50 : decode cX7_takeSpaceFor 50 = .ok (.getfield 26, 3) := by decide +kernel
theorem dX7_takeSpaceFor_53 : decode cX7_takeSpaceFor 53 = .ok (.aload_n 0, 1) := by decide +kernel
theorem dX7_takeSpaceFor_54 : decode cX7_takeSpaceFor 54 = .ok (.getfield 10, 3) := by decide +kernel
theorem dX7_takeSpaceFor_57 : decode cX7_takeSpaceFor 57 = .ok (.getfield 187, 3) := by decide +kernel
theorem dX7_takeSpaceFor_60 : decode cX7_takeSpaceFor 60 = .ok (.iload_n 3, 1) := by decide +kernel
theorem dX7_takeSpaceFor_61 : decode cX7_takeSpaceFor 61 = .ok (.iaload, 1) := by decide +kernel
theorem dX7_takeSpaceFor_62 : decode cX7_takeSpaceFor 62 = .ok (.iload_n 2, 1) := by decide +kernel
theorem dX7_takeSpaceFor_63 : decode cX7_takeSpaceFor 63 = .ok (.aload_n 0, 1) := by decide +kernel
theorem dX7_takeSpaceFor_64 : decode cX7_takeSpaceFor 64 = .ok (.getfield 19, 3) := by decide +kernel
theorem dX7_takeSpaceFor_67 : decode cX7_takeSpaceFor 67 = .ok (.getfield 190, 3) := by decide +kernel
theorem dX7_takeSpaceFor_70 : decode cX7_takeSpaceFor 70 = .ok (.iload_n 1, 1) := by decide +kernel
theorem dX7_takeSpaceFor_71 : decode cX7_takeSpaceFor 71 = .ok (.iaload, 1) := by decide +kernel
theorem dX7_takeSpaceFor_72 : decode cX7_takeSpaceFor 72 = .ok (.invokevirtual 193, 3) := by decide +kernel
theorem dX7_takeSpaceFor_75 : decode cX7_takeSpaceFor 75 = .ok (.istore 4, 2) := by decide +kernel
theorem dX7_takeSpaceFor_77 : decode cX7_takeSpaceFor 77 = .ok (.iload 4, 2) := by decide +kernel
theorem dX7_takeSpaceFor_79 : decode cX7_takeSpaceFor 79 = .ok (.iload_n 2, 1) := by decide +kernel
theorem dX7_takeSpaceFor_80 : decode cX7_takeSpaceFor 80 = .ok (.iadd, 1) := by decide +kernel
theorem dX7_takeSpaceFor_81 : decode cX7_takeSpaceFor 81 = .ok (.aload_n 0, 1) := by decide +kernel
theorem dX7_takeSpaceFor_82 : decode cX7_takeSpaceFor 82 = .ok (.getfield 10, 3) := by decide +kernel
theorem dX7_takeSpaceFor_85 : decode cX7_takeSpaceFor 85 = .ok (.getfield 196, 3) := by decide +kernel
theorem dX7_takeSpaceFor_88 : decode cX7_takeSpaceFor 88 = .ok (.iload_n 3, 1) := by decide +kernel
theorem dX7_takeSpaceFor_89 : decode cX7_takeSpaceFor 89 = .ok (.iaload, 1) := by decide +kernel
theorem dX7_takeSpaceFor_90 : decode cX7_takeSpaceFor 90 = .ok (.if_icmp .gt 19, 3) := by decide +kernel
theorem dX7_takeSpaceFor_93 : decode cX7_takeSpaceFor 93 = .ok (.aload_n 0, 1) := by decide +kernel
theorem dX7_takeSpaceFor_94 : decode cX7_takeSpaceFor 94 = .ok (.getfield 26, 3) := by decide +kernel
theorem dX7_takeSpaceFor_97 : decode cX7_takeSpaceFor 97 = .ok (.iload 4, 2) := by decide +kernel
theorem dX7_takeSpaceFor_99 : decode cX7_takeSpaceFor 99 = .ok (.iload 4, 2) := by decide +kernel
theorem dX7_takeSpaceFor_101 : decode cX7_takeSpaceFor 101 = .ok (.iload_n 2, 1) := by decide +kernel
theorem dX7_takeSpaceFor_102 : decode cX7_takeSpaceFor 102 = .ok (.iadd, 1) := by decide +kernel
theorem dX7_takeSpaceFor_103 : decode cX7_takeSpaceFor 103 = .ok (.invokevirtual 199, 3) := by decide +kernel
theorem dX7_takeSpaceFor_106 : decode cX7_takeSpaceFor 106 = .ok (.iload 4, 2) := by decide +kernel
theorem dX7_takeSpaceFor_108 : decode cX7_takeSpaceFor 108 = .ok (.ireturn, 1) := by decide +kernel
theorem dX7_takeSpaceFor_109 : decode cX7_takeSpaceFor 109 = .ok (.iinc 3 1, 3) := by decide +kernel
theorem dX7_takeSpaceFor_112 : decode cX7_takeSpaceFor 112 = .ok (.goto (-94), 3) := by decide +kernel
theorem dX7_takeSpaceFor_115 : decode cX7_takeSpaceFor 115 = .ok (.iconst (-1), 1) := by decide +kernel
theorem dX7_takeSpaceFor_116 : decode cX7_takeSpaceFor 116 = .ok (.ireturn, 1) := by decide +kernel
set_option maxRecDepth 20000 in
theorem ggX7_blockNumbered_X7_isWithin : GoodIn wsX7_blockNumbered wsX7_isWithin := goodIn_r _ [6] (by decide +kernel) (by decide +kernel)
set_option maxRecDepth 20000 in
theorem gX7_blockNumbered_X7_isWithin : GoodIn wsX7_blockNumbered (va_wsS RX7 56 yX7_isWithin wsX7_isWithin) := goodIn_app (goodIn_of _ (by decide +kernel)) ggX7_blockNumbered_X7_isWithin
theorem dX7_blockNumbered_0 : decode cX7_blockNumbered 0 = .ok (.iload_n 1, 1) := by decide +kernel
theorem dX7_blockNumbered_1 : decode cX7_blockNumbered 1 = .ok (.i2l, 1) := by decide +kernel
theorem dX7_blockNumbered_2 : decode cX7_blockNumbered 2 = .ok (.lconst 1, 1) := by decide +kernel
theorem dX7_blockNumbered_3 : decode cX7_blockNumbered 3 = .ok (.aload_n 0, 1) := by decide +kernel
theorem dX7_blockNumbered_4 : decode cX7_blockNumbered 4 = .ok (.getfield 129, 3) := by decide +kernel
theorem dX7_blockNumbered_7 : decode cX7_blockNumbered 7 = .ok (.i2l, 1) := by decide +kernel
theorem dX7_blockNumbered_8 : decode cX7_blockNumbered 8 = .ok (.invokestatic 56, 3) := by decide +kernel
theorem dX7_blockNumbered_11 : decode cX7_blockNumbered 11 = .ok (.ifCond .eq 14, 3) := by decide +kernel
theorem dX7_blockNumbered_14 : decode cX7_blockNumbered 14 = .ok (.aload_n 0, 1) := by decide +kernel
theorem dX7_blockNumbered_15 : decode cX7_blockNumbered 15 = .ok (.getfield 50, 3) := by decide +kernel
theorem dX7_blockNumbered_18 : decode cX7_blockNumbered 18 = .ok (.iload_n 1, 1) := by decide +kernel
theorem dX7_blockNumbered_19 : decode cX7_blockNumbered 19 = .ok (.iconst 1, 1) := by decide +kernel
theorem dX7_blockNumbered_20 : decode cX7_blockNumbered 20 = .ok (.isub, 1) := by decide +kernel
theorem dX7_blockNumbered_21 : decode cX7_blockNumbered 21 = .ok (.aaload, 1) := by decide +kernel
theorem dX7_blockNumbered_22 : decode cX7_blockNumbered 22 = .ok (.goto 4, 3) := by decide +kernel
theorem dX7_blockNumbered_25 : decode cX7_blockNumbered 25 = .ok (.aconst_null, 1) := by decide +kernel
theorem dX7_blockNumbered_26 : decode cX7_blockNumbered 26 = .ok (.areturn, 1) := by decide +kernel
theorem dX7_isWithin_0 : decode cX7_isWithin 0 = .ok (.lload_n 0, 1) := by decide +kernel
theorem dX7_isWithin_1 : decode cX7_isWithin 1 = .ok (.lload_n 2, 1) := by decide +kernel
theorem dX7_isWithin_2 : decode cX7_isWithin 2 = .ok (.lcmp, 1) := by decide +kernel
theorem dX7_isWithin_3 : decode cX7_isWithin 3 = .ok (.ifCond .lt 14, 3) := by decide +kernel
theorem dX7_isWithin_6 : decode cX7_isWithin 6 = .ok (.lload_n 0, 1) := by decide +kernel
theorem dX7_isWithin_7 : decode cX7_isWithin 7 = .ok (.lload 4, 2) := by decide +kernel
theorem dX7_isWithin_9 : decode cX7_isWithin 9 = .ok (.lcmp, 1) := by decide +kernel
theorem dX7_isWithin_10 : decode cX7_isWithin 10 = .ok (.ifCond .gt 7, 3) := by decide +kernel
theorem dX7_isWithin_13 : decode cX7_isWithin 13 = .ok (.iconst 1, 1) := by decide +kernel
theorem dX7_isWithin_14 : decode cX7_isWithin 14 = .ok (.goto 4, 3) := by decide +kernel
theorem dX7_isWithin_17 : decode cX7_isWithin 17 = .ok (.iconst 0, 1) := by decide +kernel
theorem dX7_isWithin_18 : decode cX7_isWithin 18 = .ok (.ireturn, 1) := by decide +kernel
theorem dJx00060_init_a7421_0 : decode cJx00060_init_a7421 0 = .ok (.aload_n 0, 1) := by decide +kernel
theorem dJx00060_init_a7421_1 : decode cJx00060_init_a7421 1 = .ok (.aload_n 1, 1) := by decide +kernel
theorem dJx00060_init_a7421_2 : decode cJx00060_init_a7421 2 = .ok (.invokespecial 7, 3) := by decide +kernel
theorem dJx00060_init_a7421_5 : decode cJx00060_init_a7421 5 = .ok (.return_, 1) := by decide +kernel
theorem dJ6_bitCount_0f7a4_0 : decode cJ6_bitCount_0f7a4 0 = .ok (.iload_n 0, 1) := by decide +kernel
theorem dJ6_bitCount_0f7a4_1 : decode cJ6_bitCount_0f7a4 1 = .ok (.iload_n 0, 1) := by decide +kernel
theorem dJ6_bitCount_0f7a4_2 : decode cJ6_bitCount_0f7a4 2 = .ok (.iconst 1, 1) := by decide +kernel
theorem dJ6_bitCount_0f7a4_3 : decode cJ6_bitCount_0f7a4 3 = .ok (.iushr, 1) := by decide +kernel
theorem dJ6_bitCount_0f7a4_4 : decode cJ6_bitCount_0f7a4 4 = .ok (.ldc_w 265, 3) := by decide +kernel
theorem dJ6_bitCount_0f7a4_7 : decode cJ6_bitCount_0f7a4 7 = .ok (.iand, 1) := by decide +kernel
theorem dJ6_bitCount_0f7a4_8 : decode cJ6_bitCount_0f7a4 8 = .ok (.isub, 1) := by decide +kernel
theorem dJ6_bitCount_0f7a4_9 : decode cJ6_bitCount_0f7a4 9 = .ok (.istore_n 0, 1) := by decide +kernel
theorem dJ6_bitCount_0f7a4_10 : decode cJ6_bitCount_0f7a4 10 = .ok (.iload_n 0, 1) := by decide +kernel
theorem dJ6_bitCount_0f7a4_11 : decode cJ6_bitCount_0f7a4 11 = .ok (.ldc_w 266, 3) := by decide +kernel
theorem dJ6_bitCount_0f7a4_14 : decode cJ6_bitCount_0f7a4 14 = .ok (.iand, 1) := by decide +kernel
theorem dJ6_bitCount_0f7a4_15 : decode cJ6_bitCount_0f7a4 15 = .ok (.iload_n 0, 1) := by decide +kernel
theorem dJ6_bitCount_0f7a4_16 : decode cJ6_bitCount_0f7a4 16 = .ok (.iconst 2, 1) := by decide +kernel
theorem dJ6_bitCount_0f7a4_17 : decode cJ6_bitCount_0f7a4 17 = .ok (.iushr, 1) := by decide +kernel
theorem dJ6_bitCount_0f7a4_18 : decode cJ6_bitCount_0f7a4 18 = .ok (.ldc_w 266, 3) := by decide +kernel
theorem dJ6_bitCount_0f7a4_21 : decode cJ6_bitCount_0f7a4 21 = .ok (.iand, 1) := by decide +kernel
theorem dJ6_bitCount_0f7a4_22 : decode cJ6_bitCount_0f7a4 22 = .ok (.iadd, 1) := by decide +kernel
theorem dJ6_bitCount_0f7a4_23 : decode cJ6_bitCount_0f7a4 23 = .ok (.istore_n 0, 1) := by decide +kernel
theorem dJ6_bitCount_0f7a4_24 : decode cJ6_bitCount_0f7a4 24 = .ok (.iload_n 0, 1) := by decide +kernel
theorem dJ6_bitCount_0f7a4_25 : decode cJ6_bitCount_0f7a4 25 = .ok (.iload_n 0, 1) := by decide +kernel
theorem dJ6_bitCount_0f7a4_26 : decode cJ6_bitCount_0f7a4 26 = .ok (.iconst 4, 1) := by decide +kernel
theorem dJ6_bitCount_0f7a4_27 : decode cJ6_bitCount_0f7a4 27 = .ok (.iushr, 1) := by decide +kernel
theorem dJ6_bitCount_0f7a4_28 : decode cJ6_bitCount_0f7a4 28 = .ok (.iadd, 1) := by decide +kernel
theorem dJ6_bitCount_0f7a4_29 : decode cJ6_bitCount_0f7a4 29 = .ok (.ldc_w 267, 3) := by decide +kernel
theorem dJ6_bitCount_0f7a4_32 : decode cJ6_bitCount_0f7a4 32 = .ok (.iand, 1) := by decide +kernel
theorem dJ6_bitCount_0f7a4_33 : decode cJ6_bitCount_0f7a4 33 = .ok (.istore_n 0, 1) := by decide +kernel
theorem dJ6_bitCount_0f7a4_34 : decode cJ6_bitCount_0f7a4 34 = .ok (.iload_n 0, 1) := by decide +kernel
theorem dJ6_bitCount_0f7a4_35 : decode cJ6_bitCount_0f7a4 35 = .ok (.iload_n 0, 1) := by decide +kernel
theorem dJ6_bitCount_0f7a4_36 : decode cJ6_bitCount_0f7a4 36 = .ok (.bipush 8, 2) := by decide +kernel
theorem dJ6_bitCount_0f7a4_38 : decode cJ6_bitCount_0f7a4 38 = .ok (.iushr, 1) := by decide +kernel
theorem dJ6_bitCount_0f7a4_39 : decode cJ6_bitCount_0f7a4 39 = .ok (.iadd, 1) := by decide +kernel
theorem dJ6_bitCount_0f7a4_40 : decode cJ6_bitCount_0f7a4 40 = .ok (.istore_n 0, 1) := by decide +kernel
theorem dJ6_bitCount_0f7a4_41 : decode cJ6_bitCount_0f7a4 41 = .ok (.iload_n 0, 1) := by decide +kernel
theorem dJ6_bitCount_0f7a4_42 : decode cJ6_bitCount_0f7a4 42 = .ok (.iload_n 0, 1) := by decide +kernel
theorem dJ6_bitCount_0f7a4_43 : decode cJ6_bitCount_0f7a4 43 = .ok (.bipush 16, 2) := by decide +kernel
theorem dJ6_bitCount_0f7a4_45 : decode cJ6_bitCount_0f7a4 45 = .ok (.iushr, 1) := by decide +kernel
theorem dJ6_bitCount_0f7a4_46 : decode cJ6_bitCount_0f7a4 46 = .ok (.iadd, 1) := by decide +kernel
theorem dJ6_bitCount_0f7a4_47 : decode cJ6_bitCount_0f7a4 47 = .ok (.istore_n 0, 1) := by decide +kernel
theorem dJ6_bitCount_0f7a4_48 : decode cJ6_bitCount_0f7a4 48 = .ok (.iload_n 0, 1) := by decide +kernel
theorem dJ6_bitCount_0f7a4_49 : decode cJ6_bitCount_0f7a4 49 = .ok (.bipush 63, 2) := by decide +kernel
theorem dJ6_bitCount_0f7a4_51 : decode cJ6_bitCount_0f7a4 51 = .ok (.iand, 1) := by decide +kernel
theorem dJ6_bitCount_0f7a4_52 : decode cJ6_bitCount_0f7a4 52 = .ok (.ireturn, 1) := by decide +kernel
theorem dJ9_max_7cf53_0 : decode cJ9_max_7cf53 0 = .ok (.iload_n 0, 1) := by decide +kernel
theorem dJ9_max_7cf53_1 : decode cJ9_max_7cf53 1 = .ok (.iload_n 1, 1) := by decide +kernel
theorem dJ9_max_7cf53_2 : decode cJ9_max_7cf53 2 = .ok (.if_icmp .lt 7, 3) := by decide +kernel
theorem dJ9_max_7cf53_5 : decode cJ9_max_7cf53 5 = .ok (.iload_n 0, 1) := by decide +kernel
theorem dJ9_max_7cf53_6 : decode cJ9_max_7cf53 6 = .ok (.goto 4, 3) := by decide +kernel
theorem dJ9_max_7cf53_9 : decode cJ9_max_7cf53 9 = .ok (.iload_n 1, 1) := by decide +kernel
theorem dJ9_max_7cf53_10 : decode cJ9_max_7cf53 10 = .ok (.ireturn, 1) := by decide +kernel
theorem dJ7_fill_031fb_0 : decode cJ7_fill_031fb 0 = .ok (.iconst 0, 1) := by decide +kernel
theorem dJ7_fill_031fb_1 : decode cJ7_fill_031fb 1 = .ok (.istore_n 2, 1) := by decide +kernel
theorem dJ7_fill_031fb_2 : decode cJ7_fill_031fb 2 = .ok (.aload_n 0, 1) := by decide +kernel
theorem dJ7_fill_031fb_3 : decode cJ7_fill_031fb 3 = .ok (.arraylength, 1) := by decide +kernel
theorem dJ7_fill_031fb_4 : decode cJ7_fill_031fb 4 = .ok (.istore_n 3, 1) := by decide +kernel
theorem dJ7_fill_031fb_5 : decode cJ7_fill_031fb 5 = .ok (.iload_n 2, 1) := by decide +kernel
theorem dJ7_fill_031fb_6 : decode cJ7_fill_031fb 6 = .ok (.iload_n 3, 1) := by decide +kernel
theorem dJ7_fill_031fb_7 : decode cJ7_fill_031fb 7 = .ok (.if_icmp .ge 13, 3) := by decide +kernel
theorem dJ7_fill_031fb_10 : decode cJ7_fill_031fb 10 = .ok (.aload_n 0, 1) := by decide +kernel
theorem dJ7_fill_031fb_11 : decode cJ7_fill_031fb 11 = .ok (.iload_n 2, 1) := by decide +kernel
theorem dJ7_fill_031fb_12 : decode cJ7_fill_031fb 12 = .ok (.iload_n 1, 1) := by decide +kernel
theorem dJ7_fill_031fb_13 : decode cJ7_fill_031fb 13 = .ok (.bastore, 1) := by decide +kernel
theorem dJ7_fill_031fb_14 : decode cJ7_fill_031fb 14 = .ok (.iinc 2 1, 3) := by decide +kernel
theorem dJ7_fill_031fb_17 : decode cJ7_fill_031fb 17 = .ok (.goto (-12), 3) := by decide +kernel
theorem dJ7_fill_031fb_20 : decode cJ7_fill_031fb 20 = .ok (.return_, 1) := by decide +kernel
end
section
theorem dX8_init_0 : decode cX8_init 0 = .ok (.aload_n 0, 1) := by decide +kernel
theorem dX8_init_1 : decode cX8_init 1 = .ok (.invokespecial 1, 3) := by decide +kernel
theorem dX8_init_4 : decode cX8_init 4 = .ok (.aload_n 0, 1) := by decide +kernel
theorem dX8_init_5 : decode cX8_init 5 = .ok (.bipush 17, 2) := by decide +kernel
theorem dX8_init_7 : decode cX8_init 7 = .ok (.newarray .int, 2) := by decide +kernel
theorem dX8_init_9 : decode cX8_init 9 = .ok (.putfield 7, 3) := by decide +kernel
theorem dX8_init_12 : decode cX8_init 12 = .ok (.aload_n 0, 1) := by decide +kernel
theorem dX8_init_13 : decode cX8_init 13 = .ok (.bipush 17, 2) := by decide +kernel
theorem dX8_init_15 : decode cX8_init 15 = .ok (.newarray .int, 2) := by decide +kernel
theorem dX8_init_17 : decode cX8_init 17 = .ok (.putfield 13, 3) := by decide +kernel
theorem dX8_init_20 : decode cX8_init 20 = .ok (.aload_n 0, 1) := by decide +kernel
theorem dX8_init_21 : decode cX8_init 21 = .ok (.bipush 17, 2) := by decide +kernel
theorem dX8_init_23 : decode cX8_init 23 = .ok (.newarray .int, 2) := by decide +kernel
theorem dX8_init_25 : decode cX8_init 25 = .ok (.putfield 16, 3) := by decide +kernel
theorem dX8_init_28 : decode cX8_init 28 = .ok (.aload_n 0, 1) := by decide +kernel
theorem dX8_init_29 : decode cX8_init 29 = .ok (.bipush 41, 2) := by decide +kernel
theorem dX8_init_31 : decode cX8_init 31 = .ok (.newarray .int, 2) := by decide +kernel
theorem dX8_init_33 : decode cX8_init 33 = .ok (.putfield 19, 3) := by decide +kernel
theorem dX8_init_36 : decode cX8_init 36 = .ok (.aload_n 0, 1) := by decide +kernel
theorem dX8_init_37 : decode cX8_init 37 = .ok (.bipush 41, 2) := by decide +kernel
theorem dX8_init_39 : decode cX8_init 39 = .ok (.newarray .int, 2) := by decide +kernel
theorem dX8_init_41 : decode cX8_init 41 = .ok (.putfield 22, 3) := by decide +kernel
theorem dX8_init_44 : decode cX8_init 44 = .ok (.aload_n 0, 1) := by decide +kernel
theorem dX8_init_45 : decode cX8_init 45 = .ok (.bipush 41, 2) := by decide +kernel
theorem dX8_init_47 : decode cX8_init 47 = .ok (.newarray .int, 2) := by decide +kernel
theorem dX8_init_49 : decode cX8_init 49 = .ok (.putfield 25, 3) := by decide +kernel
theorem dX8_init_52 : decode cX8_init 52 = .ok (.aload_n 0, 1) := by decide +kernel
theorem dX8_init_53 : decode cX8_init 53 = .ok (.ldc 28, 2) := by decide +kernel
theorem dX8_init_55 : decode cX8_init 55 = .ok (.newarray .byte, 2) := by decide +kernel
theorem dX8_init_57 : decode cX8_init 57 = .ok (.putfield 29, 3) := by decide +kernel
theorem dX8_init_60 : decode cX8_init 60 = .ok (.aload_n 0, 1) := by decide +kernel
theorem dX8_init_61 : decode cX8_init 61 = .ok (.ldc 28, 2) := by decide +kernel
theorem dX8_init_63 : decode cX8_init 63 = .ok (.newarray .byte, 2) := by decide +kernel
theorem dX8_init_65 : decode cX8_init 65 = .ok (.putfield 33, 3) := by decide +kernel
theorem dX8_init_68 : decode cX8_init 68 = .ok (.aload_n 0, 1) := by decide +kernel
theorem dX8_init_69 : decode cX8_init 69 = .ok (.bipush 41, 2) := by decide +kernel
theorem dX8_init_71 : decode cX8_init 71 = .ok (.newarray .int, 2) := by decide +kernel
theorem dX8_init_73 : decode cX8_init 73 = .ok (.putfield 36, 3) := by decide +kernel
theorem dX8_init_76 : decode cX8_init 76 = .ok (.aload_n 0, 1) := by decide +kernel
theorem dX8_init_77 : decode cX8_init 77 = .ok (.bipush 41, 2) := by decide +kernel
theorem dX8_init_79 : decode cX8_init 79 = .ok (.newarray .int, 2) := by decide +kernel
theorem dX8_init_81 : decode cX8_init 81 = .ok (.putfield 39, 3) := by decide +kernel
theorem dX8_init_84 : decode cX8_init 84 = .ok (.aload_n 0, 1) := by decide +kernel
theorem dX8_init_85 : decode cX8_init 85 = .ok (.sipush 2091, 3) := by decide +kernel
theorem dX8_init_88 : decode cX8_init 88 = .ok (.newarray .int, 2) := by decide +kernel
theorem dX8_init_90 : decode cX8_init 90 = .ok (.putfield 42, 3) := by decide +kernel
theorem dX8_init_93 : decode cX8_init 93 = .ok (.aload_n 0, 1) := by decide +kernel
theorem dX8_init_94 : decode cX8_init 94 = .ok (.bipush 51, 2) := by decide +kernel
theorem dX8_init_96 : decode cX8_init 96 = .ok (.newarray .int, 2) := by decide +kernel
theorem dX8_init_98 : decode cX8_init 98 = .ok (.putfield 45, 3) := by decide +kernel
theorem dX8_init_101 : decode cX8_init 101 = .ok (.aload_n 0, 1) := by decide +kernel
theorem dX8_init_102 : decode cX8_init 102 = .ok (.bipush 31, 2) := by decide +kernel
theorem dX8_init_104 : decode cX8_init 104 = .ok (.newarray .long, 2) := by decide +kernel
theorem dX8_init_106 : decode cX8_init 106 = .ok (.putfield 48, 3) := by decide +kernel
theorem dX8_init_109 : decode cX8_init 109 = .ok (.aload_n 0, 1) := by decide +kernel
theorem dX8_init_110 : decode cX8_init 110 = .ok (.sipush 961, 3) := by decide +kernel
theorem dX8_init_113 : decode cX8_init 113 = .ok (.newarray .boolean, 2) := by decide +kernel
theorem dX8_init_115 : decode cX8_init 115 = .ok (.putfield 52, 3) := by decide +kernel
theorem dX8_init_118 : decode cX8_init 118 = .ok (.aload_n 0, 1) := by decide +kernel
theorem dX8_init_119 : decode cX8_init 119 = .ok (.bipush 31, 2) := by decide +kernel
theorem dX8_init_121 : decode cX8_init 121 = .ok (.newarray .long, 2) := by decide +kernel
theorem dX8_init_123 : decode cX8_init 123 = .ok (.putfield 56, 3) := by decide +kernel
theorem dX8_init_126 : decode cX8_init 126 = .ok (.aload_n 0, 1) := by decide +kernel
theorem dX8_init_127 : decode cX8_init 127 = .ok (.bipush 21, 2) := by decide +kernel
theorem dX8_init_129 : decode cX8_init 129 = .ok (.newarray .int, 2) := by decide +kernel
theorem dX8_init_131 : decode cX8_init 131 = .ok (.putfield 59, 3) := by decide +kernel
theorem dX8_init_134 : decode cX8_init 134 = .ok (.aload_n 0, 1) := by decide +kernel
theorem dX8_init_135 : decode cX8_init 135 = .ok (.sipush 1344, 3) := by decide +kernel
theorem dX8_init_138 : decode cX8_init 138 = .ok (.newarray .byte, 2) := by decide +kernel
theorem dX8_init_140 : decode cX8_init 140 = .ok (.putfield 62, 3) := by decide +kernel
theorem dX8_init_143 : decode cX8_init 143 = .ok (.aload_n 0, 1) := by decide +kernel
theorem dX8_init_144 : decode cX8_init 144 = .ok (.bipush 42, 2) := by decide +kernel
theorem dX8_init_146 : decode cX8_init 146 = .ok (.newarray .int, 2) := by decide +kernel
theorem dX8_init_148 : decode cX8_init 148 = .ok (.putfield 65, 3) := by decide +kernel
theorem dX8_init_151 : decode cX8_init 151 = .ok (.aload_n 0, 1) := by decide +kernel
theorem dX8_init_152 : decode cX8_init 152 = .ok (.lload_n 1, 1) := by decide +kernel
theorem dX8_init_153 : decode cX8_init 153 = .ok (.lconst 1, 1) := by decide +kernel
theorem dX8_init_154 : decode cX8_init 154 = .ok (.lcmp, 1) := by decide +kernel
theorem dX8_init_155 : decode cX8_init 155 = .ok (.ifCond .lt 16, 3) := by decide +kernel
theorem dX8_init_158 : decode cX8_init 158 = .ok (.lload_n 1, 1) := by decide +kernel
theorem dX8_init_159 : decode cX8_init 159 = .ok (.ldc2_w 68, 3) := by decide +kernel
theorem dX8_init_162 : decode cX8_init 162 = .ok (.lcmp, 1) := by decide +kernel
theorem dX8_init_163 : decode cX8_init 163 = .ok (.ifCond .gt 8, 3) := by decide +kernel
theorem dX8_init_166 : decode cX8_init 166 = .ok (.lload_n 1, 1) := by decide +kernel
theorem dX8_init_167 : decode cX8_init 167 = .ok (.l2i, 1) := by decide +kernel
theorem dX8_init_168 : decode cX8_init 168 = .ok (.goto 6, 3) := by decide +kernel
theorem dX8_init_171 : decode cX8_init 171 = .ok (.sipush 4096, 3) := by decide +kernel
theorem dX8_init_174 : decode cX8_init 174 = .ok (.putfield 70, 3) := by decide +kernel
theorem dX8_init_177 : decode cX8_init 177 = .ok (.iconst 0, 1) := by decide +kernel
theorem dX8_init_178 : decode cX8_init 178 = .ok (.istore_n 3, 1) := by decide +kernel
theorem dX8_init_179 : decode cX8_init 179 = .ok (.iload_n 3, 1) := by decide +kernel
theorem dX8_init_180 : decode cX8_init 180 = .ok (.ldc 28, 2) := by decide +kernel
theorem dX8_init_182 : decode cX8_init 182 = .ok (.if_icmp .ge 16, 3) := by decide +kernel
theorem dX8_init_185 : decode cX8_init 185 = .ok (.aload_n 0, 1) := by decide +kernel
theorem dX8_init_186 : decode cX8_init 186 = .ok (.getfield 33, 3) := by decide +kernel
theorem dX8_init_189 : decode cX8_init 189 = .ok (.iload_n 3, 1) := by decide +kernel
theorem dX8_init_190 : decode cX8_init 190 = .ok (.iconst (-1), 1) := by decide +kernel
theorem dX8_init_191 : decode cX8_init 191 = .ok (.bastore, 1) := by decide +kernel
theorem dX8_init_192 : decode cX8_init 192 = .ok (.iinc 3 1, 3) := by decide +kernel
theorem dX8_init_195 : decode cX8_init 195 = .ok (.goto (-16), 3) := by decide +kernel
theorem dX8_init_198 : decode cX8_init 198 = .ok (.return_, 1) := by decide +kernel
theorem dX8_thrown_0 : decode cX8_thrown 0 = .ok (.aload_n 0, 1) := by decide +kernel
theorem dX8_thrown_1 : decode cX8_thrown 1 = .ok (.getfield 74, 3) := by decide +kernel
theorem dX8_thrown_4 : decode cX8_thrown 4 = .ok (.ireturn, 1) := by decide +kernel
theorem dX8_region_0 : decode cX8_region 0 = .ok (.aload_n 0, 1) := by decide +kernel
theorem dX8_region_1 : decode cX8_region 1 = .ok (.iconst 0, 1) := by decide +kernel
theorem dX8_region_2 : decode cX8_region 2 = .ok (.putfield 74, 3) := by decide +kernel
theorem dX8_region_5 : decode cX8_region 5 = .ok (.lload_n 3, 1) := by decide +kernel
theorem dX8_region_6 : decode cX8_region 6 = .ok (.lconst 1, 1) := by decide +kernel
theorem dX8_region_7 : decode cX8_region 7 = .ok (.lcmp, 1) := by decide +kernel
theorem dX8_region_8 : decode cX8_region 8 = .ok (.ifCond .lt 43, 3) := by decide +kernel
theorem dX8_region_11 : decode cX8_region 11 = .ok (.lload_n 3, 1) := by decide +kernel
theorem dX8_region_12 : decode cX8_region 12 = .ok (.aload_n 0, 1) := by decide +kernel
theorem dX8_region_13 : decode cX8_region 13 = .ok (.getfield 70, 3) := by decide +kernel
theorem dX8_region_16 : decode cX8_region 16 = .ok (.i2l, 1) := by decide +kernel
theorem dX8_region_17 : decode cX8_region 17 = .ok (.lcmp, 1) := by decide +kernel
theorem dX8_region_18 : decode cX8_region 18 = .ok (.ifCond .gt 33, 3) := by decide +kernel
theorem dX8_region_21 : decode cX8_region 21 = .ok (.lload_n 1, 1) := by decide +kernel
theorem dX8_region_22 : decode cX8_region 22 = .ok (.lconst 0, 1) := by decide +kernel
theorem dX8_region_23 : decode cX8_region 23 = .ok (.lcmp, 1) := by decide +kernel
theorem dX8_region_24 : decode cX8_region 24 = .ok (.ifCond .lt 27, 3) := by decide +kernel
theorem dX8_region_27 : decode cX8_region 27 = .ok (.lload_n 1, 1) := by decide +kernel
theorem dX8_region_28 : decode cX8_region 28 = .ok (.aload_n 0, 1) := by decide +kernel
theorem dX8_region_29 : decode cX8_region 29 = .ok (.getfield 70, 3) := by decide +kernel
theorem dX8_region_32 : decode cX8_region 32 = .ok (.i2l, 1) := by decide +kernel
theorem dX8_region_33 : decode cX8_region 33 = .ok (.lload_n 3, 1) := by decide +kernel
theorem dX8_region_34 : decode cX8_region 34 = .ok (.lsub, 1) := by decide +kernel
theorem dX8_region_35 : decode cX8_region 35 = .ok (.lcmp, 1) := by decide +kernel
theorem dX8_region_36 : decode cX8_region 36 = .ok (.ifCond .gt 15, 3) := by decide +kernel
theorem dX8_region_39 : decode cX8_region 39 = .ok (.iload 5, 2) := by decide +kernel
theorem dX8_region_41 : decode cX8_region 41 = .ok (.ifCond .lt 10, 3) := by decide +kernel
theorem dX8_region_44 : decode cX8_region 44 = .ok (.iload 5, 2) := by decide +kernel
theorem dX8_region_46 : decode cX8_region 46 = .ok (.bipush 7, 2) := by decide +kernel
theorem dX8_region_48 : decode cX8_region 48 = .ok (.if_icmp .le 6, 3) := by decide +kernel
theorem dX8_region_51 : decode cX8_region 51 = .ok (.bipush (-2), 2) := by decide +kernel
theorem dX8_region_53 : decode cX8_region 53 = .ok (.ireturn, 1) := by decide +kernel
theorem dX8_region_54 : decode cX8_region 54 = .ok (.iconst 1, 1) := by decide +kernel
theorem dX8_region_55 : decode cX8_region 55 = .ok (.istore 6, 2) := by decide +kernel
theorem dX8_region_57 : decode cX8_region 57 = .ok (.iload 6, 2) := by decide +kernel
theorem dX8_region_59 : decode cX8_region 59 = .ok (.aload_n 0, 1) := by decide +kernel
theorem dX8_region_60 : decode cX8_region 60 = .ok (.getfield 77, 3) := by decide +kernel
theorem dX8_region_63 : decode cX8_region 63 = .ok (.if_icmp .gt 40, 3) := by decide +kernel
theorem dX8_region_66 : decode cX8_region 66 = .ok (.lload_n 1, 1) := by decide +kernel
theorem dX8_region_67 : decode cX8_region 67 = .ok (.aload_n 0, 1) := by decide +kernel
theorem dX8_region_68 : decode cX8_region 68 = .ok (.getfield 13, 3) := by decide +kernel
theorem dX8_region_71 : decode cX8_region 71 = .ok (.iload 6, 2) := by decide +kernel
theorem dX8_region_73 : decode cX8_region 73 = .ok (.iaload, 1) := by decide +kernel
theorem dX8_region_74 : decode cX8_region 74 = .ok (.i2l, 1) := by decide +kernel
theorem dX8_region_75 : decode cX8_region 75 = .ok (.lcmp, 1) := by decide +kernel
theorem dX8_region_76 : decode cX8_region 76 = .ok (.ifCond .ge 21, 3) := by decide +kernel
theorem dX8_region_79 : decode cX8_region 79 = .ok (.lload_n 1, 1) := by decide +kernel
theorem dX8_region_80 : decode cX8_region 80 = .ok (.lload_n 3, 1) := by decide +kernel
theorem dX8_region_81 : decode cX8_region 81 = .ok (.ladd, 1) := by decide +kernel
theorem dX8_region_82 : decode cX8_region 82 = .ok (.aload_n 0, 1) := by decide +kernel
theorem dX8_region_83 : decode cX8_region 83 = .ok (.getfield 7, 3) := by decide +kernel
theorem dX8_region_86 : decode cX8_region 86 = .ok (.iload 6, 2) := by decide +kernel
theorem dX8_region_88 : decode cX8_region 88 = .ok (.iaload, 1) := by decide +kernel
theorem dX8_region_89 : decode cX8_region 89 = .ok (.i2l, 1) := by decide +kernel
theorem dX8_region_90 : decode cX8_region 90 = .ok (.lcmp, 1) := by decide +kernel
theorem dX8_region_91 : decode cX8_region 91 = .ok (.ifCond .le 6, 3) := by decide +kernel
theorem dX8_region_94 : decode cX8_region 94 = .ok (.bipush (-3), 2) := by decide +kernel
theorem dX8_region_96 : decode cX8_region 96 = .ok (.ireturn, 1) := by decide +kernel
theorem dX8_region_97 : decode cX8_region 97 = .ok (.iinc 6 1, 3) := by decide +kernel
theorem dX8_region_100 : decode cX8_region 100 = .ok (.goto (-43), 3) := by decide +kernel
theorem dX8_region_103 : decode cX8_region 103 = .ok (.aload_n 0, 1) := by decide +kernel
theorem dX8_region_104 : decode cX8_region 104 = .ok (.getfield 77, 3) := by decide +kernel
theorem dX8_region_107 : decode cX8_region 107 = .ok (.bipush 16, 2) := by decide +kernel
theorem dX8_region_109 : decode cX8_region 109 = .ok (.if_icmp .ne 6, 3) := by decide +kernel
theorem dX8_region_112 : decode cX8_region 112 = .ok (.bipush (-4), 2) := by decide +kernel
theorem dX8_region_114 : decode cX8_region 114 = .ok (.ireturn, 1) := by decide +kernel
theorem dX8_region_115 : decode cX8_region 115 = .ok (.aload_n 0, 1) := by decide +kernel
theorem dX8_region_116 : decode cX8_region 116 = .ok (.dup, 1) := by decide +kernel
theorem dX8_region_117 : decode cX8_region 117 = .ok (.getfield 77, 3) := by decide +kernel
theorem dX8_region_120 : decode cX8_region 120 = .ok (.iconst 1, 1) := by decide +kernel
theorem dX8_region_121 : decode cX8_region 121 = .ok (.iadd, 1) := by decide +kernel
theorem dX8_region_122 : decode cX8_region 122 = .ok (.putfield 77, 3) := by decide +kernel
theorem dX8_region_125 : decode cX8_region 125 = .ok (.aload_n 0, 1) := by decide +kernel
theorem dX8_region_126 : decode cX8_region 126 = .ok (.getfield 7, 3) := by decide +kernel
theorem dX8_region_129 : decode cX8_region 129 = .ok (.aload_n 0, 1) := by decide +kernel
theorem dX8_region_130 : decode cX8_region 130 = .ok (.getfield 77, 3) := by decide +kernel
theorem dX8_region_133 : decode cX8_region 133 = .ok (.lload_n 1, 1) := by decide +kernel
theorem dX8_region_134 : decode cX8_region 134 = .ok (.l2i, 1) := by decide +kernel
theorem dX8_region_135 : decode cX8_region 135 = .ok (.iastore, 1) := by decide +kernel
theorem dX8_region_136 : decode cX8_region 136 = .ok (.aload_n 0, 1) := by decide +kernel
theorem dX8_region_137 : decode cX8_region 137 = .ok (.getfield 13, 3) := by decide +kernel
theorem dX8_region_140 : decode cX8_region 140 = .ok (.aload_n 0, 1) := by decide +kernel
theorem dX8_region_141 : decode cX8_region 141 = .ok (.getfield 77, 3) := by decide +kernel
theorem dX8_region_144 : decode cX8_region 144 = .ok (.lload_n 1, 1) := by decide +kernel
theorem dX8_region_145 : decode cX8_region 145 = .ok (.lload_n 3, 1) := by decide +kernel
theorem dX8_region_146 : decode cX8_region 146 = .ok (.ladd, 1) := by decide +kernel
theorem dX8_region_147 : decode cX8_region 147 = .ok (.l2i, 1) := by decide +kernel
theorem dX8_region_148 : decode cX8_region 148 = .ok (.iastore, 1) := by decide +kernel
theorem dX8_region_149 : decode cX8_region 149 = .ok (.aload_n 0, 1) := by decide +kernel
theorem dX8_region_150 : decode cX8_region 150 = .ok (.getfield 16, 3) := by decide +kernel
theorem dX8_region_153 : decode cX8_region 153 = .ok (.aload_n 0, 1) := by decide +kernel
theorem dX8_region_154 : decode cX8_region 154 = .ok (.getfield 77, 3) := by decide +kernel
theorem dX8_region_157 : decode cX8_region 157 = .ok (.iload 5, 2) := by decide +kernel
theorem dX8_region_159 : decode cX8_region 159 = .ok (.iastore, 1) := by decide +kernel
theorem dX8_region_160 : decode cX8_region 160 = .ok (.aload_n 0, 1) := by decide +kernel
theorem dX8_region_161 : decode cX8_region 161 = .ok (.getfield 77, 3) := by decide +kernel
theorem dX8_region_164 : decode cX8_region 164 = .ok (.ireturn, 1) := by decide +kernel
theorem dX8_section_0 : decode cX8_section 0 = .ok (.aload_n 0, 1) := by decide +kernel
theorem dX8_section_1 : decode cX8_section 1 = .ok (.iconst 0, 1) := by decide +kernel
theorem dX8_section_2 : decode cX8_section 2 = .ok (.putfield 74, 3) := by decide +kernel
theorem dX8_section_5 : decode cX8_section 5 = .ok (.lload_n 1, 1) := by decide +kernel
theorem dX8_section_6 : decode cX8_section 6 = .ok (.lconst 0, 1) := by decide +kernel
theorem dX8_section_7 : decode cX8_section 7 = .ok (.lcmp, 1) := by decide +kernel
theorem dX8_section_8 : decode cX8_section 8 = .ok (.ifCond .lt 37, 3) := by decide +kernel
theorem dX8_section_11 : decode cX8_section 11 = .ok (.lload_n 1, 1) := by decide +kernel
theorem dX8_section_12 : decode cX8_section 12 = .ok (.ldc2_w 68, 3) := by decide +kernel
theorem dX8_section_15 : decode cX8_section 15 = .ok (.lcmp, 1) := by decide +kernel
theorem dX8_section_16 : decode cX8_section 16 = .ok (.ifCond .gt 29, 3) := by decide +kernel
theorem dX8_section_19 : decode cX8_section 19 = .ok (.lload_n 3, 1) := by decide +kernel
theorem dX8_section_20 : decode cX8_section 20 = .ok (.lconst 0, 1) := by decide +kernel
theorem dX8_section_21 : decode cX8_section 21 = .ok (.lcmp, 1) := by decide +kernel
theorem dX8_section_22 : decode cX8_section 22 = .ok (.ifCond .lt 23, 3) := by decide +kernel
theorem dX8_section_25 : decode cX8_section 25 = .ok (.lload_n 3, 1) := by decide +kernel
theorem dX8_section_26 : decode cX8_section 26 = .ok (.ldc2_w 68, 3) := by decide +kernel
theorem dX8_section_29 : decode cX8_section 29 = .ok (.lcmp, 1) := by decide +kernel
theorem dX8_section_30 : decode cX8_section 30 = .ok (.ifCond .gt 15, 3) := by decide +kernel
theorem dX8_section_33 : decode cX8_section 33 = .ok (.iload 5, 2) := by decide +kernel
theorem dX8_section_35 : decode cX8_section 35 = .ok (.ifCond .lt 10, 3) := by decide +kernel
theorem dX8_section_38 : decode cX8_section 38 = .ok (.iload 5, 2) := by decide +kernel
theorem dX8_section_40 : decode cX8_section 40 = .ok (.bipush 7, 2) := by decide +kernel
theorem dX8_section_42 : decode cX8_section 42 = .ok (.if_icmp .le 6, 3) := by decide +kernel
theorem dX8_section_45 : decode cX8_section 45 = .ok (.bipush (-2), 2) := by decide +kernel
theorem dX8_section_47 : decode cX8_section 47 = .ok (.ireturn, 1) := by decide +kernel
theorem dX8_section_48 : decode cX8_section 48 = .ok (.aload_n 0, 1) := by decide +kernel
theorem dX8_section_49 : decode cX8_section 49 = .ok (.getfield 80, 3) := by decide +kernel
theorem dX8_section_52 : decode cX8_section 52 = .ok (.bipush 40, 2) := by decide +kernel
theorem dX8_section_54 : decode cX8_section 54 = .ok (.if_icmp .ne 6, 3) := by decide +kernel
theorem dX8_section_57 : decode cX8_section 57 = .ok (.bipush (-4), 2) := by decide +kernel
theorem dX8_section_59 : decode cX8_section 59 = .ok (.ireturn, 1) := by decide +kernel
theorem dX8_section_60 : decode cX8_section 60 = .ok (.lload_n 3, 1) := by decide +kernel
theorem dX8_section_61 : decode cX8_section 61 = .ok (.lconst 0, 1) := by decide +kernel
theorem dX8_section_62 : decode cX8_section 62 = .ok (.lcmp, 1) := by decide +kernel
theorem dX8_section_63 : decode cX8_section 63 = .ok (.ifCond .ne 10, 3) := by decide +kernel
theorem dX8_section_66 : decode cX8_section 66 = .ok (.aload_n 0, 1) := by decide +kernel
theorem dX8_section_67 : decode cX8_section 67 = .ok (.iconst 1, 1) := by decide +kernel
theorem dX8_section_68 : decode cX8_section 68 = .ok (.putfield 74, 3) := by decide +kernel
theorem dX8_section_71 : decode cX8_section 71 = .ok (.iconst 0, 1) := by decide +kernel
theorem dX8_section_72 : decode cX8_section 72 = .ok (.ireturn, 1) := by decide +kernel
theorem dX8_section_73 : decode cX8_section 73 = .ok (.aload_n 0, 1) := by decide +kernel
theorem dX8_section_74 : decode cX8_section 74 = .ok (.dup, 1) := by decide +kernel
theorem dX8_section_75 : decode cX8_section 75 = .ok (.getfield 80, 3) := by decide +kernel
theorem dX8_section_78 : decode cX8_section 78 = .ok (.iconst 1, 1) := by decide +kernel
theorem dX8_section_79 : decode cX8_section 79 = .ok (.iadd, 1) := by decide +kernel
theorem dX8_section_80 : decode cX8_section 80 = .ok (.putfield 80, 3) := by decide +kernel
theorem dX8_section_83 : decode cX8_section 83 = .ok (.aload_n 0, 1) := by decide +kernel
theorem dX8_section_84 : decode cX8_section 84 = .ok (.getfield 19, 3) := by decide +kernel
theorem dX8_section_87 : decode cX8_section 87 = .ok (.aload_n 0, 1) := by decide +kernel
theorem dX8_section_88 : decode cX8_section 88 = .ok (.getfield 80, 3) := by decide +kernel
theorem dX8_section_91 : decode cX8_section 91 = .ok (.lload_n 1, 1) := by decide +kernel
theorem dX8_section_92 : decode cX8_section 92 = .ok (.l2i, 1) := by decide +kernel
theorem dX8_section_93 : decode cX8_section 93 = .ok (.iastore, 1) := by decide +kernel
theorem dX8_section_94 : decode cX8_section 94 = .ok (.aload_n 0, 1) := by decide +kernel
theorem dX8_section_95 : decode cX8_section 95 = .ok (.getfield 22, 3) := by decide +kernel
theorem dX8_section_98 : decode cX8_section 98 = .ok (.aload_n 0, 1) := by decide +kernel
theorem dX8_section_99 : decode cX8_section 99 = .ok (.getfield 80, 3) := by decide +kernel
theorem dX8_section_102 : decode cX8_section 102 = .ok (.lload_n 3, 1) := by decide +kernel
theorem dX8_section_103 : decode cX8_section 103 = .ok (.l2i, 1) := by decide +kernel
theorem dX8_section_104 : decode cX8_section 104 = .ok (.iastore, 1) := by decide +kernel
theorem dX8_section_105 : decode cX8_section 105 = .ok (.aload_n 0, 1) := by decide +kernel
theorem dX8_section_106 : decode cX8_section 106 = .ok (.getfield 25, 3) := by decide +kernel
theorem dX8_section_109 : decode cX8_section 109 = .ok (.aload_n 0, 1) := by decide +kernel
theorem dX8_section_110 : decode cX8_section 110 = .ok (.getfield 80, 3) := by decide +kernel
theorem dX8_section_113 : decode cX8_section 113 = .ok (.iload 5, 2) := by decide +kernel
theorem dX8_section_115 : decode cX8_section 115 = .ok (.iastore, 1) := by decide +kernel
theorem dX8_section_116 : decode cX8_section 116 = .ok (.aload_n 0, 1) := by decide +kernel
theorem dX8_section_117 : decode cX8_section 117 = .ok (.getfield 80, 3) := by decide +kernel
theorem dX8_section_120 : decode cX8_section 120 = .ok (.ireturn, 1) := by decide +kernel
theorem dX8_isBefore_0 : decode cX8_isBefore 0 = .ok (.aload_n 0, 1) := by decide +kernel
theorem dX8_isBefore_1 : decode cX8_isBefore 1 = .ok (.getfield 19, 3) := by decide +kernel
theorem dX8_isBefore_4 : decode cX8_isBefore 4 = .ok (.iload_n 1, 1) := by decide +kernel
theorem dX8_isBefore_5 : decode cX8_isBefore 5 = .ok (.iaload, 1) := by decide +kernel
theorem dX8_isBefore_6 : decode cX8_isBefore 6 = .ok (.aload_n 0, 1) := by decide +kernel
theorem dX8_isBefore_7 : decode cX8_isBefore 7 = .ok (.getfield 19, 3) := by decide +kernel
theorem dX8_isBefore_10 : decode cX8_isBefore 10 = .ok (.iload_n 2, 1) := by decide +kernel
theorem dX8_isBefore_11 : decode cX8_isBefore 11 = .ok (.iaload, 1) := by decide +kernel
theorem dX8_isBefore_12 : decode cX8_isBefore 12 = .ok (.if_icmp .gt 23, 3) := by decide +kernel
theorem dX8_isBefore_15 : decode cX8_isBefore 15 = .ok (.aload_n 0, 1) := by decide +kernel
theorem dX8_isBefore_16 : decode cX8_isBefore 16 = .ok (.getfield 19, 3) := by decide +kernel
theorem dX8_isBefore_19 : decode cX8_isBefore 19 = .ok (.iload_n 1, 1) := by decide +kernel
theorem dX8_isBefore_20 : decode cX8_isBefore 20 = .ok (.iaload, 1) := by decide +kernel
theorem dX8_isBefore_21 : decode cX8_isBefore 21 = .ok (.aload_n 0, 1) := by decide +kernel
theorem dX8_isBefore_22 : decode cX8_isBefore 22 = .ok (.getfield 19, 3) := by decide +kernel
theorem dX8_isBefore_25 : decode cX8_isBefore 25 = .ok (.iload_n 2, 1) := by decide +kernel
theorem dX8_isBefore_26 : decode cX8_isBefore 26 = .ok (.iaload, 1) := by decide +kernel
theorem dX8_isBefore_27 : decode cX8_isBefore 27 = .ok (.if_icmp .ne 12, 3) := by decide +kernel
theorem dX8_isBefore_30 : decode cX8_isBefore 30 = .ok (.iload_n 1, 1) := by decide +kernel
theorem dX8_isBefore_31 : decode cX8_isBefore 31 = .ok (.iload_n 2, 1) := by decide +kernel
theorem dX8_isBefore_32 : decode cX8_isBefore 32 = .ok (.if_icmp .ge 7, 3) := by decide +kernel
theorem dX8_isBefore_35 : decode cX8_isBefore 35 = .ok (.iconst 1, 1) := by decide +kernel
theorem dX8_isBefore_36 : decode cX8_isBefore 36 = .ok (.goto 4, 3) := by decide +kernel
theorem dX8_isBefore_39 : decode cX8_isBefore 39 = .ok (.iconst 0, 1) := by decide +kernel
theorem dX8_isBefore_40 : decode cX8_isBefore 40 = .ok (.ireturn, 1) := by decide +kernel
set_option maxRecDepth 20000 in
theorem ggX8_next_X8_isBefore : GoodIn wsX8_next wsX8_isBefore := goodIn_r _ [6, 7, 8, 9, 10, 11, 12, 13, 14, 15, 16, 17, 18, 19, 20, 21, 22, 23, 24, 25, 26, 27, 28, 29, 30, 31, 32] (by decide +kernel) (by decide +kernel)
set_option maxRecDepth 20000 in
theorem gX8_next_X8_isBefore : GoodIn wsX8_next (wsV RX8 83 RX8 yX8_isBefore wsX8_isBefore) := goodIn_app (goodIn_of _ (by decide +kernel)) ggX8_next_X8_isBefore
theorem dX8_next_0 : decode cX8_next 0 = .ok (.iconst 0, 1) := by decide +kernel
theorem dX8_next_1 : decode cX8_next 1 = .ok (.istore_n 2, 1) := by decide +kernel
theorem dX8_next_2 : decode cX8_next 2 = .ok (.iconst 1, 1) := by decide +kernel
theorem dX8_next_3 : decode cX8_next 3 = .ok (.istore_n 3, 1) := by decide +kernel
theorem dX8_next_4 : decode cX8_next 4 = .ok (.iload_n 3, 1) := by decide +kernel
theorem dX8_next_5 : decode cX8_next 5 = .ok (.aload_n 0, 1) := by decide +kernel
theorem dX8_next_6 : decode cX8_next 6 = .ok (.getfield 80, 3) := by decide +kernel
theorem dX8_next_9 : decode cX8_next 9 = .ok (.if_icmp .gt 37, 3) := by decide +kernel
theorem dX8_next_12 : decode cX8_next 12 = .ok (.iload_n 1, 1) := by decide +kernel
theorem dX8_next_13 : decode cX8_next 13 = .ok (.ifCond .eq 12, 3) := by decide +kernel
theorem dX8_next_16 : decode cX8_next 16 = .ok (.aload_n 0, 1) := by decide +kernel
theorem dX8_next_17 : decode cX8_next 17 = .ok (.iload_n 1, 1) := by decide +kernel
theorem dX8_next_18 : decode cX8_next 18 = .ok (.iload_n 3, 1) := by decide +kernel
theorem dX8_next_19 : decode cX8_next 19 = .ok (.invokevirtual 83, 3) := by decide +kernel
theorem dX8_next_22 : decode cX8_next 22 = .ok (.ifCond .eq 18, 3) := by decide +kernel
theorem dX8_next_25 : decode cX8_next 25 = .ok (.iload_n 2, 1) := by decide +kernel
theorem dX8_next_26 : decode cX8_next 26 = .ok (.ifCond .eq 12, 3) := by decide +kernel
theorem dX8_next_29 : decode cX8_next 29 = .ok (.aload_n 0, 1) := by decide +kernel
theorem dX8_next_30 : decode cX8_next 30 = .ok (.iload_n 3, 1) := by decide +kernel
theorem dX8_next_31 : decode cX8_next 31 = .ok (.iload_n 2, 1) := by decide +kernel
theorem dX8_next_32 : decode cX8_next 32 = .ok (.invokevirtual 83, 3) := by decide +kernel
theorem dX8_next_35 : decode cX8_next 35 = .ok (.ifCond .eq 5, 3) := by decide +kernel
theorem dX8_next_38 : decode cX8_next 38 = .ok (.iload_n 3, 1) := by decide +kernel
theorem dX8_next_39 : decode cX8_next 39 = .ok (.istore_n 2, 1) := by decide +kernel
theorem dX8_next_40 : decode cX8_next 40 = .ok (.iinc 3 1, 3) := by decide +kernel
theorem dX8_next_43 : decode cX8_next 43 = .ok (.goto (-39), 3) := by decide +kernel
theorem dX8_next_46 : decode cX8_next 46 = .ok (.iload_n 2, 1) := by decide +kernel
theorem dX8_next_47 : decode cX8_next 47 = .ok (.ireturn, 1) := by decide +kernel
theorem dX8_up_0 : decode cX8_up 0 = .ok (.iload_n 0, 1) := by decide +kernel
theorem dX8_up_1 : decode cX8_up 1 = .ok (.iload_n 1, 1) := by decide +kernel
theorem dX8_up_2 : decode cX8_up 2 = .ok (.iadd, 1) := by decide +kernel
theorem dX8_up_3 : decode cX8_up 3 = .ok (.iconst 1, 1) := by decide +kernel
theorem dX8_up_4 : decode cX8_up 4 = .ok (.isub, 1) := by decide +kernel
theorem dX8_up_5 : decode cX8_up 5 = .ok (.iload_n 1, 1) := by decide +kernel
theorem dX8_up_6 : decode cX8_up 6 = .ok (.idiv, 1) := by decide +kernel
theorem dX8_up_7 : decode cX8_up 7 = .ok (.iload_n 1, 1) := by decide +kernel
theorem dX8_up_8 : decode cX8_up 8 = .ok (.imul, 1) := by decide +kernel
theorem dX8_up_9 : decode cX8_up 9 = .ok (.ireturn, 1) := by decide +kernel
set_option maxRecDepth 20000 in
theorem ggX8_find_X8_up : GoodIn wsX8_find wsX8_up := goodIn_r _ [9] (by decide +kernel) (by decide +kernel)
set_option maxRecDepth 20000 in
theorem gX8_find_X8_up : GoodIn wsX8_find (va_wsS RX8 87 yX8_up wsX8_up) := goodIn_app (goodIn_of _ (by decide +kernel)) ggX8_find_X8_up
theorem dX8_find_0 : decode cX8_find 0 = .ok (.aload_n 0, 1) := by decide +kernel
theorem dX8_find_1 : decode cX8_find 1 = .ok (.getfield 7, 3) := by decide +kernel
theorem dX8_find_4 : decode cX8_find 4 = .ok (.iload_n 2, 1) := by decide +kernel
theorem dX8_find_5 : decode cX8_find 5 = .ok (.iaload, 1) := by decide +kernel
theorem dX8_find_6 : decode cX8_find 6 = .ok (.aload_n 0, 1) := by decide +kernel
theorem dX8_find_7 : decode cX8_find 7 = .ok (.getfield 22, 3) := by decide +kernel
theorem dX8_find_10 : decode cX8_find 10 = .ok (.iload_n 1, 1) := by decide +kernel
theorem dX8_find_11 : decode cX8_find 11 = .ok (.iaload, 1) := by decide +kernel
theorem dX8_find_12 : decode cX8_find 12 = .ok (.invokestatic 87, 3) := by decide +kernel
theorem dX8_find_15 : decode cX8_find 15 = .ok (.istore_n 3, 1) := by decide +kernel
theorem dX8_find_16 : decode cX8_find 16 = .ok (.iload_n 3, 1) := by decide +kernel
theorem dX8_find_17 : decode cX8_find 17 = .ok (.aload_n 0, 1) := by decide +kernel
theorem dX8_find_18 : decode cX8_find 18 = .ok (.getfield 19, 3) := by decide +kernel
theorem dX8_find_21 : decode cX8_find 21 = .ok (.iload_n 1, 1) := by decide +kernel
theorem dX8_find_22 : decode cX8_find 22 = .ok (.iaload, 1) := by decide +kernel
theorem dX8_find_23 : decode cX8_find 23 = .ok (.iadd, 1) := by decide +kernel
theorem dX8_find_24 : decode cX8_find 24 = .ok (.aload_n 0, 1) := by decide +kernel
theorem dX8_find_25 : decode cX8_find 25 = .ok (.getfield 13, 3) := by decide +kernel
theorem dX8_find_28 : decode cX8_find 28 = .ok (.iload_n 2, 1) := by decide +kernel
theorem dX8_find_29 : decode cX8_find 29 = .ok (.iaload, 1) := by decide +kernel
theorem dX8_find_30 : decode cX8_find 30 = .ok (.if_icmp .gt 67, 3) := by decide +kernel
theorem dX8_find_33 : decode cX8_find 33 = .ok (.iload_n 3, 1) := by decide +kernel
theorem dX8_find_34 : decode cX8_find 34 = .ok (.istore 4, 2) := by decide +kernel
theorem dX8_find_36 : decode cX8_find 36 = .ok (.iload 4, 2) := by decide +kernel
theorem dX8_find_38 : decode cX8_find 38 = .ok (.iload_n 3, 1) := by decide +kernel
theorem dX8_find_39 : decode cX8_find 39 = .ok (.aload_n 0, 1) := by decide +kernel
theorem dX8_find_40 : decode cX8_find 40 = .ok (.getfield 19, 3) := by decide +kernel
theorem dX8_find_43 : decode cX8_find 43 = .ok (.iload_n 1, 1) := by decide +kernel
theorem dX8_find_44 : decode cX8_find 44 = .ok (.iaload, 1) := by decide +kernel
theorem dX8_find_45 : decode cX8_find 45 = .ok (.iadd, 1) := by decide +kernel
theorem dX8_find_46 : decode cX8_find 46 = .ok (.if_icmp .ge 19, 3) := by decide +kernel
theorem dX8_find_49 : decode cX8_find 49 = .ok (.aload_n 0, 1) := by decide +kernel
theorem dX8_find_50 : decode cX8_find 50 = .ok (.getfield 29, 3) := by decide +kernel
theorem dX8_find_53 : decode cX8_find 53 = .ok (.iload 4, 2) := by decide +kernel
theorem dX8_find_55 : decode cX8_find 55 = .ok (.baload, 1) := by decide +kernel
theorem dX8_find_56 : decode cX8_find 56 = .ok (.ifCond .ne 9, 3) := by decide +kernel
theorem dX8_find_59 : decode cX8_find 59 = .ok (.iinc 4 1, 3) := by decide +kernel
theorem dX8_find_62 : decode cX8_find 62 = .ok (.goto (-26), 3) := by decide +kernel
theorem dX8_find_65 : decode cX8_find 65 = .ok (.iload 4, 2) := by decide +kernel
theorem dX8_find_67 : decode cX8_find 67 = .ok (.iload_n 3, 1) := by decide +kernel
theorem dX8_find_68 : decode cX8_find 68 = .ok (.aload_n 0, 1) := by decide +kernel
theorem dX8_find_69 : decode cX8_find 69 = .ok (.getfield 19, 3) := by decide +kernel
theorem dX8_find_72 : decode cX8_find 72 = .ok (.iload_n 1, 1) := by decide +kernel
theorem dX8_find_73 : decode cX8_find 73 = .ok (.iaload, 1) := by decide +kernel
theorem dX8_find_74 : decode cX8_find 74 = .ok (.iadd, 1) := by decide +kernel
theorem dX8_find_75 : decode cX8_find 75 = .ok (.if_icmp .ne 5, 3) := by decide +kernel
theorem dX8_find_78 : decode cX8_find 78 = .ok (.iload_n 3, 1) := by decide +kernel
theorem dX8_find_79 : decode cX8_find 79 = .ok (.ireturn, 1) := by decide +kernel
theorem dX8_find_80 : decode cX8_find 80 = .ok (.iload 4, 2) := by decide +kernel
theorem dX8_find_82 : decode cX8_find 82 = .ok (.iconst 1, 1) := by decide +kernel
theorem dX8_find_83 : decode cX8_find 83 = .ok (.iadd, 1) := by decide +kernel
theorem dX8_find_84 : decode cX8_find 84 = .ok (.aload_n 0, 1) := by decide +kernel
theorem dX8_find_85 : decode cX8_find 85 = .ok (.getfield 22, 3) := by decide +kernel
theorem dX8_find_88 : decode cX8_find 88 = .ok (.iload_n 1, 1) := by decide +kernel
theorem dX8_find_89 : decode cX8_find 89 = .ok (.iaload, 1) := by decide +kernel
theorem dX8_find_90 : decode cX8_find 90 = .ok (.invokestatic 87, 3) := by decide +kernel
theorem dX8_find_93 : decode cX8_find 93 = .ok (.istore_n 3, 1) := by decide +kernel
theorem dX8_find_94 : decode cX8_find 94 = .ok (.goto (-78), 3) := by decide +kernel
theorem dX8_find_97 : decode cX8_find 97 = .ok (.iconst (-1), 1) := by decide +kernel
theorem dX8_find_98 : decode cX8_find 98 = .ok (.ireturn, 1) := by decide +kernel
set_option maxRecDepth 20000 in
theorem ggX8_findAny_X8_find : GoodIn wsX8_findAny wsX8_find := goodIn_r _ [8, 9, 10, 11, 12, 13, 14, 15, 7, 16, 17, 18, 19, 20, 21, 22, 23, 24, 25, 26, 27, 28, 29, 30, 31, 32, 33, 34, 35, 36, 37, 38, 39, 40, 41] (by decide +kernel) (by decide +kernel)
set_option maxRecDepth 20000 in
theorem gX8_findAny_X8_find : GoodIn wsX8_findAny (wsV RX8 91 RX8 yX8_find wsX8_find) := goodIn_app (goodIn_of _ (by decide +kernel)) ggX8_findAny_X8_find
theorem dX8_findAny_0 : decode cX8_findAny 0 = .ok (.iconst (-1), 1) := by decide +kernel
theorem dX8_findAny_1 : decode cX8_findAny 1 = .ok (.istore_n 2, 1) := by decide +kernel
theorem dX8_findAny_2 : decode cX8_findAny 2 = .ok (.iconst 1, 1) := by decide +kernel
theorem dX8_findAny_3 : decode cX8_findAny 3 = .ok (.istore_n 3, 1) := by decide +kernel
theorem dX8_findAny_4 : decode cX8_findAny 4 = .ok (.iload_n 3, 1) := by decide +kernel
theorem dX8_findAny_5 : decode cX8_findAny 5 = .ok (.aload_n 0, 1) := by decide +kernel
theorem dX8_findAny_6 : decode cX8_findAny 6 = .ok (.getfield 77, 3) := by decide +kernel
theorem dX8_findAny_9 : decode cX8_findAny 9 = .ok (.if_icmp .gt 46, 3) := by decide +kernel
theorem dX8_findAny_12 : decode cX8_findAny 12 = .ok (.iload_n 2, 1) := by decide +kernel
theorem dX8_findAny_13 : decode cX8_findAny 13 = .ok (.ifCond .ge 42, 3) := by decide +kernel
theorem dX8_findAny_16 : decode cX8_findAny 16 = .ok (.aload_n 0, 1) := by decide +kernel
theorem dX8_findAny_17 : decode cX8_findAny 17 = .ok (.getfield 16, 3) := by decide +kernel
theorem dX8_findAny_20 : decode cX8_findAny 20 = .ok (.iload_n 3, 1) := by decide +kernel
theorem dX8_findAny_21 : decode cX8_findAny 21 = .ok (.iaload, 1) := by decide +kernel
theorem dX8_findAny_22 : decode cX8_findAny 22 = .ok (.aload_n 0, 1) := by decide +kernel
theorem dX8_findAny_23 : decode cX8_findAny 23 = .ok (.getfield 25, 3) := by decide +kernel
theorem dX8_findAny_26 : decode cX8_findAny 26 = .ok (.iload_n 1, 1) := by decide +kernel
theorem dX8_findAny_27 : decode cX8_findAny 27 = .ok (.iaload, 1) := by decide +kernel
theorem dX8_findAny_28 : decode cX8_findAny 28 = .ok (.iand, 1) := by decide +kernel
theorem dX8_findAny_29 : decode cX8_findAny 29 = .ok (.aload_n 0, 1) := by decide +kernel
theorem dX8_findAny_30 : decode cX8_findAny 30 = .ok (.getfield 25, 3) := by decide +kernel
theorem dX8_findAny_33 : decode cX8_findAny 33 = .ok (.iload_n 1, 1) := by decide +kernel
theorem dX8_findAny_34 : decode cX8_findAny 34 = .ok (.iaload, 1) := by decide +kernel
theorem dX8_findAny_35 : decode cX8_findAny 35 = .ok (.if_icmp .ne 12, 3) := by decide +kernel
theorem dX8_findAny_38 : decode cX8_findAny 38 = .ok (.aload_n 0, 1) := by decide +kernel
theorem dX8_findAny_39 : decode cX8_findAny 39 = .ok (.iload_n 1, 1) := by decide +kernel
theorem dX8_findAny_40 : decode cX8_findAny 40 = .ok (.iload_n 3, 1) := by decide +kernel
theorem dX8_findAny_41 : decode cX8_findAny 41 = .ok (.invokevirtual 91, 3) := by decide +kernel
theorem dX8_findAny_44 : decode cX8_findAny 44 = .ok (.goto 4, 3) := by decide +kernel
theorem dX8_findAny_47 : decode cX8_findAny 47 = .ok (.iconst (-1), 1) := by decide +kernel
theorem dX8_findAny_48 : decode cX8_findAny 48 = .ok (.istore_n 2, 1) := by decide +kernel
theorem dX8_findAny_49 : decode cX8_findAny 49 = .ok (.iinc 3 1, 3) := by decide +kernel
theorem dX8_findAny_52 : decode cX8_findAny 52 = .ok (.goto (-48), 3) := by decide +kernel
theorem dX8_findAny_55 : decode cX8_findAny 55 = .ok (.iload_n 2, 1) := by decide +kernel
theorem dX8_findAny_56 : decode cX8_findAny 56 = .ok (.ireturn, 1) := by decide +kernel
set_option maxRecDepth 20000 in
theorem ggX8_place_X8_next : GoodIn wsX8_place wsX8_next := goodIn_r _ [17, 6, 18, 19, 20, 16, 21, 5, 39, 40, 41, 42, 43, 44, 45, 46, 47, 48, 49, 50, 51, 52, 53, 54, 55, 56, 57, 58, 59, 60, 61, 62, 63] (by decide +kernel) (by decide +kernel)
set_option maxRecDepth 20000 in
theorem gX8_place_X8_next : GoodIn wsX8_place (wsV RX8 94 RX8 yX8_next wsX8_next) := goodIn_app (goodIn_of _ (by decide +kernel)) ggX8_place_X8_next
set_option maxRecDepth 20000 in
theorem ggX8_place_X8_findAny : GoodIn wsX8_place wsX8_findAny := goodIn_r _ [25, 26, 27, 28, 29, 30, 31, 16, 32, 33, 34, 5, 35, 3, 36, 37, 38, 39, 40, 41, 42, 43, 44, 45, 46, 47, 48, 49, 50, 51, 52, 53, 54, 55, 56, 57, 58, 59, 60, 61, 62, 63] (by decide +kernel) (by decide +kernel)
set_option maxRecDepth 20000 in
theorem gX8_place_X8_findAny : GoodIn wsX8_place (wsV RX8 98 RX8 yX8_findAny wsX8_findAny) := goodIn_app (goodIn_of _ (by decide +kernel)) ggX8_place_X8_findAny
theorem dX8_place_0 : decode cX8_place 0 = .ok (.aload_n 0, 1) := by decide +kernel
theorem dX8_place_1 : decode cX8_place 1 = .ok (.iconst 0, 1) := by decide +kernel
theorem dX8_place_2 : decode cX8_place 2 = .ok (.putfield 74, 3) := by decide +kernel
theorem dX8_place_5 : decode cX8_place 5 = .ok (.iconst 0, 1) := by decide +kernel
theorem dX8_place_6 : decode cX8_place 6 = .ok (.istore_n 1, 1) := by decide +kernel
theorem dX8_place_7 : decode cX8_place 7 = .ok (.iload_n 1, 1) := by decide +kernel
theorem dX8_place_8 : decode cX8_place 8 = .ok (.aload_n 0, 1) := by decide +kernel
theorem dX8_place_9 : decode cX8_place 9 = .ok (.getfield 70, 3) := by decide +kernel
theorem dX8_place_12 : decode cX8_place 12 = .ok (.if_icmp .ge 16, 3) := by decide +kernel
theorem dX8_place_15 : decode cX8_place 15 = .ok (.aload_n 0, 1) := by decide +kernel
theorem dX8_place_16 : decode cX8_place 16 = .ok (.getfield 29, 3) := by decide +kernel
theorem dX8_place_19 : decode cX8_place 19 = .ok (.iload_n 1, 1) := by decide +kernel
theorem dX8_place_20 : decode cX8_place 20 = .ok (.iconst 0, 1) := by decide +kernel
theorem dX8_place_21 : decode cX8_place 21 = .ok (.bastore, 1) := by decide +kernel
theorem dX8_place_22 : decode cX8_place 22 = .ok (.iinc 1 1, 3) := by decide +kernel
theorem dX8_place_25 : decode cX8_place 25 = .ok (.goto (-18), 3) := by decide +kernel
theorem dX8_place_28 : decode cX8_place 28 = .ok (.aload_n 0, 1) := by decide +kernel
theorem dX8_place_29 : decode cX8_place 29 = .ok (.iconst 0, 1) := by decide +kernel
theorem dX8_place_30 : decode cX8_place 30 = .ok (.invokevirtual 94, 3) := by decide +kernel
theorem dX8_place_33 : decode cX8_place 33 = .ok (.istore_n 1, 1) := by decide +kernel
theorem dX8_place_34 : decode cX8_place 34 = .ok (.iload_n 1, 1) := by decide +kernel
theorem dX8_place_35 : decode cX8_place 35 = .ok (.ifCond .le 86, 3) := by decide +kernel
theorem dX8_place_38 : decode cX8_place 38 = .ok (.aload_n 0, 1) := by decide +kernel
theorem dX8_place_39 : decode cX8_place 39 = .ok (.getfield 39, 3) := by decide +kernel
theorem dX8_place_42 : decode cX8_place 42 = .ok (.iload_n 1, 1) := by decide +kernel
theorem dX8_place_43 : decode cX8_place 43 = .ok (.aload_n 0, 1) := by decide +kernel
theorem dX8_place_44 : decode cX8_place 44 = .ok (.getfield 19, 3) := by decide +kernel
theorem dX8_place_47 : decode cX8_place 47 = .ok (.iload_n 1, 1) := by decide +kernel
theorem dX8_place_48 : decode cX8_place 48 = .ok (.iaload, 1) := by decide +kernel
theorem dX8_place_49 : decode cX8_place 49 = .ok (.ifCond .ne 7, 3) := by decide +kernel
theorem dX8_place_52 : decode cX8_place 52 = .ok (.iconst 0, 1) := by decide +kernel
theorem dX8_place_53 : decode cX8_place 53 = .ok (.goto 8, 3) := by decide +kernel
theorem dX8_place_56 : decode cX8_place 56 = .ok (.aload_n 0, 1) := by decide +kernel
theorem dX8_place_57 : decode cX8_place 57 = .ok (.iload_n 1, 1) := by decide +kernel
theorem dX8_place_58 : decode cX8_place 58 = .ok (.invokevirtual 98, 3) := by decide +kernel
theorem dX8_place_61 : decode cX8_place 61 = .ok (.iastore, 1) := by decide +kernel
theorem dX8_place_62 : decode cX8_place 62 = .ok (.aload_n 0, 1) := by decide +kernel
theorem dX8_place_63 : decode cX8_place 63 = .ok (.getfield 39, 3) := by decide +kernel
theorem dX8_place_66 : decode cX8_place 66 = .ok (.iload_n 1, 1) := by decide +kernel
theorem dX8_place_67 : decode cX8_place 67 = .ok (.iaload, 1) := by decide +kernel
theorem dX8_place_68 : decode cX8_place 68 = .ok (.ifCond .ge 6, 3) := by decide +kernel
theorem dX8_place_71 : decode cX8_place 71 = .ok (.iload_n 1, 1) := by decide +kernel
theorem dX8_place_72 : decode cX8_place 72 = .ok (.ineg, 1) := by decide +kernel
theorem dX8_place_73 : decode cX8_place 73 = .ok (.ireturn, 1) := by decide +kernel
theorem dX8_place_74 : decode cX8_place 74 = .ok (.aload_n 0, 1) := by decide +kernel
theorem dX8_place_75 : decode cX8_place 75 = .ok (.getfield 39, 3) := by decide +kernel
theorem dX8_place_78 : decode cX8_place 78 = .ok (.iload_n 1, 1) := by decide +kernel
theorem dX8_place_79 : decode cX8_place 79 = .ok (.iaload, 1) := by decide +kernel
theorem dX8_place_80 : decode cX8_place 80 = .ok (.istore_n 2, 1) := by decide +kernel
theorem dX8_place_81 : decode cX8_place 81 = .ok (.iload_n 2, 1) := by decide +kernel
theorem dX8_place_82 : decode cX8_place 82 = .ok (.aload_n 0, 1) := by decide +kernel
theorem dX8_place_83 : decode cX8_place 83 = .ok (.getfield 39, 3) := by decide +kernel
theorem dX8_place_86 : decode cX8_place 86 = .ok (.iload_n 1, 1) := by decide +kernel
theorem dX8_place_87 : decode cX8_place 87 = .ok (.iaload, 1) := by decide +kernel
theorem dX8_place_88 : decode cX8_place 88 = .ok (.aload_n 0, 1) := by decide +kernel
theorem dX8_place_89 : decode cX8_place 89 = .ok (.getfield 19, 3) := by decide +kernel
theorem dX8_place_92 : decode cX8_place 92 = .ok (.iload_n 1, 1) := by decide +kernel
theorem dX8_place_93 : decode cX8_place 93 = .ok (.iaload, 1) := by decide +kernel
theorem dX8_place_94 : decode cX8_place 94 = .ok (.iadd, 1) := by decide +kernel
theorem dX8_place_95 : decode cX8_place 95 = .ok (.if_icmp .ge 17, 3) := by decide +kernel
theorem dX8_place_98 : decode cX8_place 98 = .ok (.aload_n 0, 1) := by decide +kernel
theorem dX8_place_99 : decode cX8_place 99 = .ok (.getfield 29, 3) := by decide +kernel
theorem dX8_place_102 : decode cX8_place 102 = .ok (.iload_n 2, 1) := by decide +kernel
theorem dX8_place_103 : decode cX8_place 103 = .ok (.iload_n 1, 1) := by decide +kernel
theorem dX8_place_104 : decode cX8_place 104 = .ok (.i2b, 1) := by decide +kernel
theorem dX8_place_105 : decode cX8_place 105 = .ok (.bastore, 1) := by decide +kernel
theorem dX8_place_106 : decode cX8_place 106 = .ok (.iinc 2 1, 3) := by decide +kernel
theorem dX8_place_109 : decode cX8_place 109 = .ok (.goto (-28), 3) := by decide +kernel
theorem dX8_place_112 : decode cX8_place 112 = .ok (.aload_n 0, 1) := by decide +kernel
theorem dX8_place_113 : decode cX8_place 113 = .ok (.iload_n 1, 1) := by decide +kernel
theorem dX8_place_114 : decode cX8_place 114 = .ok (.invokevirtual 94, 3) := by decide +kernel
theorem dX8_place_117 : decode cX8_place 117 = .ok (.istore_n 1, 1) := by decide +kernel
theorem dX8_place_118 : decode cX8_place 118 = .ok (.goto (-84), 3) := by decide +kernel
theorem dX8_place_121 : decode cX8_place 121 = .ok (.aload_n 0, 1) := by decide +kernel
theorem dX8_place_122 : decode cX8_place 122 = .ok (.aload_n 0, 1) := by decide +kernel
theorem dX8_place_123 : decode cX8_place 123 = .ok (.getfield 80, 3) := by decide +kernel
theorem dX8_place_126 : decode cX8_place 126 = .ok (.putfield 101, 3) := by decide +kernel
theorem dX8_place_129 : decode cX8_place 129 = .ok (.aload_n 0, 1) := by decide +kernel
theorem dX8_place_130 : decode cX8_place 130 = .ok (.dup, 1) := by decide +kernel
theorem dX8_place_131 : decode cX8_place 131 = .ok (.getfield 104, 3) := by decide +kernel
theorem dX8_place_134 : decode cX8_place 134 = .ok (.iconst 1, 1) := by decide +kernel
theorem dX8_place_135 : decode cX8_place 135 = .ok (.iadd, 1) := by decide +kernel
theorem dX8_place_136 : decode cX8_place 136 = .ok (.putfield 104, 3) := by decide +kernel
theorem dX8_place_139 : decode cX8_place 139 = .ok (.iconst 0, 1) := by decide +kernel
theorem dX8_place_140 : decode cX8_place 140 = .ok (.istore_n 1, 1) := by decide +kernel
theorem dX8_place_141 : decode cX8_place 141 = .ok (.iload_n 1, 1) := by decide +kernel
theorem dX8_place_142 : decode cX8_place 142 = .ok (.aload_n 0, 1) := by decide +kernel
theorem dX8_place_143 : decode cX8_place 143 = .ok (.getfield 70, 3) := by decide +kernel
theorem dX8_place_146 : decode cX8_place 146 = .ok (.if_icmp .ge 34, 3) := by decide +kernel
theorem dX8_place_149 : decode cX8_place 149 = .ok (.aload_n 0, 1) := by decide +kernel
theorem dX8_place_150 : decode cX8_place 150 = .ok (.getfield 33, 3) := by decide +kernel
theorem dX8_place_153 : decode cX8_place 153 = .ok (.iload_n 1, 1) := by decide +kernel
theorem dX8_place_154 : decode cX8_place 154 = .ok (.aload_n 0, 1) := by decide +kernel
theorem dX8_place_155 : decode cX8_place 155 = .ok (.getfield 29, 3) := by decide +kernel
theorem dX8_place_158 : decode cX8_place 158 = .ok (.iload_n 1, 1) := by decide +kernel
theorem dX8_place_159 : decode cX8_place 159 = .ok (.baload, 1) := by decide +kernel
theorem dX8_place_160 : decode cX8_place 160 = .ok (.ifCond .ne 7, 3) := by decide +kernel
theorem dX8_place_163 : decode cX8_place 163 = .ok (.iconst (-1), 1) := by decide +kernel
theorem dX8_place_164 : decode cX8_place 164 = .ok (.goto 9, 3) := by decide +kernel
theorem dX8_place_167 : decode cX8_place 167 = .ok (.aload_n 0, 1) := by decide +kernel
theorem dX8_place_168 : decode cX8_place 168 = .ok (.getfield 29, 3) := by decide +kernel
theorem dX8_place_171 : decode cX8_place 171 = .ok (.iload_n 1, 1) := by decide +kernel
theorem dX8_place_172 : decode cX8_place 172 = .ok (.baload, 1) := by decide +kernel
theorem dX8_place_173 : decode cX8_place 173 = .ok (.bastore, 1) := by decide +kernel
theorem dX8_place_174 : decode cX8_place 174 = .ok (.iinc 1 1, 3) := by decide +kernel
theorem dX8_place_177 : decode cX8_place 177 = .ok (.goto (-36), 3) := by decide +kernel
theorem dX8_place_180 : decode cX8_place 180 = .ok (.iconst 1, 1) := by decide +kernel
theorem dX8_place_181 : decode cX8_place 181 = .ok (.istore_n 1, 1) := by decide +kernel
theorem dX8_place_182 : decode cX8_place 182 = .ok (.iload_n 1, 1) := by decide +kernel
theorem dX8_place_183 : decode cX8_place 183 = .ok (.aload_n 0, 1) := by decide +kernel
theorem dX8_place_184 : decode cX8_place 184 = .ok (.getfield 80, 3) := by decide +kernel
theorem dX8_place_187 : decode cX8_place 187 = .ok (.if_icmp .gt 50, 3) := by decide +kernel
theorem dX8_place_190 : decode cX8_place 190 = .ok (.aload_n 0, 1) := by decide +kernel
theorem dX8_place_191 : decode cX8_place 191 = .ok (.getfield 36, 3) := by decide +kernel
theorem dX8_place_194 : decode cX8_place 194 = .ok (.iload_n 1, 1) := by decide +kernel
theorem dX8_place_195 : decode cX8_place 195 = .ok (.aload_n 0, 1) := by decide +kernel
theorem dX8_place_196 : decode cX8_place 196 = .ok (.getfield 39, 3) := by decide +kernel
theorem dX8_place_199 : decode cX8_place 199 = .ok (.iload_n 1, 1) := by decide +kernel
theorem dX8_place_200 : decode cX8_place 200 = .ok (.iaload, 1) := by decide +kernel
theorem dX8_place_201 : decode cX8_place 201 = .ok (.iastore, 1) := by decide +kernel
theorem dX8_place_202 : decode cX8_place 202 = .ok (.aload_n 0, 1) := by decide +kernel
theorem dX8_place_203 : decode cX8_place 203 = .ok (.getfield 104, 3) := by decide +kernel
theorem dX8_place_206 : decode cX8_place 206 = .ok (.bipush 50, 2) := by decide +kernel
theorem dX8_place_208 : decode cX8_place 208 = .ok (.if_icmp .gt 23, 3) := by decide +kernel
theorem dX8_place_211 : decode cX8_place 211 = .ok (.aload_n 0, 1) := by decide +kernel
theorem dX8_place_212 : decode cX8_place 212 = .ok (.getfield 42, 3) := by decide +kernel
theorem dX8_place_215 : decode cX8_place 215 = .ok (.bipush 41, 2) := by decide +kernel
theorem dX8_place_217 : decode cX8_place 217 = .ok (.aload_n 0, 1) := by decide +kernel
theorem dX8_place_218 : decode cX8_place 218 = .ok (.getfield 104, 3) := by decide +kernel
theorem dX8_place_221 : decode cX8_place 221 = .ok (.imul, 1) := by decide +kernel
theorem dX8_place_222 : decode cX8_place 222 = .ok (.iload_n 1, 1) := by decide +kernel
theorem dX8_place_223 : decode cX8_place 223 = .ok (.iadd, 1) := by decide +kernel
theorem dX8_place_224 : decode cX8_place 224 = .ok (.aload_n 0, 1) := by decide +kernel
theorem dX8_place_225 : decode cX8_place 225 = .ok (.getfield 39, 3) := by decide +kernel
theorem dX8_place_228 : decode cX8_place 228 = .ok (.iload_n 1, 1) := by decide +kernel
theorem dX8_place_229 : decode cX8_place 229 = .ok (.iaload, 1) := by decide +kernel
theorem dX8_place_230 : decode cX8_place 230 = .ok (.iastore, 1) := by decide +kernel
theorem dX8_place_231 : decode cX8_place 231 = .ok (.iinc 1 1, 3) := by decide +kernel
theorem dX8_place_234 : decode cX8_place 234 = .ok (.goto (-52), 3) := by decide +kernel
theorem dX8_place_237 : decode cX8_place 237 = .ok (.aload_n 0, 1) := by decide +kernel
theorem dX8_place_238 : decode cX8_place 238 = .ok (.getfield 104, 3) := by decide +kernel
theorem dX8_place_241 : decode cX8_place 241 = .ok (.bipush 50, 2) := by decide +kernel
theorem dX8_place_243 : decode cX8_place 243 = .ok (.if_icmp .gt 16, 3) := by decide +kernel
theorem dX8_place_246 : decode cX8_place 246 = .ok (.aload_n 0, 1) := by decide +kernel
theorem dX8_place_247 : decode cX8_place 247 = .ok (.getfield 45, 3) := by decide +kernel
theorem dX8_place_250 : decode cX8_place 250 = .ok (.aload_n 0, 1) := by decide +kernel
theorem dX8_place_251 : decode cX8_place 251 = .ok (.getfield 104, 3) := by decide +kernel
theorem dX8_place_254 : decode cX8_place 254 = .ok (.aload_n 0, 1) := by decide +kernel
theorem dX8_place_255 : decode cX8_place 255 = .ok (.getfield 80, 3) := by decide +kernel
theorem dX8_place_258 : decode cX8_place 258 = .ok (.iastore, 1) := by decide +kernel
theorem dX8_place_259 : decode cX8_place 259 = .ok (.iconst 1, 1) := by decide +kernel
theorem dX8_place_260 : decode cX8_place 260 = .ok (.ireturn, 1) := by decide +kernel
theorem dX8_at_0 : decode cX8_at 0 = .ok (.aload_n 0, 1) := by decide +kernel
theorem dX8_at_1 : decode cX8_at 1 = .ok (.iconst 0, 1) := by decide +kernel
theorem dX8_at_2 : decode cX8_at 2 = .ok (.putfield 74, 3) := by decide +kernel
theorem dX8_at_5 : decode cX8_at 5 = .ok (.iload_n 1, 1) := by decide +kernel
theorem dX8_at_6 : decode cX8_at 6 = .ok (.iconst 1, 1) := by decide +kernel
theorem dX8_at_7 : decode cX8_at 7 = .ok (.if_icmp .lt 11, 3) := by decide +kernel
theorem dX8_at_10 : decode cX8_at 10 = .ok (.iload_n 1, 1) := by decide +kernel
theorem dX8_at_11 : decode cX8_at 11 = .ok (.aload_n 0, 1) := by decide +kernel
theorem dX8_at_12 : decode cX8_at 12 = .ok (.getfield 80, 3) := by decide +kernel
theorem dX8_at_15 : decode cX8_at 15 = .ok (.if_icmp .le 9, 3) := by decide +kernel
theorem dX8_at_18 : decode cX8_at 18 = .ok (.ldc2_w 107, 3) := by decide +kernel
theorem dX8_at_21 : decode cX8_at 21 = .ok (.goto 31, 3) := by decide +kernel
theorem dX8_at_24 : decode cX8_at 24 = .ok (.aload_n 0, 1) := by decide +kernel
theorem dX8_at_25 : decode cX8_at 25 = .ok (.getfield 104, 3) := by decide +kernel
theorem dX8_at_28 : decode cX8_at 28 = .ok (.ifCond .eq 11, 3) := by decide +kernel
theorem dX8_at_31 : decode cX8_at 31 = .ok (.iload_n 1, 1) := by decide +kernel
theorem dX8_at_32 : decode cX8_at 32 = .ok (.aload_n 0, 1) := by decide +kernel
theorem dX8_at_33 : decode cX8_at 33 = .ok (.getfield 101, 3) := by decide +kernel
theorem dX8_at_36 : decode cX8_at 36 = .ok (.if_icmp .le 9, 3) := by decide +kernel
theorem dX8_at_39 : decode cX8_at 39 = .ok (.ldc2_w 109, 3) := by decide +kernel
theorem dX8_at_42 : decode cX8_at 42 = .ok (.goto 10, 3) := by decide +kernel
theorem dX8_at_45 : decode cX8_at 45 = .ok (.aload_n 0, 1) := by decide +kernel
theorem dX8_at_46 : decode cX8_at 46 = .ok (.getfield 36, 3) := by decide +kernel
theorem dX8_at_49 : decode cX8_at 49 = .ok (.iload_n 1, 1) := by decide +kernel
theorem dX8_at_50 : decode cX8_at 50 = .ok (.iaload, 1) := by decide +kernel
theorem dX8_at_51 : decode cX8_at 51 = .ok (.i2l, 1) := by decide +kernel
theorem dX8_at_52 : decode cX8_at 52 = .ok (.lreturn, 1) := by decide +kernel
theorem dX8_cell_0 : decode cX8_cell 0 = .ok (.aload_n 0, 1) := by decide +kernel
theorem dX8_cell_1 : decode cX8_cell 1 = .ok (.lload_n 1, 1) := by decide +kernel
theorem dX8_cell_2 : decode cX8_cell 2 = .ok (.lconst 0, 1) := by decide +kernel
theorem dX8_cell_3 : decode cX8_cell 3 = .ok (.lcmp, 1) := by decide +kernel
theorem dX8_cell_4 : decode cX8_cell 4 = .ok (.ifCond .lt 13, 3) := by decide +kernel
theorem dX8_cell_7 : decode cX8_cell 7 = .ok (.lload_n 1, 1) := by decide +kernel
theorem dX8_cell_8 : decode cX8_cell 8 = .ok (.aload_n 0, 1) := by decide +kernel
theorem dX8_cell_9 : decode cX8_cell 9 = .ok (.getfield 70, 3) := by decide +kernel
theorem dX8_cell_12 : decode cX8_cell 12 = .ok (.i2l, 1) := by decide +kernel
theorem dX8_cell_13 : decode cX8_cell 13 = .ok (.lcmp, 1) := by decide +kernel
theorem dX8_cell_14 : decode cX8_cell 14 = .ok (.ifCond .lt 7, 3) := by decide +kernel
theorem dX8_cell_17 : decode cX8_cell 17 = .ok (.iconst 1, 1) := by decide +kernel
theorem dX8_cell_18 : decode cX8_cell 18 = .ok (.goto 4, 3) := by decide +kernel
theorem dX8_cell_21 : decode cX8_cell 21 = .ok (.iconst 0, 1) := by decide +kernel
theorem dX8_cell_22 : decode cX8_cell 22 = .ok (.putfield 74, 3) := by decide +kernel
theorem dX8_cell_25 : decode cX8_cell 25 = .ok (.aload_n 0, 1) := by decide +kernel
theorem dX8_cell_26 : decode cX8_cell 26 = .ok (.getfield 74, 3) := by decide +kernel
theorem dX8_cell_29 : decode cX8_cell 29 = .ok (.ifCond .le 7, 3) := by decide +kernel
theorem dX8_cell_32 : decode cX8_cell 32 = .ok (.iconst 0, 1) := by decide +kernel
theorem dX8_cell_33 : decode cX8_cell 33 = .ok (.goto 10, 3) := by decide +kernel
theorem dX8_cell_36 : decode cX8_cell 36 = .ok (.aload_n 0, 1) := by decide +kernel
theorem dX8_cell_37 : decode cX8_cell 37 = .ok (.getfield 33, 3) := by decide +kernel
theorem dX8_cell_40 : decode cX8_cell 40 = .ok (.lload_n 1, 1) := by decide +kernel
theorem dX8_cell_41 : decode cX8_cell 41 = .ok (.l2i, 1) := by decide +kernel
theorem dX8_cell_42 : decode cX8_cell 42 = .ok (.baload, 1) := by decide +kernel
theorem dX8_cell_43 : decode cX8_cell 43 = .ok (.ireturn, 1) := by decide +kernel
theorem dX8_moved_0 : decode cX8_moved 0 = .ok (.aload_n 0, 1) := by decide +kernel
theorem dX8_moved_1 : decode cX8_moved 1 = .ok (.iconst 0, 1) := by decide +kernel
theorem dX8_moved_2 : decode cX8_moved 2 = .ok (.putfield 74, 3) := by decide +kernel
theorem dX8_moved_5 : decode cX8_moved 5 = .ok (.iload_n 1, 1) := by decide +kernel
theorem dX8_moved_6 : decode cX8_moved 6 = .ok (.iconst 1, 1) := by decide +kernel
theorem dX8_moved_7 : decode cX8_moved 7 = .ok (.if_icmp .lt 17, 3) := by decide +kernel
theorem dX8_moved_10 : decode cX8_moved 10 = .ok (.iload_n 1, 1) := by decide +kernel
theorem dX8_moved_11 : decode cX8_moved 11 = .ok (.aload_n 0, 1) := by decide +kernel
theorem dX8_moved_12 : decode cX8_moved 12 = .ok (.getfield 104, 3) := by decide +kernel
theorem dX8_moved_15 : decode cX8_moved 15 = .ok (.if_icmp .gt 9, 3) := by decide +kernel
theorem dX8_moved_18 : decode cX8_moved 18 = .ok (.iload_n 1, 1) := by decide +kernel
theorem dX8_moved_19 : decode cX8_moved 19 = .ok (.bipush 50, 2) := by decide +kernel
theorem dX8_moved_21 : decode cX8_moved 21 = .ok (.if_icmp .le 5, 3) := by decide +kernel
theorem dX8_moved_24 : decode cX8_moved 24 = .ok (.iconst (-1), 1) := by decide +kernel
theorem dX8_moved_25 : decode cX8_moved 25 = .ok (.ireturn, 1) := by decide +kernel
theorem dX8_moved_26 : decode cX8_moved 26 = .ok (.iconst 0, 1) := by decide +kernel
theorem dX8_moved_27 : decode cX8_moved 27 = .ok (.istore_n 2, 1) := by decide +kernel
theorem dX8_moved_28 : decode cX8_moved 28 = .ok (.iconst 1, 1) := by decide +kernel
theorem dX8_moved_29 : decode cX8_moved 29 = .ok (.istore_n 3, 1) := by decide +kernel
theorem dX8_moved_30 : decode cX8_moved 30 = .ok (.iload_n 3, 1) := by decide +kernel
theorem dX8_moved_31 : decode cX8_moved 31 = .ok (.aload_n 0, 1) := by decide +kernel
theorem dX8_moved_32 : decode cX8_moved 32 = .ok (.getfield 45, 3) := by decide +kernel
theorem dX8_moved_35 : decode cX8_moved 35 = .ok (.iload_n 1, 1) := by decide +kernel
theorem dX8_moved_36 : decode cX8_moved 36 = .ok (.iaload, 1) := by decide +kernel
theorem dX8_moved_37 : decode cX8_moved 37 = .ok (.if_icmp .gt 37, 3) := by decide +kernel
theorem dX8_moved_40 : decode cX8_moved 40 = .ok (.aload_n 0, 1) := by decide +kernel
theorem dX8_moved_41 : decode cX8_moved 41 = .ok (.getfield 42, 3) := by decide +kernel
theorem dX8_moved_44 : decode cX8_moved 44 = .ok (.bipush 41, 2) := by decide +kernel
theorem dX8_moved_46 : decode cX8_moved 46 = .ok (.iload_n 1, 1) := by decide +kernel
theorem dX8_moved_47 : decode cX8_moved 47 = .ok (.imul, 1) := by decide +kernel
theorem dX8_moved_48 : decode cX8_moved 48 = .ok (.iload_n 3, 1) := by decide +kernel
theorem dX8_moved_49 : decode cX8_moved 49 = .ok (.iadd, 1) := by decide +kernel
theorem dX8_moved_50 : decode cX8_moved 50 = .ok (.iaload, 1) := by decide +kernel
theorem dX8_moved_51 : decode cX8_moved 51 = .ok (.aload_n 0, 1) := by decide +kernel
theorem dX8_moved_52 : decode cX8_moved 52 = .ok (.getfield 36, 3) := by decide +kernel
theorem dX8_moved_55 : decode cX8_moved 55 = .ok (.iload_n 3, 1) := by decide +kernel
theorem dX8_moved_56 : decode cX8_moved 56 = .ok (.iaload, 1) := by decide +kernel
theorem dX8_moved_57 : decode cX8_moved 57 = .ok (.if_icmp .eq 9, 3) := by decide +kernel
theorem dX8_moved_60 : decode cX8_moved 60 = .ok (.iload_n 2, 1) := by decide +kernel
theorem dX8_moved_61 : decode cX8_moved 61 = .ok (.iconst 1, 1) := by decide +kernel
theorem dX8_moved_62 : decode cX8_moved 62 = .ok (.iadd, 1) := by decide +kernel
theorem dX8_moved_63 : decode cX8_moved 63 = .ok (.goto 4, 3) := by decide +kernel
theorem dX8_moved_66 : decode cX8_moved 66 = .ok (.iload_n 2, 1) := by decide +kernel
theorem dX8_moved_67 : decode cX8_moved 67 = .ok (.istore_n 2, 1) := by decide +kernel
theorem dX8_moved_68 : decode cX8_moved 68 = .ok (.iinc 3 1, 3) := by decide +kernel
theorem dX8_moved_71 : decode cX8_moved 71 = .ok (.goto (-41), 3) := by decide +kernel
theorem dX8_moved_74 : decode cX8_moved 74 = .ok (.iload_n 2, 1) := by decide +kernel
theorem dX8_moved_75 : decode cX8_moved 75 = .ok (.ireturn, 1) := by decide +kernel
theorem dX8_call_0 : decode cX8_call 0 = .ok (.aload_n 0, 1) := by decide +kernel
theorem dX8_call_1 : decode cX8_call 1 = .ok (.iconst 0, 1) := by decide +kernel
theorem dX8_call_2 : decode cX8_call 2 = .ok (.putfield 74, 3) := by decide +kernel
theorem dX8_call_5 : decode cX8_call 5 = .ok (.iload_n 1, 1) := by decide +kernel
theorem dX8_call_6 : decode cX8_call 6 = .ok (.iconst 1, 1) := by decide +kernel
theorem dX8_call_7 : decode cX8_call 7 = .ok (.if_icmp .lt 19, 3) := by decide +kernel
theorem dX8_call_10 : decode cX8_call 10 = .ok (.iload_n 1, 1) := by decide +kernel
theorem dX8_call_11 : decode cX8_call 11 = .ok (.bipush 30, 2) := by decide +kernel
theorem dX8_call_13 : decode cX8_call 13 = .ok (.if_icmp .gt 13, 3) := by decide +kernel
theorem dX8_call_16 : decode cX8_call 16 = .ok (.iload_n 2, 1) := by decide +kernel
theorem dX8_call_17 : decode cX8_call 17 = .ok (.ifCond .lt 9, 3) := by decide +kernel
theorem dX8_call_20 : decode cX8_call 20 = .ok (.iload_n 2, 1) := by decide +kernel
theorem dX8_call_21 : decode cX8_call 21 = .ok (.bipush 30, 2) := by decide +kernel
theorem dX8_call_23 : decode cX8_call 23 = .ok (.if_icmp .le 5, 3) := by decide +kernel
theorem dX8_call_26 : decode cX8_call 26 = .ok (.iconst (-1), 1) := by decide +kernel
theorem dX8_call_27 : decode cX8_call 27 = .ok (.ireturn, 1) := by decide +kernel
theorem dX8_call_28 : decode cX8_call 28 = .ok (.lload_n 3, 1) := by decide +kernel
theorem dX8_call_29 : decode cX8_call 29 = .ok (.lconst 0, 1) := by decide +kernel
theorem dX8_call_30 : decode cX8_call 30 = .ok (.lcmp, 1) := by decide +kernel
theorem dX8_call_31 : decode cX8_call 31 = .ok (.ifCond .lt 11, 3) := by decide +kernel
theorem dX8_call_34 : decode cX8_call 34 = .ok (.lload_n 3, 1) := by decide +kernel
theorem dX8_call_35 : decode cX8_call 35 = .ok (.ldc2_w 111, 3) := by decide +kernel
theorem dX8_call_38 : decode cX8_call 38 = .ok (.lcmp, 1) := by decide +kernel
theorem dX8_call_39 : decode cX8_call 39 = .ok (.ifCond .le 6, 3) := by decide +kernel
theorem dX8_call_42 : decode cX8_call 42 = .ok (.bipush (-2), 2) := by decide +kernel
theorem dX8_call_44 : decode cX8_call 44 = .ok (.ireturn, 1) := by decide +kernel
theorem dX8_call_45 : decode cX8_call 45 = .ok (.aload_n 0, 1) := by decide +kernel
theorem dX8_call_46 : decode cX8_call 46 = .ok (.getfield 48, 3) := by decide +kernel
theorem dX8_call_49 : decode cX8_call 49 = .ok (.iload_n 1, 1) := by decide +kernel
theorem dX8_call_50 : decode cX8_call 50 = .ok (.lload_n 3, 1) := by decide +kernel
theorem dX8_call_51 : decode cX8_call 51 = .ok (.lastore, 1) := by decide +kernel
theorem dX8_call_52 : decode cX8_call 52 = .ok (.iload_n 2, 1) := by decide +kernel
theorem dX8_call_53 : decode cX8_call 53 = .ok (.ifCond .le 15, 3) := by decide +kernel
theorem dX8_call_56 : decode cX8_call 56 = .ok (.aload_n 0, 1) := by decide +kernel
theorem dX8_call_57 : decode cX8_call 57 = .ok (.getfield 52, 3) := by decide +kernel
theorem dX8_call_60 : decode cX8_call 60 = .ok (.bipush 31, 2) := by decide +kernel
theorem dX8_call_62 : decode cX8_call 62 = .ok (.iload_n 1, 1) := by decide +kernel
theorem dX8_call_63 : decode cX8_call 63 = .ok (.imul, 1) := by decide +kernel
theorem dX8_call_64 : decode cX8_call 64 = .ok (.iload_n 2, 1) := by decide +kernel
theorem dX8_call_65 : decode cX8_call 65 = .ok (.iadd, 1) := by decide +kernel
theorem dX8_call_66 : decode cX8_call 66 = .ok (.iconst 1, 1) := by decide +kernel
theorem dX8_call_67 : decode cX8_call 67 = .ok (.bastore, 1) := by decide +kernel
theorem dX8_call_68 : decode cX8_call 68 = .ok (.iconst 0, 1) := by decide +kernel
theorem dX8_call_69 : decode cX8_call 69 = .ok (.istore 5, 2) := by decide +kernel
theorem dX8_call_71 : decode cX8_call 71 = .ok (.iconst 1, 1) := by decide +kernel
theorem dX8_call_72 : decode cX8_call 72 = .ok (.istore 6, 2) := by decide +kernel
theorem dX8_call_74 : decode cX8_call 74 = .ok (.iload 6, 2) := by decide +kernel
theorem dX8_call_76 : decode cX8_call 76 = .ok (.bipush 30, 2) := by decide +kernel
theorem dX8_call_78 : decode cX8_call 78 = .ok (.if_icmp .gt 35, 3) := by decide +kernel
theorem dX8_call_81 : decode cX8_call 81 = .ok (.aload_n 0, 1) := by decide +kernel
theorem dX8_call_82 : decode cX8_call 82 = .ok (.getfield 52, 3) := by decide +kernel
theorem dX8_call_85 : decode cX8_call 85 = .ok (.bipush 31, 2) := by decide +kernel
theorem dX8_call_87 : decode cX8_call 87 = .ok (.iload_n 1, 1) := by decide +kernel
theorem dX8_call_88 : decode cX8_call 88 = .ok (.imul, 1) := by decide +kernel
theorem dX8_call_89 : decode cX8_call 89 = .ok (.iload 6, 2) := by decide +kernel
theorem dX8_call_91 : decode cX8_call 91 = .ok (.iadd, 1) := by decide +kernel
theorem dX8_call_92 : decode cX8_call 92 = .ok (.baload, 1) := by decide +kernel
theorem dX8_call_93 : decode cX8_call 93 = .ok (.ifCond .eq 10, 3) := by decide +kernel
theorem dX8_call_96 : decode cX8_call 96 = .ok (.iload 5, 2) := by decide +kernel
theorem dX8_call_98 : decode cX8_call 98 = .ok (.iconst 1, 1) := by decide +kernel
theorem dX8_call_99 : decode cX8_call 99 = .ok (.iadd, 1) := by decide +kernel
theorem dX8_call_100 : decode cX8_call 100 = .ok (.goto 5, 3) := by decide +kernel
theorem dX8_call_103 : decode cX8_call 103 = .ok (.iload 5, 2) := by decide +kernel
theorem dX8_call_105 : decode cX8_call 105 = .ok (.istore 5, 2) := by decide +kernel
theorem dX8_call_107 : decode cX8_call 107 = .ok (.iinc 6 1, 3) := by decide +kernel
theorem dX8_call_110 : decode cX8_call 110 = .ok (.goto (-36), 3) := by decide +kernel
theorem dX8_call_113 : decode cX8_call 113 = .ok (.iload 5, 2) := by decide +kernel
theorem dX8_call_115 : decode cX8_call 115 = .ok (.ireturn, 1) := by decide +kernel
theorem dX8_reckon_0 : decode cX8_reckon 0 = .ok (.lconst 0, 1) := by decide +kernel
theorem dX8_reckon_1 : decode cX8_reckon 1 = .ok (.lstore_n 2, 1) := by decide +kernel
theorem dX8_reckon_2 : decode cX8_reckon 2 = .ok (.iconst 1, 1) := by decide +kernel
theorem dX8_reckon_3 : decode cX8_reckon 3 = .ok (.istore 4, 2) := by decide +kernel
theorem dX8_reckon_5 : decode cX8_reckon 5 = .ok (.iload 4, 2) := by decide +kernel
theorem dX8_reckon_7 : decode cX8_reckon 7 = .ok (.bipush 30, 2) := by decide +kernel
theorem dX8_reckon_9 : decode cX8_reckon 9 = .ok (.if_icmp .gt 64, 3) := by decide +kernel
theorem dX8_reckon_12 : decode cX8_reckon 12 = .ok (.aload_n 0, 1) := by decide +kernel
theorem dX8_reckon_13 : decode cX8_reckon 13 = .ok (.getfield 52, 3) := by decide +kernel
theorem dX8_reckon_16 : decode cX8_reckon 16 = .ok (.bipush 31, 2) := by decide +kernel
theorem dX8_reckon_18 : decode cX8_reckon 18 = .ok (.iload_n 1, 1) := by decide +kernel
theorem dX8_reckon_19 : decode cX8_reckon 19 = .ok (.imul, 1) := by decide +kernel
theorem dX8_reckon_20 : decode cX8_reckon 20 = .ok (.iload 4, 2) := by decide +kernel
theorem dX8_reckon_22 : decode cX8_reckon 22 = .ok (.iadd, 1) := by decide +kernel
theorem dX8_reckon_23 : decode cX8_reckon 23 = .ok (.baload, 1) := by decide +kernel
theorem dX8_reckon_24 : decode cX8_reckon 24 = .ok (.ifCond .eq 43, 3) := by decide +kernel
theorem dX8_reckon_27 : decode cX8_reckon 27 = .ok (.aload_n 0, 1) := by decide +kernel
theorem dX8_reckon_28 : decode cX8_reckon 28 = .ok (.getfield 56, 3) := by decide +kernel
theorem dX8_reckon_31 : decode cX8_reckon 31 = .ok (.iload 4, 2) := by decide +kernel
theorem dX8_reckon_33 : decode cX8_reckon 33 = .ok (.laload, 1) := by decide +kernel
theorem dX8_reckon_34 : decode cX8_reckon 34 = .ok (.lconst 0, 1) := by decide +kernel
theorem dX8_reckon_35 : decode cX8_reckon 35 = .ok (.lcmp, 1) := by decide +kernel
theorem dX8_reckon_36 : decode cX8_reckon 36 = .ok (.ifCond .ge 7, 3) := by decide +kernel
theorem dX8_reckon_39 : decode cX8_reckon 39 = .ok (.ldc2_w 107, 3) := by decide +kernel
theorem dX8_reckon_42 : decode cX8_reckon 42 = .ok (.lreturn, 1) := by decide +kernel
theorem dX8_reckon_43 : decode cX8_reckon 43 = .ok (.aload_n 0, 1) := by decide +kernel
theorem dX8_reckon_44 : decode cX8_reckon 44 = .ok (.getfield 56, 3) := by decide +kernel
theorem dX8_reckon_47 : decode cX8_reckon 47 = .ok (.iload 4, 2) := by decide +kernel
theorem dX8_reckon_49 : decode cX8_reckon 49 = .ok (.laload, 1) := by decide +kernel
theorem dX8_reckon_50 : decode cX8_reckon 50 = .ok (.lload_n 2, 1) := by decide +kernel
theorem dX8_reckon_51 : decode cX8_reckon 51 = .ok (.lcmp, 1) := by decide +kernel
theorem dX8_reckon_52 : decode cX8_reckon 52 = .ok (.ifCond .le 13, 3) := by decide +kernel
theorem dX8_reckon_55 : decode cX8_reckon 55 = .ok (.aload_n 0, 1) := by decide +kernel
theorem dX8_reckon_56 : decode cX8_reckon 56 = .ok (.getfield 56, 3) := by decide +kernel
theorem dX8_reckon_59 : decode cX8_reckon 59 = .ok (.iload 4, 2) := by decide +kernel
theorem dX8_reckon_61 : decode cX8_reckon 61 = .ok (.laload, 1) := by decide +kernel
theorem dX8_reckon_62 : decode cX8_reckon 62 = .ok (.goto 4, 3) := by decide +kernel
theorem dX8_reckon_65 : decode cX8_reckon 65 = .ok (.lload_n 2, 1) := by decide +kernel
theorem dX8_reckon_66 : decode cX8_reckon 66 = .ok (.lstore_n 2, 1) := by decide +kernel
theorem dX8_reckon_67 : decode cX8_reckon 67 = .ok (.iinc 4 1, 3) := by decide +kernel
theorem dX8_reckon_70 : decode cX8_reckon 70 = .ok (.goto (-65), 3) := by decide +kernel
theorem dX8_reckon_73 : decode cX8_reckon 73 = .ok (.lload_n 2, 1) := by decide +kernel
theorem dX8_reckon_74 : decode cX8_reckon 74 = .ok (.aload_n 0, 1) := by decide +kernel
theorem dX8_reckon_75 : decode cX8_reckon 75 = .ok (.getfield 48, 3) := by decide +kernel
theorem dX8_reckon_78 : decode cX8_reckon 78 = .ok (.iload_n 1, 1) := by decide +kernel
theorem dX8_reckon_79 : decode cX8_reckon 79 = .ok (.laload, 1) := by decide +kernel
theorem dX8_reckon_80 : decode cX8_reckon 80 = .ok (.ladd, 1) := by decide +kernel
theorem dX8_reckon_81 : decode cX8_reckon 81 = .ok (.lreturn, 1) := by decide +kernel
set_option maxRecDepth 20000 in
theorem ggX8_depth_X8_reckon : GoodIn wsX8_depth wsX8_reckon := goodIn_r _ [9, 10, 3, 4, 11, 12, 13, 14, 15, 16, 17, 18, 19, 20, 21, 22, 23, 24, 25, 26, 27, 28, 29, 30, 31, 32, 33, 34, 35, 36] (by decide +kernel) (by decide +kernel)
set_option maxRecDepth 20000 in
theorem gX8_depth_X8_reckon : GoodIn wsX8_depth (wsV RX8 115 RX8 yX8_reckon wsX8_reckon) := goodIn_app (goodIn_of _ (by decide +kernel)) ggX8_depth_X8_reckon
theorem dX8_depth_0 : decode cX8_depth 0 = .ok (.aload_n 0, 1) := by decide +kernel
theorem dX8_depth_1 : decode cX8_depth 1 = .ok (.iconst 0, 1) := by decide +kernel
theorem dX8_depth_2 : decode cX8_depth 2 = .ok (.putfield 74, 3) := by decide +kernel
theorem dX8_depth_5 : decode cX8_depth 5 = .ok (.iload_n 1, 1) := by decide +kernel
theorem dX8_depth_6 : decode cX8_depth 6 = .ok (.iconst 1, 1) := by decide +kernel
theorem dX8_depth_7 : decode cX8_depth 7 = .ok (.if_icmp .lt 9, 3) := by decide +kernel
theorem dX8_depth_10 : decode cX8_depth 10 = .ok (.iload_n 1, 1) := by decide +kernel
theorem dX8_depth_11 : decode cX8_depth 11 = .ok (.bipush 30, 2) := by decide +kernel
theorem dX8_depth_13 : decode cX8_depth 13 = .ok (.if_icmp .le 7, 3) := by decide +kernel
theorem dX8_depth_16 : decode cX8_depth 16 = .ok (.ldc2_w 113, 3) := by decide +kernel
theorem dX8_depth_19 : decode cX8_depth 19 = .ok (.lreturn, 1) := by decide +kernel
theorem dX8_depth_20 : decode cX8_depth 20 = .ok (.iconst 1, 1) := by decide +kernel
theorem dX8_depth_21 : decode cX8_depth 21 = .ok (.istore_n 2, 1) := by decide +kernel
theorem dX8_depth_22 : decode cX8_depth 22 = .ok (.iload_n 2, 1) := by decide +kernel
theorem dX8_depth_23 : decode cX8_depth 23 = .ok (.bipush 30, 2) := by decide +kernel
theorem dX8_depth_25 : decode cX8_depth 25 = .ok (.if_icmp .gt 18, 3) := by decide +kernel
theorem dX8_depth_28 : decode cX8_depth 28 = .ok (.aload_n 0, 1) := by decide +kernel
theorem dX8_depth_29 : decode cX8_depth 29 = .ok (.getfield 56, 3) := by decide +kernel
theorem dX8_depth_32 : decode cX8_depth 32 = .ok (.iload_n 2, 1) := by decide +kernel
theorem dX8_depth_33 : decode cX8_depth 33 = .ok (.ldc2_w 107, 3) := by decide +kernel
theorem dX8_depth_36 : decode cX8_depth 36 = .ok (.lastore, 1) := by decide +kernel
theorem dX8_depth_37 : decode cX8_depth 37 = .ok (.iinc 2 1, 3) := by decide +kernel
theorem dX8_depth_40 : decode cX8_depth 40 = .ok (.goto (-18), 3) := by decide +kernel
theorem dX8_depth_43 : decode cX8_depth 43 = .ok (.iconst 0, 1) := by decide +kernel
theorem dX8_depth_44 : decode cX8_depth 44 = .ok (.istore_n 2, 1) := by decide +kernel
theorem dX8_depth_45 : decode cX8_depth 45 = .ok (.iload_n 2, 1) := by decide +kernel
theorem dX8_depth_46 : decode cX8_depth 46 = .ok (.bipush 30, 2) := by decide +kernel
theorem dX8_depth_48 : decode cX8_depth 48 = .ok (.if_icmp .ge 54, 3) := by decide +kernel
theorem dX8_depth_51 : decode cX8_depth 51 = .ok (.iconst 1, 1) := by decide +kernel
theorem dX8_depth_52 : decode cX8_depth 52 = .ok (.istore_n 3, 1) := by decide +kernel
theorem dX8_depth_53 : decode cX8_depth 53 = .ok (.iload_n 3, 1) := by decide +kernel
theorem dX8_depth_54 : decode cX8_depth 54 = .ok (.bipush 30, 2) := by decide +kernel
theorem dX8_depth_56 : decode cX8_depth 56 = .ok (.if_icmp .gt 40, 3) := by decide +kernel
theorem dX8_depth_59 : decode cX8_depth 59 = .ok (.aload_n 0, 1) := by decide +kernel
theorem dX8_depth_60 : decode cX8_depth 60 = .ok (.getfield 56, 3) := by decide +kernel
theorem dX8_depth_63 : decode cX8_depth 63 = .ok (.iload_n 3, 1) := by decide +kernel
theorem dX8_depth_64 : decode cX8_depth 64 = .ok (.aload_n 0, 1) := by decide +kernel
theorem dX8_depth_65 : decode cX8_depth 65 = .ok (.getfield 56, 3) := by decide +kernel
theorem dX8_depth_68 : decode cX8_depth 68 = .ok (.iload_n 3, 1) := by decide +kernel
theorem dX8_depth_69 : decode cX8_depth 69 = .ok (.laload, 1) := by decide +kernel
theorem dX8_depth_70 : decode cX8_depth 70 = .ok (.lconst 0, 1) := by decide +kernel
theorem dX8_depth_71 : decode cX8_depth 71 = .ok (.lcmp, 1) := by decide +kernel
theorem dX8_depth_72 : decode cX8_depth 72 = .ok (.ifCond .ge 11, 3) := by decide +kernel
theorem dX8_depth_75 : decode cX8_depth 75 = .ok (.aload_n 0, 1) := by decide +kernel
theorem dX8_depth_76 : decode cX8_depth 76 = .ok (.iload_n 3, 1) := by decide +kernel
theorem dX8_depth_77 : decode cX8_depth 77 = .ok (.invokevirtual 115, 3) := by decide +kernel
theorem dX8_depth_80 : decode cX8_depth 80 = .ok (.goto 9, 3) := by decide +kernel
theorem dX8_depth_83 : decode cX8_depth 83 = .ok (.aload_n 0, 1) := by decide +kernel
theorem dX8_depth_84 : decode cX8_depth 84 = .ok (.getfield 56, 3) := by decide +kernel
theorem dX8_depth_87 : decode cX8_depth 87 = .ok (.iload_n 3, 1) := by decide +kernel
theorem dX8_depth_88 : decode cX8_depth 88 = .ok (.laload, 1) := by decide +kernel
theorem dX8_depth_89 : decode cX8_depth 89 = .ok (.lastore, 1) := by decide +kernel
theorem dX8_depth_90 : decode cX8_depth 90 = .ok (.iinc 3 1, 3) := by decide +kernel
theorem dX8_depth_93 : decode cX8_depth 93 = .ok (.goto (-40), 3) := by decide +kernel
theorem dX8_depth_96 : decode cX8_depth 96 = .ok (.iinc 2 1, 3) := by decide +kernel
theorem dX8_depth_99 : decode cX8_depth 99 = .ok (.goto (-54), 3) := by decide +kernel
theorem dX8_depth_102 : decode cX8_depth 102 = .ok (.aload_n 0, 1) := by decide +kernel
theorem dX8_depth_103 : decode cX8_depth 103 = .ok (.getfield 56, 3) := by decide +kernel
theorem dX8_depth_106 : decode cX8_depth 106 = .ok (.iload_n 1, 1) := by decide +kernel
theorem dX8_depth_107 : decode cX8_depth 107 = .ok (.laload, 1) := by decide +kernel
theorem dX8_depth_108 : decode cX8_depth 108 = .ok (.lreturn, 1) := by decide +kernel
set_option maxRecDepth 20000 in
theorem ggX8_block_X8_sum : GoodIn wsX8_block wsX8_sum := goodIn_r _ [10, 4, 11, 12, 13, 14, 9, 15, 16, 17, 18, 19, 20, 21, 22, 23, 24, 25, 26, 27, 28, 29, 30, 31, 32, 33, 34, 35, 36, 37, 38, 39, 40] (by decide +kernel) (by decide +kernel)
set_option maxRecDepth 20000 in
theorem gX8_block_X8_sum : GoodIn wsX8_block (wsV RX8 124 RX8 yX8_sum wsX8_sum) := goodIn_app (goodIn_of _ (by decide +kernel)) ggX8_block_X8_sum
theorem dX8_block_0 : decode cX8_block 0 = .ok (.aload_n 0, 1) := by decide +kernel
theorem dX8_block_1 : decode cX8_block 1 = .ok (.iconst 0, 1) := by decide +kernel
theorem dX8_block_2 : decode cX8_block 2 = .ok (.putfield 74, 3) := by decide +kernel
theorem dX8_block_5 : decode cX8_block 5 = .ok (.lload_n 1, 1) := by decide +kernel
theorem dX8_block_6 : decode cX8_block 6 = .ok (.lconst 1, 1) := by decide +kernel
theorem dX8_block_7 : decode cX8_block 7 = .ok (.lcmp, 1) := by decide +kernel
theorem dX8_block_8 : decode cX8_block 8 = .ok (.ifCond .lt 11, 3) := by decide +kernel
theorem dX8_block_11 : decode cX8_block 11 = .ok (.lload_n 1, 1) := by decide +kernel
theorem dX8_block_12 : decode cX8_block 12 = .ok (.ldc2_w 119, 3) := by decide +kernel
theorem dX8_block_15 : decode cX8_block 15 = .ok (.lcmp, 1) := by decide +kernel
theorem dX8_block_16 : decode cX8_block 16 = .ok (.ifCond .le 6, 3) := by decide +kernel
theorem dX8_block_19 : decode cX8_block 19 = .ok (.bipush (-2), 2) := by decide +kernel
theorem dX8_block_21 : decode cX8_block 21 = .ok (.ireturn, 1) := by decide +kernel
theorem dX8_block_22 : decode cX8_block 22 = .ok (.aload_n 0, 1) := by decide +kernel
theorem dX8_block_23 : decode cX8_block 23 = .ok (.getfield 121, 3) := by decide +kernel
theorem dX8_block_26 : decode cX8_block 26 = .ok (.bipush 20, 2) := by decide +kernel
theorem dX8_block_28 : decode cX8_block 28 = .ok (.if_icmp .ne 6, 3) := by decide +kernel
theorem dX8_block_31 : decode cX8_block 31 = .ok (.bipush (-4), 2) := by decide +kernel
theorem dX8_block_33 : decode cX8_block 33 = .ok (.ireturn, 1) := by decide +kernel
theorem dX8_block_34 : decode cX8_block 34 = .ok (.aload_n 0, 1) := by decide +kernel
theorem dX8_block_35 : decode cX8_block 35 = .ok (.dup, 1) := by decide +kernel
theorem dX8_block_36 : decode cX8_block 36 = .ok (.getfield 121, 3) := by decide +kernel
theorem dX8_block_39 : decode cX8_block 39 = .ok (.iconst 1, 1) := by decide +kernel
theorem dX8_block_40 : decode cX8_block 40 = .ok (.iadd, 1) := by decide +kernel
theorem dX8_block_41 : decode cX8_block 41 = .ok (.putfield 121, 3) := by decide +kernel
theorem dX8_block_44 : decode cX8_block 44 = .ok (.aload_n 0, 1) := by decide +kernel
theorem dX8_block_45 : decode cX8_block 45 = .ok (.getfield 59, 3) := by decide +kernel
theorem dX8_block_48 : decode cX8_block 48 = .ok (.aload_n 0, 1) := by decide +kernel
theorem dX8_block_49 : decode cX8_block 49 = .ok (.getfield 121, 3) := by decide +kernel
theorem dX8_block_52 : decode cX8_block 52 = .ok (.lload_n 1, 1) := by decide +kernel
theorem dX8_block_53 : decode cX8_block 53 = .ok (.l2i, 1) := by decide +kernel
theorem dX8_block_54 : decode cX8_block 54 = .ok (.iastore, 1) := by decide +kernel
theorem dX8_block_55 : decode cX8_block 55 = .ok (.aload_n 0, 1) := by decide +kernel
theorem dX8_block_56 : decode cX8_block 56 = .ok (.getfield 65, 3) := by decide +kernel
theorem dX8_block_59 : decode cX8_block 59 = .ok (.iconst 2, 1) := by decide +kernel
theorem dX8_block_60 : decode cX8_block 60 = .ok (.aload_n 0, 1) := by decide +kernel
theorem dX8_block_61 : decode cX8_block 61 = .ok (.getfield 121, 3) := by decide +kernel
theorem dX8_block_64 : decode cX8_block 64 = .ok (.imul, 1) := by decide +kernel
theorem dX8_block_65 : decode cX8_block 65 = .ok (.aload_n 0, 1) := by decide +kernel
theorem dX8_block_66 : decode cX8_block 66 = .ok (.aload_n 0, 1) := by decide +kernel
theorem dX8_block_67 : decode cX8_block 67 = .ok (.getfield 121, 3) := by decide +kernel
theorem dX8_block_70 : decode cX8_block 70 = .ok (.iconst 0, 1) := by decide +kernel
theorem dX8_block_71 : decode cX8_block 71 = .ok (.invokevirtual 124, 3) := by decide +kernel
theorem dX8_block_74 : decode cX8_block 74 = .ok (.iastore, 1) := by decide +kernel
theorem dX8_block_75 : decode cX8_block 75 = .ok (.aload_n 0, 1) := by decide +kernel
theorem dX8_block_76 : decode cX8_block 76 = .ok (.getfield 65, 3) := by decide +kernel
theorem dX8_block_79 : decode cX8_block 79 = .ok (.iconst 2, 1) := by decide +kernel
theorem dX8_block_80 : decode cX8_block 80 = .ok (.aload_n 0, 1) := by decide +kernel
theorem dX8_block_81 : decode cX8_block 81 = .ok (.getfield 121, 3) := by decide +kernel
theorem dX8_block_84 : decode cX8_block 84 = .ok (.imul, 1) := by decide +kernel
theorem dX8_block_85 : decode cX8_block 85 = .ok (.iconst 1, 1) := by decide +kernel
theorem dX8_block_86 : decode cX8_block 86 = .ok (.iadd, 1) := by decide +kernel
theorem dX8_block_87 : decode cX8_block 87 = .ok (.aload_n 0, 1) := by decide +kernel
theorem dX8_block_88 : decode cX8_block 88 = .ok (.aload_n 0, 1) := by decide +kernel
theorem dX8_block_89 : decode cX8_block 89 = .ok (.getfield 121, 3) := by decide +kernel
theorem dX8_block_92 : decode cX8_block 92 = .ok (.iconst 1, 1) := by decide +kernel
theorem dX8_block_93 : decode cX8_block 93 = .ok (.invokevirtual 124, 3) := by decide +kernel
theorem dX8_block_96 : decode cX8_block 96 = .ok (.iastore, 1) := by decide +kernel
theorem dX8_block_97 : decode cX8_block 97 = .ok (.aload_n 0, 1) := by decide +kernel
theorem dX8_block_98 : decode cX8_block 98 = .ok (.getfield 121, 3) := by decide +kernel
theorem dX8_block_101 : decode cX8_block 101 = .ok (.ireturn, 1) := by decide +kernel
theorem dX8_cell__0 : decode cX8_cell_ 0 = .ok (.bipush 32, 2) := by decide +kernel
theorem dX8_cell__2 : decode cX8_cell_ 2 = .ok (.iconst 2, 1) := by decide +kernel
theorem dX8_cell__3 : decode cX8_cell_ 3 = .ok (.iload_n 0, 1) := by decide +kernel
theorem dX8_cell__4 : decode cX8_cell_ 4 = .ok (.imul, 1) := by decide +kernel
theorem dX8_cell__5 : decode cX8_cell_ 5 = .ok (.iload_n 1, 1) := by decide +kernel
theorem dX8_cell__6 : decode cX8_cell_ 6 = .ok (.iadd, 1) := by decide +kernel
theorem dX8_cell__7 : decode cX8_cell_ 7 = .ok (.imul, 1) := by decide +kernel
theorem dX8_cell__8 : decode cX8_cell_ 8 = .ok (.iload_n 2, 1) := by decide +kernel
theorem dX8_cell__9 : decode cX8_cell_ 9 = .ok (.iadd, 1) := by decide +kernel
theorem dX8_cell__10 : decode cX8_cell_ 10 = .ok (.ireturn, 1) := by decide +kernel
set_option maxRecDepth 20000 in
theorem ggX8_sum_X8_cell_ : GoodIn wsX8_sum wsX8_cell_ := goodIn_r _ [7] (by decide +kernel) (by decide +kernel)
set_option maxRecDepth 20000 in
theorem gX8_sum_X8_cell_ : GoodIn wsX8_sum (va_wsS RX8 127 yX8_cell_ wsX8_cell_) := goodIn_app (goodIn_of _ (by decide +kernel)) ggX8_sum_X8_cell_
theorem dX8_sum_0 : decode cX8_sum 0 = .ok (.iconst 1, 1) := by decide +kernel
theorem dX8_sum_1 : decode cX8_sum 1 = .ok (.istore_n 3, 1) := by decide +kernel
theorem dX8_sum_2 : decode cX8_sum 2 = .ok (.iconst 0, 1) := by decide +kernel
theorem dX8_sum_3 : decode cX8_sum 3 = .ok (.istore 4, 2) := by decide +kernel
theorem dX8_sum_5 : decode cX8_sum 5 = .ok (.iload 4, 2) := by decide +kernel
theorem dX8_sum_7 : decode cX8_sum 7 = .ok (.aload_n 0, 1) := by decide +kernel
theorem dX8_sum_8 : decode cX8_sum 8 = .ok (.getfield 59, 3) := by decide +kernel
theorem dX8_sum_11 : decode cX8_sum 11 = .ok (.iload_n 1, 1) := by decide +kernel
theorem dX8_sum_12 : decode cX8_sum 12 = .ok (.iaload, 1) := by decide +kernel
theorem dX8_sum_13 : decode cX8_sum 13 = .ok (.if_icmp .ge 43, 3) := by decide +kernel
theorem dX8_sum_16 : decode cX8_sum 16 = .ok (.iload_n 3, 1) := by decide +kernel
theorem dX8_sum_17 : decode cX8_sum 17 = .ok (.aload_n 0, 1) := by decide +kernel
theorem dX8_sum_18 : decode cX8_sum 18 = .ok (.getfield 62, 3) := by decide +kernel
theorem dX8_sum_21 : decode cX8_sum 21 = .ok (.iload_n 1, 1) := by decide +kernel
theorem dX8_sum_22 : decode cX8_sum 22 = .ok (.iload_n 2, 1) := by decide +kernel
theorem dX8_sum_23 : decode cX8_sum 23 = .ok (.iload 4, 2) := by decide +kernel
theorem dX8_sum_25 : decode cX8_sum 25 = .ok (.invokestatic 127, 3) := by decide +kernel
theorem dX8_sum_28 : decode cX8_sum 28 = .ok (.baload, 1) := by decide +kernel
theorem dX8_sum_29 : decode cX8_sum 29 = .ok (.sipush 255, 3) := by decide +kernel
theorem dX8_sum_32 : decode cX8_sum 32 = .ok (.iand, 1) := by decide +kernel
theorem dX8_sum_33 : decode cX8_sum 33 = .ok (.ixor, 1) := by decide +kernel
theorem dX8_sum_34 : decode cX8_sum 34 = .ok (.istore 5, 2) := by decide +kernel
theorem dX8_sum_36 : decode cX8_sum 36 = .ok (.iload 5, 2) := by decide +kernel
theorem dX8_sum_38 : decode cX8_sum 38 = .ok (.iconst 5, 1) := by decide +kernel
theorem dX8_sum_39 : decode cX8_sum 39 = .ok (.ishl, 1) := by decide +kernel
theorem dX8_sum_40 : decode cX8_sum 40 = .ok (.iload 5, 2) := by decide +kernel
theorem dX8_sum_42 : decode cX8_sum 42 = .ok (.bipush 27, 2) := by decide +kernel
theorem dX8_sum_44 : decode cX8_sum 44 = .ok (.iushr, 1) := by decide +kernel
theorem dX8_sum_45 : decode cX8_sum 45 = .ok (.ior, 1) := by decide +kernel
theorem dX8_sum_46 : decode cX8_sum 46 = .ok (.ldc 131, 2) := by decide +kernel
theorem dX8_sum_48 : decode cX8_sum 48 = .ok (.imul, 1) := by decide +kernel
theorem dX8_sum_49 : decode cX8_sum 49 = .ok (.istore_n 3, 1) := by decide +kernel
theorem dX8_sum_50 : decode cX8_sum 50 = .ok (.iinc 4 1, 3) := by decide +kernel
theorem dX8_sum_53 : decode cX8_sum 53 = .ok (.goto (-48), 3) := by decide +kernel
theorem dX8_sum_56 : decode cX8_sum 56 = .ok (.iload_n 3, 1) := by decide +kernel
theorem dX8_sum_57 : decode cX8_sum 57 = .ok (.ireturn, 1) := by decide +kernel
theorem dX8_noBlock_0 : decode cX8_noBlock 0 = .ok (.iload_n 1, 1) := by decide +kernel
theorem dX8_noBlock_1 : decode cX8_noBlock 1 = .ok (.iconst 1, 1) := by decide +kernel
theorem dX8_noBlock_2 : decode cX8_noBlock 2 = .ok (.if_icmp .lt 11, 3) := by decide +kernel
theorem dX8_noBlock_5 : decode cX8_noBlock 5 = .ok (.iload_n 1, 1) := by decide +kernel
theorem dX8_noBlock_6 : decode cX8_noBlock 6 = .ok (.aload_n 0, 1) := by decide +kernel
theorem dX8_noBlock_7 : decode cX8_noBlock 7 = .ok (.getfield 121, 3) := by decide +kernel
theorem dX8_noBlock_10 : decode cX8_noBlock 10 = .ok (.if_icmp .le 7, 3) := by decide +kernel
theorem dX8_noBlock_13 : decode cX8_noBlock 13 = .ok (.iconst 1, 1) := by decide +kernel
theorem dX8_noBlock_14 : decode cX8_noBlock 14 = .ok (.goto 4, 3) := by decide +kernel
theorem dX8_noBlock_17 : decode cX8_noBlock 17 = .ok (.iconst 0, 1) := by decide +kernel
theorem dX8_noBlock_18 : decode cX8_noBlock 18 = .ok (.ireturn, 1) := by decide +kernel
set_option maxRecDepth 20000 in
theorem ggX8_write_X8_noBlock : GoodIn wsX8_write wsX8_noBlock := goodIn_r _ [9, 10, 19, 20, 21, 22, 23, 24, 25, 26, 27, 28, 29, 30, 31, 32, 33, 34, 35, 36, 37, 38, 39, 40, 41, 42, 43] (by decide +kernel) (by decide +kernel)
set_option maxRecDepth 20000 in
theorem gX8_write_X8_noBlock : GoodIn wsX8_write (wsV RX8 132 RX8 yX8_noBlock wsX8_noBlock) := goodIn_app (goodIn_of _ (by decide +kernel)) ggX8_write_X8_noBlock
set_option maxRecDepth 20000 in
theorem ggX8_write_X8_cell_ : GoodIn wsX8_write wsX8_cell_ := goodIn_r _ [13] (by decide +kernel) (by decide +kernel)
set_option maxRecDepth 20000 in
theorem gX8_write_X8_cell_ : GoodIn wsX8_write (va_wsS RX8 127 yX8_cell_ wsX8_cell_) := goodIn_app (goodIn_of _ (by decide +kernel)) ggX8_write_X8_cell_
set_option maxRecDepth 20000 in
theorem ggX8_write_X8_sum : GoodIn wsX8_write wsX8_sum := goodIn_r _ [17, 2, 3, 18, 11, 12, 8, 13, 19, 20, 21, 22, 23, 24, 25, 26, 27, 28, 29, 30, 31, 32, 33, 34, 35, 36, 37, 38, 39, 40, 41, 42, 43] (by decide +kernel) (by decide +kernel)
set_option maxRecDepth 20000 in
theorem gX8_write_X8_sum : GoodIn wsX8_write (wsV RX8 124 RX8 yX8_sum wsX8_sum) := goodIn_app (goodIn_of _ (by decide +kernel)) ggX8_write_X8_sum
theorem dX8_write_0 : decode cX8_write 0 = .ok (.aload_n 0, 1) := by decide +kernel
theorem dX8_write_1 : decode cX8_write 1 = .ok (.iconst 0, 1) := by decide +kernel
theorem dX8_write_2 : decode cX8_write 2 = .ok (.putfield 74, 3) := by decide +kernel
theorem dX8_write_5 : decode cX8_write 5 = .ok (.aload_n 0, 1) := by decide +kernel
theorem dX8_write_6 : decode cX8_write 6 = .ok (.iload_n 1, 1) := by decide +kernel
theorem dX8_write_7 : decode cX8_write 7 = .ok (.invokevirtual 132, 3) := by decide +kernel
theorem dX8_write_10 : decode cX8_write 10 = .ok (.ifCond .eq 5, 3) := by decide +kernel
theorem dX8_write_13 : decode cX8_write 13 = .ok (.iconst (-1), 1) := by decide +kernel
theorem dX8_write_14 : decode cX8_write 14 = .ok (.ireturn, 1) := by decide +kernel
theorem dX8_write_15 : decode cX8_write 15 = .ok (.iload_n 2, 1) := by decide +kernel
theorem dX8_write_16 : decode cX8_write 16 = .ok (.ifCond .lt 13, 3) := by decide +kernel
theorem dX8_write_19 : decode cX8_write 19 = .ok (.iload_n 2, 1) := by decide +kernel
theorem dX8_write_20 : decode cX8_write 20 = .ok (.aload_n 0, 1) := by decide +kernel
theorem dX8_write_21 : decode cX8_write 21 = .ok (.getfield 59, 3) := by decide +kernel
theorem dX8_write_24 : decode cX8_write 24 = .ok (.iload_n 1, 1) := by decide +kernel
theorem dX8_write_25 : decode cX8_write 25 = .ok (.iaload, 1) := by decide +kernel
theorem dX8_write_26 : decode cX8_write 26 = .ok (.if_icmp .lt 6, 3) := by decide +kernel
theorem dX8_write_29 : decode cX8_write 29 = .ok (.bipush (-2), 2) := by decide +kernel
theorem dX8_write_31 : decode cX8_write 31 = .ok (.ireturn, 1) := by decide +kernel
theorem dX8_write_32 : decode cX8_write 32 = .ok (.iconst 0, 1) := by decide +kernel
theorem dX8_write_33 : decode cX8_write 33 = .ok (.istore 4, 2) := by decide +kernel
theorem dX8_write_35 : decode cX8_write 35 = .ok (.iload 4, 2) := by decide +kernel
theorem dX8_write_37 : decode cX8_write 37 = .ok (.iconst 2, 1) := by decide +kernel
theorem dX8_write_38 : decode cX8_write 38 = .ok (.if_icmp .ge 40, 3) := by decide +kernel
theorem dX8_write_41 : decode cX8_write 41 = .ok (.aload_n 0, 1) := by decide +kernel
theorem dX8_write_42 : decode cX8_write 42 = .ok (.getfield 62, 3) := by decide +kernel
theorem dX8_write_45 : decode cX8_write 45 = .ok (.iload_n 1, 1) := by decide +kernel
theorem dX8_write_46 : decode cX8_write 46 = .ok (.iload 4, 2) := by decide +kernel
theorem dX8_write_48 : decode cX8_write 48 = .ok (.iload_n 2, 1) := by decide +kernel
theorem dX8_write_49 : decode cX8_write 49 = .ok (.invokestatic 127, 3) := by decide +kernel
theorem dX8_write_52 : decode cX8_write 52 = .ok (.iload_n 3, 1) := by decide +kernel
theorem dX8_write_53 : decode cX8_write 53 = .ok (.bastore, 1) := by decide +kernel
theorem dX8_write_54 : decode cX8_write 54 = .ok (.aload_n 0, 1) := by decide +kernel
theorem dX8_write_55 : decode cX8_write 55 = .ok (.getfield 65, 3) := by decide +kernel
theorem dX8_write_58 : decode cX8_write 58 = .ok (.iconst 2, 1) := by decide +kernel
theorem dX8_write_59 : decode cX8_write 59 = .ok (.iload_n 1, 1) := by decide +kernel
theorem dX8_write_60 : decode cX8_write 60 = .ok (.imul, 1) := by decide +kernel
theorem dX8_write_61 : decode cX8_write 61 = .ok (.iload 4, 2) := by decide +kernel
theorem dX8_write_63 : decode cX8_write 63 = .ok (.iadd, 1) := by decide +kernel
theorem dX8_write_64 : decode cX8_write 64 = .ok (.aload_n 0, 1) := by decide +kernel
theorem dX8_write_65 : decode cX8_write 65 = .ok (.iload_n 1, 1) := by decide +kernel
theorem dX8_write_66 : decode cX8_write 66 = .ok (.iload 4, 2) := by decide +kernel
theorem dX8_write_68 : decode cX8_write 68 = .ok (.invokevirtual 124, 3) := by decide +kernel
theorem dX8_write_71 : decode cX8_write 71 = .ok (.iastore, 1) := by decide +kernel
theorem dX8_write_72 : decode cX8_write 72 = .ok (.iinc 4 1, 3) := by decide +kernel
theorem dX8_write_75 : decode cX8_write 75 = .ok (.goto (-40), 3) := by decide +kernel
theorem dX8_write_78 : decode cX8_write 78 = .ok (.iconst 1, 1) := by decide +kernel
theorem dX8_write_79 : decode cX8_write 79 = .ok (.ireturn, 1) := by decide +kernel
set_option maxRecDepth 20000 in
theorem ggX8_poke_X8_noBlock : GoodIn wsX8_poke wsX8_noBlock := goodIn_r _ [8, 9, 13, 14, 15, 16, 17, 18, 19, 20, 21, 22, 23, 24, 25, 26, 27, 28, 29, 30, 31, 32, 33, 34, 35, 36, 37] (by decide +kernel) (by decide +kernel)
set_option maxRecDepth 20000 in
theorem gX8_poke_X8_noBlock : GoodIn wsX8_poke (wsV RX8 132 RX8 yX8_noBlock wsX8_noBlock) := goodIn_app (goodIn_of _ (by decide +kernel)) ggX8_poke_X8_noBlock
set_option maxRecDepth 20000 in
theorem ggX8_poke_X8_cell_ : GoodIn wsX8_poke wsX8_cell_ := goodIn_r _ [12] (by decide +kernel) (by decide +kernel)
set_option maxRecDepth 20000 in
theorem gX8_poke_X8_cell_ : GoodIn wsX8_poke (va_wsS RX8 127 yX8_cell_ wsX8_cell_) := goodIn_app (goodIn_of _ (by decide +kernel)) ggX8_poke_X8_cell_
theorem dX8_poke_0 : decode cX8_poke 0 = .ok (.aload_n 0, 1) := by decide +kernel
theorem dX8_poke_1 : decode cX8_poke 1 = .ok (.iconst 0, 1) := by decide +kernel
theorem dX8_poke_2 : decode cX8_poke 2 = .ok (.putfield 74, 3) := by decide +kernel
theorem dX8_poke_5 : decode cX8_poke 5 = .ok (.aload_n 0, 1) := by decide +kernel
theorem dX8_poke_6 : decode cX8_poke 6 = .ok (.iload_n 1, 1) := by decide +kernel
theorem dX8_poke_7 : decode cX8_poke 7 = .ok (.invokevirtual 132, 3) := by decide +kernel
theorem dX8_poke_10 : decode cX8_poke 10 = .ok (.ifCond .ne 13, 3) := by decide +kernel
theorem dX8_poke_13 : decode cX8_poke 13 = .ok (.iload_n 2, 1) := by decide +kernel
theorem dX8_poke_14 : decode cX8_poke 14 = .ok (.iconst 1, 1) := by decide +kernel
theorem dX8_poke_15 : decode cX8_poke 15 = .ok (.if_icmp .lt 8, 3) := by decide +kernel
theorem dX8_poke_18 : decode cX8_poke 18 = .ok (.iload_n 2, 1) := by decide +kernel
theorem dX8_poke_19 : decode cX8_poke 19 = .ok (.iconst 2, 1) := by decide +kernel
theorem dX8_poke_20 : decode cX8_poke 20 = .ok (.if_icmp .le 5, 3) := by decide +kernel
theorem dX8_poke_23 : decode cX8_poke 23 = .ok (.iconst (-1), 1) := by decide +kernel
theorem dX8_poke_24 : decode cX8_poke 24 = .ok (.ireturn, 1) := by decide +kernel
theorem dX8_poke_25 : decode cX8_poke 25 = .ok (.iload_n 3, 1) := by decide +kernel
theorem dX8_poke_26 : decode cX8_poke 26 = .ok (.ifCond .lt 13, 3) := by decide +kernel
theorem dX8_poke_29 : decode cX8_poke 29 = .ok (.iload_n 3, 1) := by decide +kernel
theorem dX8_poke_30 : decode cX8_poke 30 = .ok (.aload_n 0, 1) := by decide +kernel
theorem dX8_poke_31 : decode cX8_poke 31 = .ok (.getfield 59, 3) := by decide +kernel
theorem dX8_poke_34 : decode cX8_poke 34 = .ok (.iload_n 1, 1) := by decide +kernel
theorem dX8_poke_35 : decode cX8_poke 35 = .ok (.iaload, 1) := by decide +kernel
theorem dX8_poke_36 : decode cX8_poke 36 = .ok (.if_icmp .lt 6, 3) := by decide +kernel
theorem dX8_poke_39 : decode cX8_poke 39 = .ok (.bipush (-2), 2) := by decide +kernel
theorem dX8_poke_41 : decode cX8_poke 41 = .ok (.ireturn, 1) := by decide +kernel
theorem dX8_poke_42 : decode cX8_poke 42 = .ok (.iload_n 1, 1) := by decide +kernel
theorem dX8_poke_43 : decode cX8_poke 43 = .ok (.iload_n 2, 1) := by decide +kernel
theorem dX8_poke_44 : decode cX8_poke 44 = .ok (.iconst 1, 1) := by decide +kernel
theorem dX8_poke_45 : decode cX8_poke 45 = .ok (.isub, 1) := by decide +kernel
theorem dX8_poke_46 : decode cX8_poke 46 = .ok (.iload_n 3, 1) := by decide +kernel
theorem dX8_poke_47 : decode cX8_poke 47 = .ok (.invokestatic 127, 3) := by decide +kernel
theorem dX8_poke_50 : decode cX8_poke 50 = .ok (.istore 5, 2) := by decide +kernel
theorem dX8_poke_52 : decode cX8_poke 52 = .ok (.aload_n 0, 1) := by decide +kernel
theorem dX8_poke_53 : decode cX8_poke 53 = .ok (.getfield 62, 3) := by decide +kernel
theorem dX8_poke_56 : decode cX8_poke 56 = .ok (.iload 5, 2) := by decide +kernel
theorem dX8_poke_58 : decode cX8_poke 58 = .ok (.aload_n 0, 1) := by decide +kernel
theorem dX8_poke_59 : decode cX8_poke 59 = .ok (.getfield 62, 3) := by decide +kernel
theorem dX8_poke_62 : decode cX8_poke 62 = .ok (.iload 5, 2) := by decide +kernel
theorem dX8_poke_64 : decode cX8_poke 64 = .ok (.baload, 1) := by decide +kernel
theorem dX8_poke_65 : decode cX8_poke 65 = .ok (.iload 4, 2) := by decide +kernel
theorem dX8_poke_67 : decode cX8_poke 67 = .ok (.ixor, 1) := by decide +kernel
theorem dX8_poke_68 : decode cX8_poke 68 = .ok (.i2b, 1) := by decide +kernel
theorem dX8_poke_69 : decode cX8_poke 69 = .ok (.bastore, 1) := by decide +kernel
theorem dX8_poke_70 : decode cX8_poke 70 = .ok (.aload_n 0, 1) := by decide +kernel
theorem dX8_poke_71 : decode cX8_poke 71 = .ok (.getfield 62, 3) := by decide +kernel
theorem dX8_poke_74 : decode cX8_poke 74 = .ok (.iload 5, 2) := by decide +kernel
theorem dX8_poke_76 : decode cX8_poke 76 = .ok (.baload, 1) := by decide +kernel
theorem dX8_poke_77 : decode cX8_poke 77 = .ok (.sipush 255, 3) := by decide +kernel
theorem dX8_poke_80 : decode cX8_poke 80 = .ok (.iand, 1) := by decide +kernel
theorem dX8_poke_81 : decode cX8_poke 81 = .ok (.ireturn, 1) := by decide +kernel
set_option maxRecDepth 20000 in
theorem ggX8_read_X8_noBlock : GoodIn wsX8_read wsX8_noBlock := goodIn_r _ [9, 10, 19, 20, 21, 22, 23, 24, 25, 26, 27, 28, 29, 30, 31, 32, 33, 34, 35, 36, 37, 38, 39, 40, 41, 42, 43] (by decide +kernel) (by decide +kernel)
set_option maxRecDepth 20000 in
theorem gX8_read_X8_noBlock : GoodIn wsX8_read (wsV RX8 132 RX8 yX8_noBlock wsX8_noBlock) := goodIn_app (goodIn_of _ (by decide +kernel)) ggX8_read_X8_noBlock
set_option maxRecDepth 20000 in
theorem ggX8_read_X8_sum : GoodIn wsX8_read wsX8_sum := goodIn_r _ [14, 3, 4, 15, 16, 17, 8, 18, 19, 20, 21, 22, 23, 24, 25, 26, 27, 28, 29, 30, 31, 32, 33, 34, 35, 36, 37, 38, 39, 40, 41, 42, 43] (by decide +kernel) (by decide +kernel)
set_option maxRecDepth 20000 in
theorem gX8_read_X8_sum : GoodIn wsX8_read (wsV RX8 124 RX8 yX8_sum wsX8_sum) := goodIn_app (goodIn_of _ (by decide +kernel)) ggX8_read_X8_sum
set_option maxRecDepth 20000 in
theorem ggX8_read_X8_cell_ : GoodIn wsX8_read wsX8_cell_ := goodIn_r _ [18] (by decide +kernel) (by decide +kernel)
set_option maxRecDepth 20000 in
theorem gX8_read_X8_cell_ : GoodIn wsX8_read (va_wsS RX8 127 yX8_cell_ wsX8_cell_) := goodIn_app (goodIn_of _ (by decide +kernel)) ggX8_read_X8_cell_
theorem dX8_read_0 : decode cX8_read 0 = .ok (.aload_n 0, 1) := by decide +kernel
theorem dX8_read_1 : decode cX8_read 1 = .ok (.iconst 0, 1) := by decide +kernel
theorem dX8_read_2 : decode cX8_read 2 = .ok (.putfield 74, 3) := by decide +kernel
theorem dX8_read_5 : decode cX8_read 5 = .ok (.aload_n 0, 1) := by decide +kernel
theorem dX8_read_6 : decode cX8_read 6 = .ok (.iload_n 1, 1) := by decide +kernel
theorem dX8_read_7 : decode cX8_read 7 = .ok (.invokevirtual 132, 3) := by decide +kernel
theorem dX8_read_10 : decode cX8_read 10 = .ok (.ifCond .eq 5, 3) := by decide +kernel
theorem dX8_read_13 : decode cX8_read 13 = .ok (.iconst (-1), 1) := by decide +kernel
theorem dX8_read_14 : decode cX8_read 14 = .ok (.ireturn, 1) := by decide +kernel
theorem dX8_read_15 : decode cX8_read 15 = .ok (.aload_n 0, 1) := by decide +kernel
theorem dX8_read_16 : decode cX8_read 16 = .ok (.getfield 65, 3) := by decide +kernel
theorem dX8_read_19 : decode cX8_read 19 = .ok (.iconst 2, 1) := by decide +kernel
theorem dX8_read_20 : decode cX8_read 20 = .ok (.iload_n 1, 1) := by decide +kernel
theorem dX8_read_21 : decode cX8_read 21 = .ok (.imul, 1) := by decide +kernel
theorem dX8_read_22 : decode cX8_read 22 = .ok (.iaload, 1) := by decide +kernel
theorem dX8_read_23 : decode cX8_read 23 = .ok (.aload_n 0, 1) := by decide +kernel
theorem dX8_read_24 : decode cX8_read 24 = .ok (.iload_n 1, 1) := by decide +kernel
theorem dX8_read_25 : decode cX8_read 25 = .ok (.iconst 0, 1) := by decide +kernel
theorem dX8_read_26 : decode cX8_read 26 = .ok (.invokevirtual 124, 3) := by decide +kernel
theorem dX8_read_29 : decode cX8_read 29 = .ok (.if_icmp .ne 7, 3) := by decide +kernel
theorem dX8_read_32 : decode cX8_read 32 = .ok (.iconst 1, 1) := by decide +kernel
theorem dX8_read_33 : decode cX8_read 33 = .ok (.goto 27, 3) := by decide +kernel
theorem dX8_read_36 : decode cX8_read 36 = .ok (.aload_n 0, 1) := by decide +kernel
theorem dX8_read_37 : decode cX8_read 37 = .ok (.getfield 65, 3) := by decide +kernel
theorem dX8_read_40 : decode cX8_read 40 = .ok (.iconst 2, 1) := by decide +kernel
theorem dX8_read_41 : decode cX8_read 41 = .ok (.iload_n 1, 1) := by decide +kernel
theorem dX8_read_42 : decode cX8_read 42 = .ok (.imul, 1) := by decide +kernel
theorem dX8_read_43 : decode cX8_read 43 = .ok (.iconst 1, 1) := by decide +kernel
theorem dX8_read_44 : decode cX8_read 44 = .ok (.iadd, 1) := by decide +kernel
theorem dX8_read_45 : decode cX8_read 45 = .ok (.iaload, 1) := by decide +kernel
theorem dX8_read_46 : decode cX8_read 46 = .ok (.aload_n 0, 1) := by decide +kernel
theorem dX8_read_47 : decode cX8_read 47 = .ok (.iload_n 1, 1) := by decide +kernel
theorem dX8_read_48 : decode cX8_read 48 = .ok (.iconst 1, 1) := by decide +kernel
theorem dX8_read_49 : decode cX8_read 49 = .ok (.invokevirtual 124, 3) := by decide +kernel
theorem dX8_read_52 : decode cX8_read 52 = .ok (.if_icmp .ne 7, 3) := by decide +kernel
theorem dX8_read_55 : decode cX8_read 55 = .ok (.iconst 2, 1) := by decide +kernel
theorem dX8_read_56 : decode cX8_read 56 = .ok (.goto 4, 3) := by decide +kernel
theorem dX8_read_59 : decode cX8_read 59 = .ok (.iconst 0, 1) := by decide +kernel
theorem dX8_read_60 : decode cX8_read 60 = .ok (.istore_n 2, 1) := by decide +kernel
theorem dX8_read_61 : decode cX8_read 61 = .ok (.iconst 0, 1) := by decide +kernel
theorem dX8_read_62 : decode cX8_read 62 = .ok (.istore_n 3, 1) := by decide +kernel
theorem dX8_read_63 : decode cX8_read 63 = .ok (.iload_n 3, 1) := by decide +kernel
theorem dX8_read_64 : decode cX8_read 64 = .ok (.aload_n 0, 1) := by decide +kernel
theorem dX8_read_65 : decode cX8_read 65 = .ok (.getfield 59, 3) := by decide +kernel
theorem dX8_read_68 : decode cX8_read 68 = .ok (.iload_n 1, 1) := by decide +kernel
theorem dX8_read_69 : decode cX8_read 69 = .ok (.iaload, 1) := by decide +kernel
theorem dX8_read_70 : decode cX8_read 70 = .ok (.if_icmp .ge 58, 3) := by decide +kernel
theorem dX8_read_73 : decode cX8_read 73 = .ok (.iload_n 2, 1) := by decide +kernel
theorem dX8_read_74 : decode cX8_read 74 = .ok (.ifCond .ne 7, 3) := by decide +kernel
theorem dX8_read_77 : decode cX8_read 77 = .ok (.iconst 0, 1) := by decide +kernel
theorem dX8_read_78 : decode cX8_read 78 = .ok (.goto 16, 3) := by decide +kernel
theorem dX8_read_81 : decode cX8_read 81 = .ok (.aload_n 0, 1) := by decide +kernel
theorem dX8_read_82 : decode cX8_read 82 = .ok (.getfield 62, 3) := by decide +kernel
theorem dX8_read_85 : decode cX8_read 85 = .ok (.iload_n 1, 1) := by decide +kernel
theorem dX8_read_86 : decode cX8_read 86 = .ok (.iload_n 2, 1) := by decide +kernel
theorem dX8_read_87 : decode cX8_read 87 = .ok (.iconst 1, 1) := by decide +kernel
theorem dX8_read_88 : decode cX8_read 88 = .ok (.isub, 1) := by decide +kernel
theorem dX8_read_89 : decode cX8_read 89 = .ok (.iload_n 3, 1) := by decide +kernel
theorem dX8_read_90 : decode cX8_read 90 = .ok (.invokestatic 127, 3) := by decide +kernel
theorem dX8_read_93 : decode cX8_read 93 = .ok (.baload, 1) := by decide +kernel
theorem dX8_read_94 : decode cX8_read 94 = .ok (.istore 4, 2) := by decide +kernel
theorem dX8_read_96 : decode cX8_read 96 = .ok (.aload_n 0, 1) := by decide +kernel
theorem dX8_read_97 : decode cX8_read 97 = .ok (.getfield 62, 3) := by decide +kernel
theorem dX8_read_100 : decode cX8_read 100 = .ok (.iload_n 1, 1) := by decide +kernel
theorem dX8_read_101 : decode cX8_read 101 = .ok (.iconst 0, 1) := by decide +kernel
theorem dX8_read_102 : decode cX8_read 102 = .ok (.iload_n 3, 1) := by decide +kernel
theorem dX8_read_103 : decode cX8_read 103 = .ok (.invokestatic 127, 3) := by decide +kernel
theorem dX8_read_106 : decode cX8_read 106 = .ok (.iload 4, 2) := by decide +kernel
theorem dX8_read_108 : decode cX8_read 108 = .ok (.bastore, 1) := by decide +kernel
theorem dX8_read_109 : decode cX8_read 109 = .ok (.aload_n 0, 1) := by decide +kernel
theorem dX8_read_110 : decode cX8_read 110 = .ok (.getfield 62, 3) := by decide +kernel
theorem dX8_read_113 : decode cX8_read 113 = .ok (.iload_n 1, 1) := by decide +kernel
theorem dX8_read_114 : decode cX8_read 114 = .ok (.iconst 1, 1) := by decide +kernel
theorem dX8_read_115 : decode cX8_read 115 = .ok (.iload_n 3, 1) := by decide +kernel
theorem dX8_read_116 : decode cX8_read 116 = .ok (.invokestatic 127, 3) := by decide +kernel
theorem dX8_read_119 : decode cX8_read 119 = .ok (.iload 4, 2) := by decide +kernel
theorem dX8_read_121 : decode cX8_read 121 = .ok (.bastore, 1) := by decide +kernel
theorem dX8_read_122 : decode cX8_read 122 = .ok (.iinc 3 1, 3) := by decide +kernel
theorem dX8_read_125 : decode cX8_read 125 = .ok (.goto (-62), 3) := by decide +kernel
theorem dX8_read_128 : decode cX8_read 128 = .ok (.aload_n 0, 1) := by decide +kernel
theorem dX8_read_129 : decode cX8_read 129 = .ok (.getfield 65, 3) := by decide +kernel
theorem dX8_read_132 : decode cX8_read 132 = .ok (.iconst 2, 1) := by decide +kernel
theorem dX8_read_133 : decode cX8_read 133 = .ok (.iload_n 1, 1) := by decide +kernel
theorem dX8_read_134 : decode cX8_read 134 = .ok (.imul, 1) := by decide +kernel
theorem dX8_read_135 : decode cX8_read 135 = .ok (.aload_n 0, 1) := by decide +kernel
theorem dX8_read_136 : decode cX8_read 136 = .ok (.iload_n 1, 1) := by decide +kernel
theorem dX8_read_137 : decode cX8_read 137 = .ok (.iconst 0, 1) := by decide +kernel
theorem dX8_read_138 : decode cX8_read 138 = .ok (.invokevirtual 124, 3) := by decide +kernel
theorem dX8_read_141 : decode cX8_read 141 = .ok (.iastore, 1) := by decide +kernel
theorem dX8_read_142 : decode cX8_read 142 = .ok (.aload_n 0, 1) := by decide +kernel
theorem dX8_read_143 : decode cX8_read 143 = .ok (.getfield 65, 3) := by decide +kernel
theorem dX8_read_146 : decode cX8_read 146 = .ok (.iconst 2, 1) := by decide +kernel
theorem dX8_read_147 : decode cX8_read 147 = .ok (.iload_n 1, 1) := by decide +kernel
theorem dX8_read_148 : decode cX8_read 148 = .ok (.imul, 1) := by decide +kernel
theorem dX8_read_149 : decode cX8_read 149 = .ok (.iconst 1, 1) := by decide +kernel
theorem dX8_read_150 : decode cX8_read 150 = .ok (.iadd, 1) := by decide +kernel
theorem dX8_read_151 : decode cX8_read 151 = .ok (.aload_n 0, 1) := by decide +kernel
theorem dX8_read_152 : decode cX8_read 152 = .ok (.iload_n 1, 1) := by decide +kernel
theorem dX8_read_153 : decode cX8_read 153 = .ok (.iconst 1, 1) := by decide +kernel
theorem dX8_read_154 : decode cX8_read 154 = .ok (.invokevirtual 124, 3) := by decide +kernel
theorem dX8_read_157 : decode cX8_read 157 = .ok (.iastore, 1) := by decide +kernel
theorem dX8_read_158 : decode cX8_read 158 = .ok (.iload_n 2, 1) := by decide +kernel
theorem dX8_read_159 : decode cX8_read 159 = .ok (.ireturn, 1) := by decide +kernel
end
section
/-! my own rows: numbers as Nat, calls in one row, loops -/
def nF (g : Nat → Nat) : Nat → Int32 := fun k => nI (g k)
theorem nF_at {g : Nat → Nat} {i : Nat} (h : i < 2 ^ 31) : nF g (nI i).toNatClampNeg = nI (g i) := by rw [nI_clamp h]; rfl
theorem nF_upd {g : Nat → Nat} {k x : Nat} : upd (nF g) k (nI x) = nF (va_up g k x) := by
  funext j
  simp only [upd, nF, va_up]
  split <;> rfl
theorem nF_0 : (fun _ => (0 : Int32)) = nF (fun _ => 0) := rfl
def lF (g : Nat → Nat) : Nat → Int64 := fun k => lN (g k)
theorem lF_at {g : Nat → Nat} {i : Nat} (h : i < 2 ^ 31) : lF g (nI i).toNatClampNeg = lN (g i) := by rw [nI_clamp h]; rfl
theorem lF_upd {g : Nat → Nat} {k x : Nat} : vp_updL (lF g) k (lN x) = lF (va_up g k x) := by
  funext j
  simp only [vp_updL, lF, va_up]
  split <;> rfl
theorem r_inc1 (i : Nat) : nI i + Int32.ofInt 1 = nI (i + 1) := nI_1 i
theorem r_dec1 {i : Nat} (h : 0 < i) : nI i + Int32.ofInt (-1) = nI (i - 1) := sb_m1 h
section RR
variable {p : Program} {l : Launch} {e : Env} {R : Room} {s : State} {m : MethodId} {args : Array Value} {below : List Frame} {meth : Method} {c : Code} {H : Heap} {locs : List Loc} {cells slots : Nat} {Q : State → Prop}
variable {cc : ByteArray} {pc : Nat} {ls : Array Slot} {rest : List Value} {D : va_G} {cl : List vw_C} {A : Nat → Prop} {a : Nat} {tys : List (ClassId × FieldType)} {ws : va_W} {H0 : Heap}
-- arithmetic
theorem r_iadd (hx : p.tables.exec = Jvm.exec) (hb : c.code = cc) {x y : Nat} (hdg : decode cc pc = .ok (.iadd, 1)) (k : W p l e R s m args below meth c H locs cells slots Q (F0 m (pc + 1) ls (.int (nI (x + y)) :: rest))) : W p l e R s m args below meth c H locs cells slots Q (F0 m pc ls (.int (nI y) :: .int (nI x) :: rest)) :=
  lv_iadd hx hb hdg (by rw [nI_add]; exact k)
theorem r_isub (hx : p.tables.exec = Jvm.exec) (hb : c.code = cc) {x y : Nat} (h : y ≤ x) (hdg : decode cc pc = .ok (.isub, 1)) (k : W p l e R s m args below meth c H locs cells slots Q (F0 m (pc + 1) ls (.int (nI (x - y)) :: rest))) : W p l e R s m args below meth c H locs cells slots Q (F0 m pc ls (.int (nI y) :: .int (nI x) :: rest)) :=
  lv_isub hx hb hdg (by rw [pk_sub h]; exact k)
theorem r_imul (hx : p.tables.exec = Jvm.exec) (hb : c.code = cc) {x y : Nat} (hdg : decode cc pc = .ok (.imul, 1)) (k : W p l e R s m args below meth c H locs cells slots Q (F0 m (pc + 1) ls (.int (nI (x * y)) :: rest))) : W p l e R s m args below meth c H locs cells slots Q (F0 m pc ls (.int (nI y) :: .int (nI x) :: rest)) :=
  lv_imul hx hb hdg (by rw [pk_mul]; exact k)
theorem r_idiv (hx : p.tables.exec = Jvm.exec) (hb : c.code = cc) {x y : Nat} (h1 : x < 2 ^ 31) (h2 : 0 < y) (h3 : y < 2 ^ 31) (hdg : decode cc pc = .ok (.idiv, 1)) (k : W p l e R s m args below meth c H locs cells slots Q (F0 m (pc + 1) ls (.int (nI (x / y)) :: rest))) : W p l e R s m args below meth c H locs cells slots Q (F0 m pc ls (.int (nI y) :: .int (nI x) :: rest)) :=
  lv_idiv hx hb hdg (nI_ne0 h2 h3) (by rw [pk_div h1 h2 h3]; exact k)
-- compares of two numbers
theorem r_icmp_lt (hx : p.tables.exec = Jvm.exec) (hb : c.code = cc) {x y : Nat} {off : Int} {tgt : Nat} (h1 : x < 2 ^ 31) (h2 : y < 2 ^ 31) (hdg : decode cc pc = .ok (.if_icmp .lt off, 3)) (ht : (pc : Int) + off = (tgt : Int))
    (kt : x < y → W p l e R s m args below meth c H locs cells slots Q (F0 m tgt ls rest)) (kf : y ≤ x → W p l e R s m args below meth c H locs cells slots Q (F0 m (pc + 3) ls rest)) : W p l e R s m args below meth c H locs cells slots Q (F0 m pc ls (.int (nI y) :: .int (nI x) :: rest)) :=
  lv_icmp_lt hx hb hdg ht (fun h => kt ((nI_ltI h1 h2).mp h)) (fun h => kf (Nat.le_of_not_lt fun q => h ((nI_ltI h1 h2).mpr q)))
theorem r_icmp_ge (hx : p.tables.exec = Jvm.exec) (hb : c.code = cc) {x y : Nat} {off : Int} {tgt : Nat} (h1 : x < 2 ^ 31) (h2 : y < 2 ^ 31) (hdg : decode cc pc = .ok (.if_icmp .ge off, 3)) (ht : (pc : Int) + off = (tgt : Int))
    (kt : y ≤ x → W p l e R s m args below meth c H locs cells slots Q (F0 m tgt ls rest)) (kf : x < y → W p l e R s m args below meth c H locs cells slots Q (F0 m (pc + 3) ls rest)) : W p l e R s m args below meth c H locs cells slots Q (F0 m pc ls (.int (nI y) :: .int (nI x) :: rest)) :=
  lv_icmp_ge hx hb hdg ht (fun h => kt ((nI_leI h2 h1).mp h)) (fun h => kf (Nat.lt_of_not_le fun q => h ((nI_leI h2 h1).mpr q)))
theorem r_icmp_gt (hx : p.tables.exec = Jvm.exec) (hb : c.code = cc) {x y : Nat} {off : Int} {tgt : Nat} (h1 : x < 2 ^ 31) (h2 : y < 2 ^ 31) (hdg : decode cc pc = .ok (.if_icmp .gt off, 3)) (ht : (pc : Int) + off = (tgt : Int))
    (kt : y < x → W p l e R s m args below meth c H locs cells slots Q (F0 m tgt ls rest)) (kf : x ≤ y → W p l e R s m args below meth c H locs cells slots Q (F0 m (pc + 3) ls rest)) : W p l e R s m args below meth c H locs cells slots Q (F0 m pc ls (.int (nI y) :: .int (nI x) :: rest)) :=
  lv_icmp_gt hx hb hdg ht (fun h => kt ((nI_ltI h2 h1).mp h)) (fun h => kf (Nat.le_of_not_lt fun q => h ((nI_ltI h2 h1).mpr q)))
theorem r_icmp_le (hx : p.tables.exec = Jvm.exec) (hb : c.code = cc) {x y : Nat} {off : Int} {tgt : Nat} (h1 : x < 2 ^ 31) (h2 : y < 2 ^ 31) (hdg : decode cc pc = .ok (.if_icmp .le off, 3)) (ht : (pc : Int) + off = (tgt : Int))
    (kt : x ≤ y → W p l e R s m args below meth c H locs cells slots Q (F0 m tgt ls rest)) (kf : y < x → W p l e R s m args below meth c H locs cells slots Q (F0 m (pc + 3) ls rest)) : W p l e R s m args below meth c H locs cells slots Q (F0 m pc ls (.int (nI y) :: .int (nI x) :: rest)) :=
  lv_icmp_le hx hb hdg ht (fun h => kt ((nI_leI h1 h2).mp h)) (fun h => kf (Nat.lt_of_not_le fun q => h ((nI_leI h1 h2).mpr q)))
theorem r_icmp_eq (hx : p.tables.exec = Jvm.exec) (hb : c.code = cc) {x y : Nat} {off : Int} {tgt : Nat} (h1 : x < 2 ^ 31) (h2 : y < 2 ^ 31) (hdg : decode cc pc = .ok (.if_icmp .eq off, 3)) (ht : (pc : Int) + off = (tgt : Int))
    (kt : x = y → W p l e R s m args below meth c H locs cells slots Q (F0 m tgt ls rest)) (kf : x ≠ y → W p l e R s m args below meth c H locs cells slots Q (F0 m (pc + 3) ls rest)) : W p l e R s m args below meth c H locs cells slots Q (F0 m pc ls (.int (nI y) :: .int (nI x) :: rest)) :=
  lv_icmp_eq hx hb hdg ht (fun h => kt ((nI_eq h1 h2).mp h)) (fun h => kf (fun q => h ((nI_eq h1 h2).mpr q)))
theorem r_icmp_ne (hx : p.tables.exec = Jvm.exec) (hb : c.code = cc) {x y : Nat} {off : Int} {tgt : Nat} (h1 : x < 2 ^ 31) (h2 : y < 2 ^ 31) (hdg : decode cc pc = .ok (.if_icmp .ne off, 3)) (ht : (pc : Int) + off = (tgt : Int))
    (kt : x ≠ y → W p l e R s m args below meth c H locs cells slots Q (F0 m tgt ls rest)) (kf : x = y → W p l e R s m args below meth c H locs cells slots Q (F0 m (pc + 3) ls rest)) : W p l e R s m args below meth c H locs cells slots Q (F0 m pc ls (.int (nI y) :: .int (nI x) :: rest)) :=
  lv_icmp_ne hx hb hdg ht (fun h => kt (fun q => h ((nI_eq h1 h2).mpr q))) (fun h => kf ((nI_eq h1 h2).mp h))
-- a number against 0
theorem r_if_eq (hx : p.tables.exec = Jvm.exec) (hb : c.code = cc) {x : Nat} {off : Int} {tgt : Nat} (h1 : x < 2 ^ 31) (hdg : decode cc pc = .ok (.ifCond .eq off, 3)) (ht : (pc : Int) + off = (tgt : Int))
    (kt : x = 0 → W p l e R s m args below meth c H locs cells slots Q (F0 m tgt ls rest)) (kf : 0 < x → W p l e R s m args below meth c H locs cells slots Q (F0 m (pc + 3) ls rest)) : W p l e R s m args below meth c H locs cells slots Q (F0 m pc ls (.int (nI x) :: rest)) :=
  lv_if_eq hx hb hdg ht (fun h => kt ((nI_eq h1 (by decide)).mp (h.trans nI_0.symm))) (fun h => kf (Nat.pos_of_ne_zero fun q => h (by rw [q]; exact nI_0)))
theorem r_if_ne (hx : p.tables.exec = Jvm.exec) (hb : c.code = cc) {x : Nat} {off : Int} {tgt : Nat} (h1 : x < 2 ^ 31) (hdg : decode cc pc = .ok (.ifCond .ne off, 3)) (ht : (pc : Int) + off = (tgt : Int))
    (kt : 0 < x → W p l e R s m args below meth c H locs cells slots Q (F0 m tgt ls rest)) (kf : x = 0 → W p l e R s m args below meth c H locs cells slots Q (F0 m (pc + 3) ls rest)) : W p l e R s m args below meth c H locs cells slots Q (F0 m pc ls (.int (nI x) :: rest)) :=
  lv_if_ne hx hb hdg ht (fun h => kt (Nat.pos_of_ne_zero fun q => h (by rw [q]; exact nI_0))) (fun h => kf ((nI_eq h1 (by decide)).mp (h.trans nI_0.symm)))
theorem r_if_le (hx : p.tables.exec = Jvm.exec) (hb : c.code = cc) {x : Nat} {off : Int} {tgt : Nat} (h1 : x < 2 ^ 31) (hdg : decode cc pc = .ok (.ifCond .le off, 3)) (ht : (pc : Int) + off = (tgt : Int))
    (kt : x = 0 → W p l e R s m args below meth c H locs cells slots Q (F0 m tgt ls rest)) (kf : 0 < x → W p l e R s m args below meth c H locs cells slots Q (F0 m (pc + 3) ls rest)) : W p l e R s m args below meth c H locs cells slots Q (F0 m pc ls (.int (nI x) :: rest)) :=
  lv_if_le hx hb hdg ht (fun h => kt (Nat.eq_zero_of_not_pos fun q => nI_nle q h1 h)) (fun h => kf (Nat.pos_of_ne_zero fun q => h (by rw [q, nI_0]; decide)))
theorem r_if_ge (hx : p.tables.exec = Jvm.exec) (hb : c.code = cc) {x : Nat} {off : Int} {tgt : Nat} (h1 : x < 2 ^ 31) (hdg : decode cc pc = .ok (.ifCond .ge off, 3)) (ht : (pc : Int) + off = (tgt : Int))
    (kt : W p l e R s m args below meth c H locs cells slots Q (F0 m tgt ls rest)) : W p l e R s m args below meth c H locs cells slots Q (F0 m pc ls (.int (nI x) :: rest)) :=
  lv_if_ge hx hb hdg ht (fun _ => kt) (fun h => absurd (nI_pos' h1) h)
theorem r_if_lt (hx : p.tables.exec = Jvm.exec) (hb : c.code = cc) {x : Nat} {off : Int} {tgt : Nat} (h1 : x < 2 ^ 31) (hdg : decode cc pc = .ok (.ifCond .lt off, 3)) (ht : (pc : Int) + off = (tgt : Int))
    (kf : W p l e R s m args below meth c H locs cells slots Q (F0 m (pc + 3) ls rest)) : W p l e R s m args below meth c H locs cells slots Q (F0 m pc ls (.int (nI x) :: rest)) :=
  lv_if_lt hx hb hdg ht (fun h => absurd h (nI_pos h1)) (fun _ => kf)
-- int arrays whose contents are numbers
theorem r_iald (hx : p.tables.exec = Jvm.exec) (hb : c.code = cc) (hK : va_K D cl tys s) (hP : va_P D cl ws H) (q0 t0 : Nat) {cA : ClassId} {n : Nat} {g : Nat → Nat} (ha : ws[q0]? = some (a, .inl (cA, n, .inl (nF g)))) (ht : tys[t0]? = some (cA, .int)) {i : Nat} (hi : i < n) (hn : n < 2 ^ 31) (hdg : decode cc pc = .ok (.iaload, 1))
    (kk : W p l e R s m args below meth c H locs cells slots Q (F0 m (pc + 1) ls (.int (nI (g i)) :: rest))) : W p l e R s m args below meth c H locs cells slots Q (F0 m pc ls (.int (nI i) :: .ref a :: rest)) :=
  va_iald hx hb hK hP q0 t0 ha ht (vp_in_nI hi hn) hdg (by rw [nF_at (Nat.lt_trans hi hn)]; exact kk)
theorem r_iast (hx : p.tables.exec = Jvm.exec) (hb : c.code = cc) (hK : va_K D cl tys s) (hP : va_P D cl ws H) (hD : va_D A ws) (hS : va_S A H0 H locs) (q0 t0 : Nat) {cA : ClassId} {n : Nat} {g : Nat → Nat} (ha : ws[q0]? = some (a, .inl (cA, n, .inl (nF g)))) (ht : tys[t0]? = some (cA, .int)) {i x : Nat} (hi : i < n) (hn : n < 2 ^ 31) (hdg : decode cc pc = .ok (.iastore, 1))
    (kk : ∀ (H1 : Heap) (locs1 : List Loc), va_P D cl (ws.set q0 (a, .inl (cA, n, .inl (nF (va_up g i x))))) H1 → va_D A (ws.set q0 (a, .inl (cA, n, .inl (nF (va_up g i x))))) → va_S A H0 H1 locs1 → W p l e R s m args below meth c H1 locs1 cells slots Q (F0 m (pc + 1) ls rest)) : W p l e R s m args below meth c H locs cells slots Q (F0 m pc ls (.int (nI x) :: .int (nI i) :: .ref a :: rest)) :=
  va_iast hx hb hK hP hD hS q0 t0 ha ht (vp_in_nI hi hn) hdg (by rw [nI_clamp (Nat.lt_trans hi hn), nF_upd]; exact kk)
/-- an int array of plain ints, at a number -/
theorem r_ialdI (hx : p.tables.exec = Jvm.exec) (hb : c.code = cc) (hK : va_K D cl tys s) (hP : va_P D cl ws H) (q0 t0 : Nat) {cA : ClassId} {n : Nat} {f : Nat → Int32} (ha : ws[q0]? = some (a, .inl (cA, n, .inl f))) (ht : tys[t0]? = some (cA, .int)) {i : Nat} (hi : i < n) (hn : n < 2 ^ 31) (hdg : decode cc pc = .ok (.iaload, 1))
    (kk : W p l e R s m args below meth c H locs cells slots Q (F0 m (pc + 1) ls (.int (f i) :: rest))) : W p l e R s m args below meth c H locs cells slots Q (F0 m pc ls (.int (nI i) :: .ref a :: rest)) :=
  va_iald hx hb hK hP q0 t0 ha ht (vp_in_nI hi hn) hdg (by rw [nI_clamp (Nat.lt_trans hi hn)]; exact kk)
theorem r_iastI (hx : p.tables.exec = Jvm.exec) (hb : c.code = cc) (hK : va_K D cl tys s) (hP : va_P D cl ws H) (hD : va_D A ws) (hS : va_S A H0 H locs) (q0 t0 : Nat) {cA : ClassId} {n : Nat} {f : Nat → Int32} (ha : ws[q0]? = some (a, .inl (cA, n, .inl f))) (ht : tys[t0]? = some (cA, .int)) {i : Nat} {x : Int32} (hi : i < n) (hn : n < 2 ^ 31) (hdg : decode cc pc = .ok (.iastore, 1))
    (kk : ∀ (H1 : Heap) (locs1 : List Loc), va_P D cl (ws.set q0 (a, .inl (cA, n, .inl (upd f i x)))) H1 → va_D A (ws.set q0 (a, .inl (cA, n, .inl (upd f i x)))) → va_S A H0 H1 locs1 → W p l e R s m args below meth c H1 locs1 cells slots Q (F0 m (pc + 1) ls rest)) : W p l e R s m args below meth c H locs cells slots Q (F0 m pc ls (.int x :: .int (nI i) :: .ref a :: rest)) :=
  va_iast hx hb hK hP hD hS q0 t0 ha ht (vp_in_nI hi hn) hdg (by rw [nI_clamp (Nat.lt_trans hi hn)]; exact kk)
theorem r_baldI (hx : p.tables.exec = Jvm.exec) (hb : c.code = cc) (hK : va_K D cl tys s) (hP : va_P D cl ws H) (q0 t0 : Nat) {cA : ClassId} {n : Nat} {f : Nat → Int32} (ha : ws[q0]? = some (a, .inl (cA, n, .inl f))) (ht : tys[t0]? = some (cA, .byte)) {i : Nat} (hi : i < n) (hn : n < 2 ^ 31) (hdg : decode cc pc = .ok (.baload, 1))
    (kk : W p l e R s m args below meth c H locs cells slots Q (F0 m (pc + 1) ls (.int (f i) :: rest))) : W p l e R s m args below meth c H locs cells slots Q (F0 m pc ls (.int (nI i) :: .ref a :: rest)) :=
  va_bald hx hb hK hP q0 t0 ha ht (vp_in_nI hi hn) hdg (by rw [nI_clamp (Nat.lt_trans hi hn)]; exact kk)
theorem r_bastI (hx : p.tables.exec = Jvm.exec) (hb : c.code = cc) (hK : va_K D cl tys s) (hP : va_P D cl ws H) (hD : va_D A ws) (hS : va_S A H0 H locs) (q0 t0 : Nat) {cA : ClassId} {n : Nat} {f : Nat → Int32} (ha : ws[q0]? = some (a, .inl (cA, n, .inl f))) (ht : tys[t0]? = some (cA, .byte)) {i : Nat} {x : Int32} (hi : i < n) (hn : n < 2 ^ 31) (hdg : decode cc pc = .ok (.bastore, 1))
    (kk : ∀ (H1 : Heap) (locs1 : List Loc), va_P D cl (ws.set q0 (a, .inl (cA, n, .inl (upd f i (x.toInt8.toInt32))))) H1 → va_D A (ws.set q0 (a, .inl (cA, n, .inl (upd f i (x.toInt8.toInt32))))) → va_S A H0 H1 locs1 → W p l e R s m args below meth c H1 locs1 cells slots Q (F0 m (pc + 1) ls rest)) : W p l e R s m args below meth c H locs cells slots Q (F0 m pc ls (.int x :: .int (nI i) :: .ref a :: rest)) :=
  va_bast hx hb hK hP hD hS q0 t0 ha ht (vp_in_nI hi hn) hdg (by rw [nI_clamp (Nat.lt_trans hi hn), vp_nar_byte]; exact kk)
-- longs: lcmp with the branch behind it
theorem r_l_lt (hx : p.tables.exec = Jvm.exec) (hb : c.code = cc) {x y : Int64} {off : Int} {tgt : Nat} (hdg : decode cc pc = .ok (.lcmp, 1)) (hd2 : decode cc (pc + 1) = .ok (.ifCond .lt off, 3)) (ht : ((pc + 1 : Nat) : Int) + off = (tgt : Int))
    (kt : x < y → W p l e R s m args below meth c H locs cells slots Q (F0 m tgt ls rest)) (kf : ¬ x < y → W p l e R s m args below meth c H locs cells slots Q (F0 m (pc + 4) ls rest)) : W p l e R s m args below meth c H locs cells slots Q (F0 m pc ls (.long y :: .long x :: rest)) :=
  W.lcmp hx hb hdg (lv_if_lt (tgt := tgt) hx hb hd2 ht (fun h => kt ((lg_cmp_lt _ _).mp h)) (fun h => kf (fun q => h ((lg_cmp_lt _ _).mpr q))))
theorem r_l_gt (hx : p.tables.exec = Jvm.exec) (hb : c.code = cc) {x y : Int64} {off : Int} {tgt : Nat} (hdg : decode cc pc = .ok (.lcmp, 1)) (hd2 : decode cc (pc + 1) = .ok (.ifCond .gt off, 3)) (ht : ((pc + 1 : Nat) : Int) + off = (tgt : Int))
    (kt : y < x → W p l e R s m args below meth c H locs cells slots Q (F0 m tgt ls rest)) (kf : ¬ y < x → W p l e R s m args below meth c H locs cells slots Q (F0 m (pc + 4) ls rest)) : W p l e R s m args below meth c H locs cells slots Q (F0 m pc ls (.long y :: .long x :: rest)) :=
  W.lcmp hx hb hdg (lv_if_gt (tgt := tgt) hx hb hd2 ht (fun h => kt ((lg_cmp_gt _ _).mp h)) (fun h => kf (fun q => h ((lg_cmp_gt _ _).mpr q))))
theorem r_l_ge (hx : p.tables.exec = Jvm.exec) (hb : c.code = cc) {x y : Int64} {off : Int} {tgt : Nat} (hdg : decode cc pc = .ok (.lcmp, 1)) (hd2 : decode cc (pc + 1) = .ok (.ifCond .ge off, 3)) (ht : ((pc + 1 : Nat) : Int) + off = (tgt : Int))
    (kt : y ≤ x → W p l e R s m args below meth c H locs cells slots Q (F0 m tgt ls rest)) (kf : ¬ y ≤ x → W p l e R s m args below meth c H locs cells slots Q (F0 m (pc + 4) ls rest)) : W p l e R s m args below meth c H locs cells slots Q (F0 m pc ls (.long y :: .long x :: rest)) :=
  W.lcmp hx hb hdg (lv_if_ge (tgt := tgt) hx hb hd2 ht (fun h => kt ((lg_cmp_ge _ _).mp h)) (fun h => kf (fun q => h ((lg_cmp_ge _ _).mpr q))))
theorem r_l_le (hx : p.tables.exec = Jvm.exec) (hb : c.code = cc) {x y : Int64} {off : Int} {tgt : Nat} (hdg : decode cc pc = .ok (.lcmp, 1)) (hd2 : decode cc (pc + 1) = .ok (.ifCond .le off, 3)) (ht : ((pc + 1 : Nat) : Int) + off = (tgt : Int))
    (kt : x ≤ y → W p l e R s m args below meth c H locs cells slots Q (F0 m tgt ls rest)) (kf : ¬ x ≤ y → W p l e R s m args below meth c H locs cells slots Q (F0 m (pc + 4) ls rest)) : W p l e R s m args below meth c H locs cells slots Q (F0 m pc ls (.long y :: .long x :: rest)) :=
  W.lcmp hx hb hdg (lv_if_le (tgt := tgt) hx hb hd2 ht (fun h => kt ((lg_cmp_le _ _).mp h)) (fun h => kf (fun q => h ((lg_cmp_le _ _).mpr q))))
theorem r_l_eq (hx : p.tables.exec = Jvm.exec) (hb : c.code = cc) {x y : Int64} {off : Int} {tgt : Nat} (hdg : decode cc pc = .ok (.lcmp, 1)) (hd2 : decode cc (pc + 1) = .ok (.ifCond .eq off, 3)) (ht : ((pc + 1 : Nat) : Int) + off = (tgt : Int))
    (kt : x = y → W p l e R s m args below meth c H locs cells slots Q (F0 m tgt ls rest)) (kf : ¬ x = y → W p l e R s m args below meth c H locs cells slots Q (F0 m (pc + 4) ls rest)) : W p l e R s m args below meth c H locs cells slots Q (F0 m pc ls (.long y :: .long x :: rest)) :=
  W.lcmp hx hb hdg (lv_if_eq (tgt := tgt) hx hb hd2 ht (fun h => kt ((lg_cmp_eq _ _).mp h)) (fun h => kf (fun q => h ((lg_cmp_eq _ _).mpr q))))
theorem r_l_ne (hx : p.tables.exec = Jvm.exec) (hb : c.code = cc) {x y : Int64} {off : Int} {tgt : Nat} (hdg : decode cc pc = .ok (.lcmp, 1)) (hd2 : decode cc (pc + 1) = .ok (.ifCond .ne off, 3)) (ht : ((pc + 1 : Nat) : Int) + off = (tgt : Int))
    (kt : ¬ x = y → W p l e R s m args below meth c H locs cells slots Q (F0 m tgt ls rest)) (kf : x = y → W p l e R s m args below meth c H locs cells slots Q (F0 m (pc + 4) ls rest)) : W p l e R s m args below meth c H locs cells slots Q (F0 m pc ls (.long y :: .long x :: rest)) :=
  W.lcmp hx hb hdg (lv_if_ne (tgt := tgt) hx hb hd2 ht (fun h => kt (fun q => h ((lg_cmp_eq _ _).mpr q))) (fun h => kf ((lg_cmp_eq _ _).mp h)))
theorem r_topi {x y : Int32} (h : x = y) (k : W p l e R s m args below meth c H locs cells slots Q (F0 m pc ls (.int y :: rest))) : W p l e R s m args below meth c H locs cells slots Q (F0 m pc ls (.int x :: rest)) := h ▸ k
theorem r_topl {x y : Int64} (h : x = y) (k : W p l e R s m args below meth c H locs cells slots Q (F0 m pc ls (.long y :: rest))) : W p l e R s m args below meth c H locs cells slots Q (F0 m pc ls (.long x :: rest)) := h ▸ k
theorem r_zaldI (hx : p.tables.exec = Jvm.exec) (hb : c.code = cc) (hK : va_K D cl tys s) (hP : va_P D cl ws H) (q0 t0 : Nat) {cA : ClassId} {n : Nat} {f : Nat → Int32} (ha : ws[q0]? = some (a, .inl (cA, n, .inl f))) (ht : tys[t0]? = some (cA, .boolean)) {i : Nat} (hi : i < n) (hn : n < 2 ^ 31) (hdg : decode cc pc = .ok (.baload, 1))
    (kk : W p l e R s m args below meth c H locs cells slots Q (F0 m (pc + 1) ls (.int (f i) :: rest))) : W p l e R s m args below meth c H locs cells slots Q (F0 m pc ls (.int (nI i) :: .ref a :: rest)) :=
  va_zald hx hb hK hP q0 t0 ha ht (vp_in_nI hi hn) hdg (by rw [nI_clamp (Nat.lt_trans hi hn)]; exact kk)
theorem r_zastI (hx : p.tables.exec = Jvm.exec) (hb : c.code = cc) (hK : va_K D cl tys s) (hP : va_P D cl ws H) (hD : va_D A ws) (hS : va_S A H0 H locs) (q0 t0 : Nat) {cA : ClassId} {n : Nat} {f : Nat → Int32} (ha : ws[q0]? = some (a, .inl (cA, n, .inl f))) (ht : tys[t0]? = some (cA, .boolean)) {i : Nat} {x : Int32} (hi : i < n) (hn : n < 2 ^ 31) (hdg : decode cc pc = .ok (.bastore, 1))
    (kk : ∀ (H1 : Heap) (locs1 : List Loc), va_P D cl (ws.set q0 (a, .inl (cA, n, .inl (upd f i (vp_nar .boolean x))))) H1 → va_D A (ws.set q0 (a, .inl (cA, n, .inl (upd f i (vp_nar .boolean x))))) → va_S A H0 H1 locs1 → W p l e R s m args below meth c H1 locs1 cells slots Q (F0 m (pc + 1) ls rest)) : W p l e R s m args below meth c H locs cells slots Q (F0 m pc ls (.int x :: .int (nI i) :: .ref a :: rest)) :=
  va_zast hx hb hK hP hD hS q0 t0 ha ht (vp_in_nI hi hn) hdg (by rw [nI_clamp (Nat.lt_trans hi hn)]; exact kk)
theorem r_lald (hx : p.tables.exec = Jvm.exec) (hb : c.code = cc) (hK : va_K D cl tys s) (hP : va_P D cl ws H) (q0 t0 : Nat) {cA : ClassId} {n : Nat} {g : Nat → Nat} (ha : ws[q0]? = some (a, .inl (cA, n, .inr (.inl (lF g))))) (ht : tys[t0]? = some (cA, .long)) {i : Nat} (hi : i < n) (hn : n < 2 ^ 31) (hdg : decode cc pc = .ok (.laload, 1))
    (kk : W p l e R s m args below meth c H locs cells slots Q (F0 m (pc + 1) ls (.long (lN (g i)) :: rest))) : W p l e R s m args below meth c H locs cells slots Q (F0 m pc ls (.int (nI i) :: .ref a :: rest)) :=
  va_lald hx hb hK hP q0 t0 ha ht (vp_in_nI hi hn) hdg (by rw [lF_at (Nat.lt_trans hi hn)]; exact kk)
theorem r_last (hx : p.tables.exec = Jvm.exec) (hb : c.code = cc) (hK : va_K D cl tys s) (hP : va_P D cl ws H) (hD : va_D A ws) (hS : va_S A H0 H locs) (q0 t0 : Nat) {cA : ClassId} {n : Nat} {g : Nat → Nat} (ha : ws[q0]? = some (a, .inl (cA, n, .inr (.inl (lF g))))) (ht : tys[t0]? = some (cA, .long)) {i x : Nat} (hi : i < n) (hn : n < 2 ^ 31) (hdg : decode cc pc = .ok (.lastore, 1))
    (kk : ∀ (H1 : Heap) (locs1 : List Loc), va_P D cl (ws.set q0 (a, .inl (cA, n, .inr (.inl (lF (va_up g i x)))))) H1 → va_D A (ws.set q0 (a, .inl (cA, n, .inr (.inl (lF (va_up g i x)))))) → va_S A H0 H1 locs1 → W p l e R s m args below meth c H1 locs1 cells slots Q (F0 m (pc + 1) ls rest)) : W p l e R s m args below meth c H locs cells slots Q (F0 m pc ls (.long (lN x) :: .int (nI i) :: .ref a :: rest)) :=
  va_last hx hb hK hP hD hS q0 t0 ha ht (vp_in_nI hi hn) hdg (by rw [nI_clamp (Nat.lt_trans hi hn), lF_upd]; exact kk)
theorem r_laldI (hx : p.tables.exec = Jvm.exec) (hb : c.code = cc) (hK : va_K D cl tys s) (hP : va_P D cl ws H) (q0 t0 : Nat) {cA : ClassId} {n : Nat} {f : Nat → Int64} (ha : ws[q0]? = some (a, .inl (cA, n, .inr (.inl f)))) (ht : tys[t0]? = some (cA, .long)) {i : Nat} (hi : i < n) (hn : n < 2 ^ 31) (hdg : decode cc pc = .ok (.laload, 1))
    (kk : W p l e R s m args below meth c H locs cells slots Q (F0 m (pc + 1) ls (.long (f i) :: rest))) : W p l e R s m args below meth c H locs cells slots Q (F0 m pc ls (.int (nI i) :: .ref a :: rest)) :=
  va_lald hx hb hK hP q0 t0 ha ht (vp_in_nI hi hn) hdg (by rw [nI_clamp (Nat.lt_trans hi hn)]; exact kk)
theorem r_lastI (hx : p.tables.exec = Jvm.exec) (hb : c.code = cc) (hK : va_K D cl tys s) (hP : va_P D cl ws H) (hD : va_D A ws) (hS : va_S A H0 H locs) (q0 t0 : Nat) {cA : ClassId} {n : Nat} {f : Nat → Int64} (ha : ws[q0]? = some (a, .inl (cA, n, .inr (.inl f)))) (ht : tys[t0]? = some (cA, .long)) {i : Nat} {x : Int64} (hi : i < n) (hn : n < 2 ^ 31) (hdg : decode cc pc = .ok (.lastore, 1))
    (kk : ∀ (H1 : Heap) (locs1 : List Loc), va_P D cl (ws.set q0 (a, .inl (cA, n, .inr (.inl (vp_updL f i x))))) H1 → va_D A (ws.set q0 (a, .inl (cA, n, .inr (.inl (vp_updL f i x))))) → va_S A H0 H1 locs1 → W p l e R s m args below meth c H1 locs1 cells slots Q (F0 m (pc + 1) ls rest)) : W p l e R s m args below meth c H locs cells slots Q (F0 m pc ls (.long x :: .int (nI i) :: .ref a :: rest)) :=
  va_last hx hb hK hP hD hS q0 t0 ha ht (vp_in_nI hi hn) hdg (by rw [nI_clamp (Nat.lt_trans hi hn)]; exact kk)
theorem r_ln_lt (hx : p.tables.exec = Jvm.exec) (hb : c.code = cc) {x y : Nat} {off : Int} {tgt : Nat} (h1 : x < 2 ^ 63) (h2 : y < 2 ^ 63) (hdg : decode cc pc = .ok (.lcmp, 1)) (hd2 : decode cc (pc + 1) = .ok (.ifCond .lt off, 3)) (ht : ((pc + 1 : Nat) : Int) + off = (tgt : Int))
    (kt : x < y → W p l e R s m args below meth c H locs cells slots Q (F0 m tgt ls rest)) (kf : y ≤ x → W p l e R s m args below meth c H locs cells slots Q (F0 m (pc + 4) ls rest)) : W p l e R s m args below meth c H locs cells slots Q (F0 m pc ls (.long (lN y) :: .long (lN x) :: rest)) :=
  r_l_lt hx hb hdg hd2 ht (fun h => kt ((pk_lLT h1 h2).mp h)) (fun h => kf (Nat.le_of_not_lt fun q => h ((pk_lLT h1 h2).mpr q)))
theorem r_ln_ge (hx : p.tables.exec = Jvm.exec) (hb : c.code = cc) {x y : Nat} {off : Int} {tgt : Nat} (h1 : x < 2 ^ 63) (h2 : y < 2 ^ 63) (hdg : decode cc pc = .ok (.lcmp, 1)) (hd2 : decode cc (pc + 1) = .ok (.ifCond .ge off, 3)) (ht : ((pc + 1 : Nat) : Int) + off = (tgt : Int))
    (kt : y ≤ x → W p l e R s m args below meth c H locs cells slots Q (F0 m tgt ls rest)) (kf : x < y → W p l e R s m args below meth c H locs cells slots Q (F0 m (pc + 4) ls rest)) : W p l e R s m args below meth c H locs cells slots Q (F0 m pc ls (.long (lN y) :: .long (lN x) :: rest)) :=
  r_l_ge hx hb hdg hd2 ht (fun h => kt ((pk_lLE h2 h1).mp h)) (fun h => kf (Nat.lt_of_not_le fun q => h ((pk_lLE h2 h1).mpr q)))
theorem r_ln_gt (hx : p.tables.exec = Jvm.exec) (hb : c.code = cc) {x y : Nat} {off : Int} {tgt : Nat} (h1 : x < 2 ^ 63) (h2 : y < 2 ^ 63) (hdg : decode cc pc = .ok (.lcmp, 1)) (hd2 : decode cc (pc + 1) = .ok (.ifCond .gt off, 3)) (ht : ((pc + 1 : Nat) : Int) + off = (tgt : Int))
    (kt : y < x → W p l e R s m args below meth c H locs cells slots Q (F0 m tgt ls rest)) (kf : x ≤ y → W p l e R s m args below meth c H locs cells slots Q (F0 m (pc + 4) ls rest)) : W p l e R s m args below meth c H locs cells slots Q (F0 m pc ls (.long (lN y) :: .long (lN x) :: rest)) :=
  r_l_gt hx hb hdg hd2 ht (fun h => kt ((pk_lLT h2 h1).mp h)) (fun h => kf (Nat.le_of_not_lt fun q => h ((pk_lLT h2 h1).mpr q)))
theorem r_ln_le (hx : p.tables.exec = Jvm.exec) (hb : c.code = cc) {x y : Nat} {off : Int} {tgt : Nat} (h1 : x < 2 ^ 63) (h2 : y < 2 ^ 63) (hdg : decode cc pc = .ok (.lcmp, 1)) (hd2 : decode cc (pc + 1) = .ok (.ifCond .le off, 3)) (ht : ((pc + 1 : Nat) : Int) + off = (tgt : Int))
    (kt : x ≤ y → W p l e R s m args below meth c H locs cells slots Q (F0 m tgt ls rest)) (kf : y < x → W p l e R s m args below meth c H locs cells slots Q (F0 m (pc + 4) ls rest)) : W p l e R s m args below meth c H locs cells slots Q (F0 m pc ls (.long (lN y) :: .long (lN x) :: rest)) :=
  r_l_le hx hb hdg hd2 ht (fun h => kt ((pk_lLE h1 h2).mp h)) (fun h => kf (Nat.lt_of_not_le fun q => h ((pk_lLE h1 h2).mpr q)))
theorem r_ln_eq (hx : p.tables.exec = Jvm.exec) (hb : c.code = cc) {x y : Nat} {off : Int} {tgt : Nat} (h1 : x < 2 ^ 63) (h2 : y < 2 ^ 63) (hdg : decode cc pc = .ok (.lcmp, 1)) (hd2 : decode cc (pc + 1) = .ok (.ifCond .eq off, 3)) (ht : ((pc + 1 : Nat) : Int) + off = (tgt : Int))
    (kt : x = y → W p l e R s m args below meth c H locs cells slots Q (F0 m tgt ls rest)) (kf : x ≠ y → W p l e R s m args below meth c H locs cells slots Q (F0 m (pc + 4) ls rest)) : W p l e R s m args below meth c H locs cells slots Q (F0 m pc ls (.long (lN y) :: .long (lN x) :: rest)) :=
  r_l_eq hx hb hdg hd2 ht (fun h => kt ((pk_lEQ h1 h2).mp h)) (fun h => kf ( fun q => h ((pk_lEQ h1 h2).mpr q)))
-- loops and joins
theorem W_loop {σ : Type} {st : List Value} (μ : σ → Nat) (I : σ → Heap → List Loc → Array Slot → Prop)
    (step : ∀ (x : σ) (H : Heap) (locs : List Loc) (ls : Array Slot), I x H locs ls → (∀ (y : σ) (H' : Heap) (locs' : List Loc) (ls' : Array Slot), I y H' locs' ls' → μ y < μ x → W p l e R s m args below meth c H' locs' cells slots Q (F0 m pc ls' st)) → W p l e R s m args below meth c H locs cells slots Q (F0 m pc ls st)) :
    ∀ (x : σ) (H : Heap) (locs : List Loc) (ls : Array Slot), I x H locs ls → W p l e R s m args below meth c H locs cells slots Q (F0 m pc ls st) := by
  have key : ∀ (n : Nat) (x : σ) (H : Heap) (locs : List Loc) (ls : Array Slot), μ x < n → I x H locs ls → W p l e R s m args below meth c H locs cells slots Q (F0 m pc ls st) := by
    intro n
    induction n with
    | zero => intro x H locs ls h; exact absurd h (Nat.not_lt_zero _)
    | succ n ih =>
      intro x H locs ls h hI
      exact step x H locs ls hI (fun y H' locs' ls' hI' hy => ih y H' locs' ls' (by omega) hI')
  exact fun x H locs ls hI => key (μ x + 1) x H locs ls (Nat.lt_succ_self _) hI
theorem W_join {σ : Type} {g : JFrame} (pc2 : Nat) (st : σ → List Value) (I : σ → Heap → List Loc → Array Slot → Prop)
    (main : ∀ (x : σ) (H : Heap) (locs : List Loc) (ls : Array Slot), I x H locs ls → W p l e R s m args below meth c H locs cells slots Q (F0 m pc2 ls (st x)))
    (first : (∀ (x : σ) (H : Heap) (locs : List Loc) (ls : Array Slot), I x H locs ls → W p l e R s m args below meth c H locs cells slots Q (F0 m pc2 ls (st x))) → W p l e R s m args below meth c H locs cells slots Q g) : W p l e R s m args below meth c H locs cells slots Q g := first main
end RR
end
section
def NSm : List (String × Nat × MethodName × String) := [("MemoryMap", 9, ⟨"MemoryMap$Regions", "<init>", "()V"⟩, "MemoryMap"), ("MemoryMap", 18, ⟨"MemoryMap$Sections", "<init>", "()V"⟩, "MemoryMap"), ("MemoryMap", 25, ⟨"MemoryMap$Taken", "<init>", "()V"⟩, "MemoryMap"), ("MemoryMap", 36, ⟨"MemoryMap$Placements", "<init>", "()V"⟩, "MemoryMap"), ("MemoryMap", 43, ⟨"MemoryMap$Functions", "<init>", "()V"⟩, "MemoryMap"), ("MemoryMap", 66, ⟨"MemoryMap$Regions", "overlap", "(II)Z"⟩, "MemoryMap"), ("MemoryMap", 70, ⟨"MemoryMap$Regions", "add", "(III)I"⟩, "MemoryMap"), ("MemoryMap", 85, ⟨"MemoryMap$Taken", "clear", "()V"⟩, "MemoryMap"), ("MemoryMap", 184, ⟨"MemoryMap$Regions", "allow", "(II)Z"⟩, "MemoryMap"), ("MemoryMap", 193, ⟨"MemoryMap$Taken", "leastFree", "(III)I"⟩, "MemoryMap"), ("MemoryMap", 199, ⟨"MemoryMap$Taken", "add", "(II)V"⟩, "MemoryMap"), ("MemoryMap", 95, ⟨"MemoryMap$Placements", "add", "([II)V"⟩, "MemoryMap"), ("MemoryMap", 115, ⟨"MemoryMap$Functions", "addCall", "(II)V"⟩, "MemoryMap"), ("MemoryMap", 119, ⟨"MemoryMap$Functions", "countCalls", "(I)I"⟩, "MemoryMap"), ("MemoryMap", 124, ⟨"MemoryMap$Functions", "depthFrom", "(I)I"⟩, "MemoryMap"), ("MemoryMap", 132, ⟨"MemoryMap$Block", "<init>", "(I)V"⟩, "MemoryMap"), ("MemoryMap$Block", 15, ⟨"MemoryMap$Copy", "<init>", "(I)V"⟩, "MemoryMap"), ("MemoryMap", 139, ⟨"MemoryMap$Block", "hasOctet", "(I)Z"⟩, "MemoryMap"), ("MemoryMap$Block", 25, ⟨"MemoryMap", "isWithin", "(JJJ)Z"⟩, "MemoryMap"), ("MemoryMap", 147, ⟨"MemoryMap$Copy", "setOctet", "(IB)V"⟩, "MemoryMap"), ("MemoryMap", 158, ⟨"MemoryMap$Copy", "flip", "(II)I"⟩, "MemoryMap"), ("MemoryMap", 162, ⟨"MemoryMap$Block", "repair", "()I"⟩, "MemoryMap"), ("MemoryMap$Block", 31, ⟨"MemoryMap$Copy", "isGood", "()Z"⟩, "MemoryMap"), ("MemoryMap$Block", 35, ⟨"MemoryMap$Copy", "become", "(LMemoryMap$Copy;)V"⟩, "MemoryMap"), ("MemoryMap$Block", 39, ⟨"MemoryMap$Copy", "clear", "()V"⟩, "MemoryMap"), ("MemoryMap", 177, ⟨"MemoryMap$Placements", "countMovedSince", "(I)I"⟩, "MemoryMap"), ("MemoryMap", 84, ⟨"MemoryMap$Sections", "add", "(III)I"⟩, "MemoryMap")]
def NSf : List (String × Nat × String × String × String × String) := [("MemoryMap", 187, "MemoryMap$Regions", "starts", "[I", "MemoryMap"), ("MemoryMap", 196, "MemoryMap$Regions", "ends", "[I", "MemoryMap"), ("MemoryMap", 180, "MemoryMap$Regions", "count", "I", "MemoryMap"), ("MemoryMap", 171, "MemoryMap$Sections", "lengths", "[I", "MemoryMap"), ("MemoryMap", 190, "MemoryMap$Sections", "aligns", "[I", "MemoryMap"), ("MemoryMap", 181, "MemoryMap$Sections", "kinds", "[I", "MemoryMap"), ("MemoryMap", 88, "MemoryMap$Sections", "greatestFirst", "[I", "MemoryMap"), ("MemoryMap", 74, "MemoryMap$Sections", "count", "I", "MemoryMap"), ("MemoryMap", 105, "MemoryMap$Placements", "last", "[I", "MemoryMap"), ("MemoryMap", 100, "MemoryMap$Placements", "lastCount", "I", "MemoryMap"), ("MemoryMap", 174, "MemoryMap$Placements", "keptCount", "I", "MemoryMap"), ("MemoryMap", 112, "MemoryMap$Functions", "stacks", "[I", "MemoryMap"), ("MemoryMap", 143, "MemoryMap$Block", "first", "LMemoryMap$Copy;", "MemoryMap"), ("MemoryMap", 153, "MemoryMap$Block", "second", "LMemoryMap$Copy;", "MemoryMap")]
/-- the class of rows of rows is there -/
def va_AOA (t : FieldType) (U : State) : Prop := (Cond.arrayOver (.array t)).before #[] U = true
theorem va_AOA.use {t : FieldType} {A : Array Value} {U : State} (h : va_AOA t U) : (Cond.arrayOver (.array t)).before A U = true := h
theorem va_AOA.moved {t : FieldType} {u U : State} (hvm : u.vm.Alike U.vm) (h : va_AOA t u) : va_AOA t U := by
  obtain ⟨comp, c, k, h1, h2, h3, h4, h5⟩ := arrayOverA_spec h
  obtain ⟨k', hk', he⟩ := hvm.2.2 _ _ h3
  have hi : (U.vm.classes.findIdx? fun (x : Class) => match x.kind with | .array component _ => component == comp | _ => false) = some c := by
    have e1 := va_idx_bare U.vm comp
    have e2 := va_idx_bare u.vm comp
    have eb : U.vm.bare = u.vm.bare := by first | exact hvm.bare_eq | exact hvm.bare_eq.symm
    rw [eb] at e1
    exact (e1.symm.trans e2).trans h2
  have hkind : k'.kind = .array comp (.array t) := by rw [he]; exact h4
  have f1 : U.vm.findClass (FieldType.array t).toString = some comp := by rw [hvm.findClass]; exact h1
  have f2 : U.vm.findClass ("[" ++ (FieldType.array t).toString) = some c := by rw [hvm.findClass]; exact h5
  unfold va_AOA Cond.before Cond.holds
  simp only [Cond.value]
  rw [f1, Option.bind_some]
  refine (congrArg (fun o : Option Nat => (o.bind (fun c => (U.vm.classes[c]?).map fun (k : Class) => match k.kind with | .array _ ty => decide (ty = FieldType.array t) && decide (U.vm.findClass ("[" ++ (FieldType.array t).toString) = some c) | _ => false) == some true)) hi).trans ?_
  simp [hk', hkind, f2]
def NSd : List MethodName := [⟨"java/lang/Exception", "<init>", "(Ljava/lang/String;)V"⟩, ⟨"java/lang/IndexOutOfBoundsException", "<init>", "(Ljava/lang/String;)V"⟩, ⟨"java/lang/RuntimeException", "<init>", "(Ljava/lang/String;)V"⟩, ⟨"java/lang/Throwable", "<init>", "(Ljava/lang/String;)V"⟩]
def NSc : List (String × String) := [("java/lang/ArithmeticException", "java/lang/ArithmeticException"), ("java/lang/ArrayIndexOutOfBoundsException", "java/lang/ArrayIndexOutOfBoundsException")]
/-- what the tables say of the nest mates' links, of the array classes over classes, and what a throw needs beside its words -/
def NS (U : State) : Prop := (∀ q ∈ NSm, va_Nw (.methodLinkNest q.1 q.2.1 q.2.2.1 q.2.2.2) U) ∧ (∀ q ∈ NSf, va_Nw (.fieldLinkNest q.1 q.2.1 q.2.2.1 q.2.2.2.1 q.2.2.2.2.1 q.2.2.2.2.2) U) ∧ (∀ q ∈ NSd, va_Nw (.declares q) U) ∧ (∀ q ∈ NSc, va_Nw (.castable q.1 q.2) U) ∧ va_AOA .int U ∧ va_AO "MemoryMap$Block" U
theorem NS.warm {s U : State} (hW : s.WarmedH U.vm) (h : NS s) : NS U := ⟨fun q hq => va_Nw.warmM hW (h.1 q hq), fun q hq => va_Nw.warmF hW (h.2.1 q hq), fun q hq => va_Nw.warmD hW (h.2.2.1 q hq), fun q hq => va_Nw.warmC hW (h.2.2.2.1 q hq), h.2.2.2.2.1.moved hW.alike, h.2.2.2.2.2.moved hW.alike⟩
theorem NS.same {u U : State} (e : u.vm = U.vm) (h : NS u) : NS U := ⟨fun q hq => va_Nw.same rfl e (h.1 q hq), fun q hq => va_Nw.same rfl e (h.2.1 q hq), fun q hq => va_Nw.same rfl e (h.2.2.1 q hq), fun q hq => va_Nw.same rfl e (h.2.2.2.1 q hq), h.2.2.2.2.1.moved (e ▸ Vm.Alike.refl u.vm), h.2.2.2.2.2.moved (e ▸ Vm.Alike.refl u.vm)⟩
theorem NS.m {s : State} (h : NS s) {own : String} {index : Nat} {y : MethodName} {host : String} (k : Nat) (hk : NSm[k]? = some (own, index, y, host)) : va_Nw (.methodLinkNest own index y host) s := h.1 _ (List.mem_of_getElem? hk)
theorem NS.f {s : State} (h : NS s) {args : Array Value} {own : String} {index : Nat} {r n d host : String} (k : Nat) (hk : NSf[k]? = some (own, index, r, n, d, host)) : (Cond.fieldLinkNest own index r n d host).before args s = true := va_Nw.use rfl (h.2.1 _ (List.mem_of_getElem? hk))
def Wd (D : va_G) (tys : List (ClassId × FieldType)) (ws : va_W) (sz : Nat) (U : State) : Prop := U.heap.size = sz ∧ va_P D vwCl ws U.heap ∧ va_K D vwCl tys U ∧ va_D (fun _ => True) ws ∧ NS U
def We (D : va_G) (A : Nat → Prop) (ws : va_W) (t : State) : Prop := va_P D vwCl ws t.heap ∧ va_D A ws
theorem Wd.blind {D : va_G} {tys : List (ClassId × FieldType)} {ws : va_W} {sz : Nat} {av : List Value} : FrameBlind (va_Pc av (Wd D tys ws sz)) := fun a U g mk q => by
  obtain ⟨q0, q1, qP, qK, qD, qN⟩ := q
  exact ⟨q0, q1, qP, va_K.moved (u := U) (U := U.calling g mk a) (Vm.Alike.refl U.vm) qK, qD, NS.same (u := U) rfl qN⟩
theorem fm_of {α : Type} {is : List Nat} {f : Nat → Option α} {wc : List α} (h : is.map f = wc.map some) : is.filterMap f = wc := by
  have e : is.filterMap f = (is.map f).filterMap id := by rw [List.filterMap_map]; rfl
  rw [e, h, List.filterMap_map]
  simp
/-- contracts that change the world: int, long, void, a reference or null -/
def Mi (l : Launch) (y : MethodName) (wsM : List Cond) (rm : Room) (D : va_G) (tys : List (ClassId × FieldType)) (av : List Value) (ws : va_W) {S : Type} (post : Int32 → S → Prop) (ws' : S → va_W) : Prop :=
  ∀ sz, Met l y wsM rm (va_Pc av (Wd D tys ws sz)) (va_Qi post (fun u t => We D (va_A ws sz) (ws' u) t) (va_A ws sz)) rm.cells rm.slots (va_A ws sz)
def Ml (l : Launch) (y : MethodName) (wsM : List Cond) (rm : Room) (D : va_G) (tys : List (ClassId × FieldType)) (av : List Value) (ws : va_W) {S : Type} (post : Int64 → S → Prop) (ws' : S → va_W) : Prop :=
  ∀ sz, Met l y wsM rm (va_Pc av (Wd D tys ws sz)) (va_Ql post (fun u t => We D (va_A ws sz) (ws' u) t) (va_A ws sz)) rm.cells rm.slots (va_A ws sz)
def Mv (l : Launch) (y : MethodName) (wsM : List Cond) (rm : Room) (D : va_G) (tys : List (ClassId × FieldType)) (av : List Value) (ws : va_W) {S : Type} (post : S → Prop) (ws' : S → va_W) : Prop :=
  ∀ sz, Met l y wsM rm (va_Pc av (Wd D tys ws sz)) (va_Qv post (fun u t => We D (va_A ws sz) (ws' u) t) (va_A ws sz)) rm.cells rm.slots (va_A ws sz)
/-- contracts that leave the heap alone -/
def Qi (l : Launch) (y : MethodName) (wsM : List Cond) (rm : Room) (D : va_G) (tys : List (ClassId × FieldType)) (av : List Value) (ws : va_W) (post : Int32 → Prop) : Prop :=
  ∀ sz, Met l y wsM rm (va_Pc av (Wd D tys ws sz)) (vp_Si post) 0 0 (fun _ => False)
def Ql (l : Launch) (y : MethodName) (wsM : List Cond) (rm : Room) (D : va_G) (tys : List (ClassId × FieldType)) (av : List Value) (ws : va_W) (post : Int64 → Prop) : Prop :=
  ∀ sz, Met l y wsM rm (va_Pc av (Wd D tys ws sz)) (vp_Sl post) 0 0 (fun _ => False)
def Qq (l : Launch) (y : MethodName) (wsM : List Cond) (rm : Room) (D : va_G) (tys : List (ClassId × FieldType)) (av : List Value) (ws : va_W) (post : Option Nat → Prop) : Prop :=
  ∀ sz, Met l y wsM rm (va_Pc av (Wd D tys ws sz)) (va_Sq post) 0 0 (fun _ => False)
/-- what a body has at its entry -/
def Bd (l : Launch) (wsM : List Cond) (cc : ByteArray) (maxL : Nat) (ret : Option FieldType) (own : String) (D : va_G) (tys : List (ClassId × FieldType)) (p : Program) (s : State) (m : MethodId) (args : Array Value) (meth : Method) (c : Code) : Prop :=
  p.tables.exec = Jvm.exec ∧ c.code = cc ∧ meth.sig.returnType = ret ∧ (∀ w ∈ wsM, w.before args s = true) ∧ s.vm.findClass own = some m.cls ∧ meth.locks = false ∧ c.maxLocals = maxL ∧ NS s ∧ va_K D vwCl tys s
theorem start_Mi {l : Launch} {y : MethodName} {wsM wsr : List Cond} {rm : Room} {D : va_G} {tys : List (ClassId × FieldType)} {av : List Value} {ws : va_W} {S : Type} {post : Int32 → S → Prop} {ws' : S → va_W} (cc : ByteArray) (maxL : Nat) (ret : Option FieldType) (hy : plainName y.cls = true) (hw : wsM = Cond.code y cc maxL ret :: wsr) (hn : (lg_sl av).length ≤ maxL)
    (body : ∀ (p : Program) (e : Env) (s : State) (m : MethodId) (below : List Frame) (meth : Method) (c : Code) (A : Nat → Prop) (ls : Array Slot), Bd l wsM cc maxL ret y.cls D tys p s m av.toArray meth c → meth.name = y.name → va_P D vwCl ws s.heap → va_D A ws → va_S A s.heap s.heap [] → (∀ q : Nat, s.heap.size ≤ q → A q) → lv_has ls maxL (lv_args 0 av) →
      W p l e rm s m av.toArray below meth c s.heap [] 0 0 (MQ below (va_Qi post (fun u t => We D A (ws' u) t) A) av.toArray s rm.cells rm.slots A) (F0 m 0 ls [])) : Mi l y wsM rm D tys av ws post ws' := by
  intro sz
  refine Met.ofW (cc := cc) (maxL := maxL) (ret := ret) hy hw ?_
  intro p e s m args below meth c s₁ B hml hv
  obtain ⟨rfl, hsz, hP, hK, hD0, hN⟩ := hv
  subst hsz
  have hD := hD0.self (sz := s.heap.size)
  rw [lg_entry_eq]
  exact body p e s m below meth c (va_A ws s.heap.size) _ ⟨B.exec, B.bytes, B.returns, atoms_spec (ws := wsM) B.pre, findClass_of_methodNamed B.named, B.notSynchronized, hml, hN, hK⟩ (name_of_methodNamed B.named B.method).1 hP hD va_S.rf (fun q h => Or.inr h) (lv_entry av hn)
theorem start_Ml {l : Launch} {y : MethodName} {wsM wsr : List Cond} {rm : Room} {D : va_G} {tys : List (ClassId × FieldType)} {av : List Value} {ws : va_W} {S : Type} {post : Int64 → S → Prop} {ws' : S → va_W} (cc : ByteArray) (maxL : Nat) (ret : Option FieldType) (hy : plainName y.cls = true) (hw : wsM = Cond.code y cc maxL ret :: wsr) (hn : (lg_sl av).length ≤ maxL)
    (body : ∀ (p : Program) (e : Env) (s : State) (m : MethodId) (below : List Frame) (meth : Method) (c : Code) (A : Nat → Prop) (ls : Array Slot), Bd l wsM cc maxL ret y.cls D tys p s m av.toArray meth c → meth.name = y.name → va_P D vwCl ws s.heap → va_D A ws → va_S A s.heap s.heap [] → (∀ q : Nat, s.heap.size ≤ q → A q) → lv_has ls maxL (lv_args 0 av) →
      W p l e rm s m av.toArray below meth c s.heap [] 0 0 (MQ below (va_Ql post (fun u t => We D A (ws' u) t) A) av.toArray s rm.cells rm.slots A) (F0 m 0 ls [])) : Ml l y wsM rm D tys av ws post ws' := by
  intro sz
  refine Met.ofW (cc := cc) (maxL := maxL) (ret := ret) hy hw ?_
  intro p e s m args below meth c s₁ B hml hv
  obtain ⟨rfl, hsz, hP, hK, hD0, hN⟩ := hv
  subst hsz
  have hD := hD0.self (sz := s.heap.size)
  rw [lg_entry_eq]
  exact body p e s m below meth c (va_A ws s.heap.size) _ ⟨B.exec, B.bytes, B.returns, atoms_spec (ws := wsM) B.pre, findClass_of_methodNamed B.named, B.notSynchronized, hml, hN, hK⟩ (name_of_methodNamed B.named B.method).1 hP hD va_S.rf (fun q h => Or.inr h) (lv_entry av hn)
theorem start_Mv {l : Launch} {y : MethodName} {wsM wsr : List Cond} {rm : Room} {D : va_G} {tys : List (ClassId × FieldType)} {av : List Value} {ws : va_W} {S : Type} {post : S → Prop} {ws' : S → va_W} (cc : ByteArray) (maxL : Nat) (ret : Option FieldType) (hy : plainName y.cls = true) (hw : wsM = Cond.code y cc maxL ret :: wsr) (hn : (lg_sl av).length ≤ maxL)
    (body : ∀ (p : Program) (e : Env) (s : State) (m : MethodId) (below : List Frame) (meth : Method) (c : Code) (A : Nat → Prop) (ls : Array Slot), Bd l wsM cc maxL ret y.cls D tys p s m av.toArray meth c → meth.name = y.name → va_P D vwCl ws s.heap → va_D A ws → va_S A s.heap s.heap [] → (∀ q : Nat, s.heap.size ≤ q → A q) → lv_has ls maxL (lv_args 0 av) →
      W p l e rm s m av.toArray below meth c s.heap [] 0 0 (MQ below (va_Qv post (fun u t => We D A (ws' u) t) A) av.toArray s rm.cells rm.slots A) (F0 m 0 ls [])) : Mv l y wsM rm D tys av ws post ws' := by
  intro sz
  refine Met.ofW (cc := cc) (maxL := maxL) (ret := ret) hy hw ?_
  intro p e s m args below meth c s₁ B hml hv
  obtain ⟨rfl, hsz, hP, hK, hD0, hN⟩ := hv
  subst hsz
  have hD := hD0.self (sz := s.heap.size)
  rw [lg_entry_eq]
  exact body p e s m below meth c (va_A ws s.heap.size) _ ⟨B.exec, B.bytes, B.returns, atoms_spec (ws := wsM) B.pre, findClass_of_methodNamed B.named, B.notSynchronized, hml, hN, hK⟩ (name_of_methodNamed B.named B.method).1 hP hD va_S.rf (fun q h => Or.inr h) (lv_entry av hn)
theorem start_Qi {l : Launch} {y : MethodName} {wsM wsr : List Cond} {rm : Room} {D : va_G} {tys : List (ClassId × FieldType)} {av : List Value} {ws : va_W} {post : Int32 → Prop} (cc : ByteArray) (maxL : Nat) (ret : Option FieldType) (hy : plainName y.cls = true) (hw : wsM = Cond.code y cc maxL ret :: wsr) (hn : (lg_sl av).length ≤ maxL)
    (body : ∀ (p : Program) (e : Env) (s : State) (m : MethodId) (below : List Frame) (meth : Method) (c : Code) (ls : Array Slot), Bd l wsM cc maxL ret y.cls D tys p s m av.toArray meth c → va_P D vwCl ws s.heap → va_D (fun _ => True) ws → lv_has ls maxL (lv_args 0 av) →
      W p l e rm s m av.toArray below meth c s.heap [] 0 0 (MQ below (vp_Si post) av.toArray s 0 0 (fun _ => False)) (F0 m 0 ls [])) : Qi l y wsM rm D tys av ws post := by
  intro sz
  refine Met.ofW (cc := cc) (maxL := maxL) (ret := ret) hy hw ?_
  intro p e s m args below meth c s₁ B hml hv
  obtain ⟨rfl, hsz, hP, hK, hD, hN⟩ := hv
  rw [lg_entry_eq]
  exact body p e s m below meth c _ ⟨B.exec, B.bytes, B.returns, atoms_spec (ws := wsM) B.pre, findClass_of_methodNamed B.named, B.notSynchronized, hml, hN, hK⟩ hP hD (lv_entry av hn)
theorem start_Ql {l : Launch} {y : MethodName} {wsM wsr : List Cond} {rm : Room} {D : va_G} {tys : List (ClassId × FieldType)} {av : List Value} {ws : va_W} {post : Int64 → Prop} (cc : ByteArray) (maxL : Nat) (ret : Option FieldType) (hy : plainName y.cls = true) (hw : wsM = Cond.code y cc maxL ret :: wsr) (hn : (lg_sl av).length ≤ maxL)
    (body : ∀ (p : Program) (e : Env) (s : State) (m : MethodId) (below : List Frame) (meth : Method) (c : Code) (ls : Array Slot), Bd l wsM cc maxL ret y.cls D tys p s m av.toArray meth c → va_P D vwCl ws s.heap → va_D (fun _ => True) ws → lv_has ls maxL (lv_args 0 av) →
      W p l e rm s m av.toArray below meth c s.heap [] 0 0 (MQ below (vp_Sl post) av.toArray s 0 0 (fun _ => False)) (F0 m 0 ls [])) : Ql l y wsM rm D tys av ws post := by
  intro sz
  refine Met.ofW (cc := cc) (maxL := maxL) (ret := ret) hy hw ?_
  intro p e s m args below meth c s₁ B hml hv
  obtain ⟨rfl, hsz, hP, hK, hD, hN⟩ := hv
  rw [lg_entry_eq]
  exact body p e s m below meth c _ ⟨B.exec, B.bytes, B.returns, atoms_spec (ws := wsM) B.pre, findClass_of_methodNamed B.named, B.notSynchronized, hml, hN, hK⟩ hP hD (lv_entry av hn)
theorem start_Qq {l : Launch} {y : MethodName} {wsM wsr : List Cond} {rm : Room} {D : va_G} {tys : List (ClassId × FieldType)} {av : List Value} {ws : va_W} {post : Option Nat → Prop} (cc : ByteArray) (maxL : Nat) (ret : Option FieldType) (hy : plainName y.cls = true) (hw : wsM = Cond.code y cc maxL ret :: wsr) (hn : (lg_sl av).length ≤ maxL)
    (body : ∀ (p : Program) (e : Env) (s : State) (m : MethodId) (below : List Frame) (meth : Method) (c : Code) (ls : Array Slot), Bd l wsM cc maxL ret y.cls D tys p s m av.toArray meth c → va_P D vwCl ws s.heap → va_D (fun _ => True) ws → lv_has ls maxL (lv_args 0 av) →
      W p l e rm s m av.toArray below meth c s.heap [] 0 0 (MQ below (va_Sq post) av.toArray s 0 0 (fun _ => False)) (F0 m 0 ls [])) : Qq l y wsM rm D tys av ws post := by
  intro sz
  refine Met.ofW (cc := cc) (maxL := maxL) (ret := ret) hy hw ?_
  intro p e s m args below meth c s₁ B hml hv
  obtain ⟨rfl, hsz, hP, hK, hD, hN⟩ := hv
  rw [lg_entry_eq]
  exact body p e s m below meth c _ ⟨B.exec, B.bytes, B.returns, atoms_spec (ws := wsM) B.pre, findClass_of_methodNamed B.named, B.notSynchronized, hml, hN, hK⟩ hP hD (lv_entry av hn)
section CC
variable {p : Program} {l : Launch} {e : Env} {R : Room} {s : State} {m : MethodId} {args : Array Value} {below : List Frame} {meth : Method} {c : Code} {H : Heap} {locs : List Loc} {cells slots mc ms : Nat} {Q : State → Prop}
variable {cc : ByteArray} {pc : Nat} {ls : Array Slot} {rest st0 : List Value} {D : va_G} {A A0 : Nat → Prop} {a : Array Value} {tys : List (ClassId × FieldType)} {ws wc wr : va_W} {H0 : Heap} {S : Type}
theorem preV {b : Nat} {As : List Value} {C : String} {q : vw_C} {fs : List Value} (hP : va_P D vwCl ws H) (hD : va_D A ws) (hK : va_K D vwCl tys s) (hN : NS s) (is : List Nat) (ci q0 : Nat) (hC : is.map (fun i => ws[i]?) = wc.map some) (hnd : va_nd is = true) (hc : vwCl[ci]? = some q) (he : ws[q0]? = some (b, .inr (ci, fs))) (hq : q.1 = C) : PreV s H C b (va_Pc (.ref b :: As) (Wd D tys wc H.size)) As := by
  subst hq
  exact ⟨Wd.blind, va_recv hK hP hc he, fun U hU hW => ⟨rfl, by rw [hU], by rw [hU]; exact hP.sub is (fm_of hC), va_K.moved hW.alike hK, (hD.sub is hnd hC).weaken (fun _ _ _ _ => trivial), NS.warm hW hN⟩⟩
theorem preS {As : List Value} (hP : va_P D vwCl ws H) (hD : va_D A ws) (hK : va_K D vwCl tys s) (hN : NS s) (is : List Nat) (hC : is.map (fun i => ws[i]?) = wc.map some) (hnd : va_nd is = true) : PreS s H (va_Pc As (Wd D tys wc H.size)) As :=
  ⟨Wd.blind, fun U hU hW => ⟨rfl, by rw [hU], by rw [hU]; exact hP.sub is (fm_of hC), va_K.moved hW.alike hK, (hD.sub is hnd hC).weaken (fun _ _ _ _ => trivial), NS.warm hW hN⟩⟩
theorem call_Mi {post : Int32 → S → Prop} {wc' wn : S → va_W} (hr : va_Run p l e R s m args below meth c H locs cells slots mc ms (F0 m pc ls st0) rest (va_Qi post (fun u t => We D (va_A wc H.size) (wc' u) t) (va_A wc H.size) a) (va_A wc H.size))
    (hP : va_P D vwCl ws H) (hD : va_D A0 ws) (hS : va_S A0 H0 H locs) (hA : ∀ q, H0.size ≤ q → A0 q) (isC isR perm : List Nat) (hC : isC.map (fun i => ws[i]?) = wc.map some) (hR : isR.map (fun i => ws[i]?) = wr.map some) (hn : va_nd isR = true) (hdis : ∀ i ∈ isR, i ∉ isC) (hp : ∀ u, perm.map (fun i => (wr ++ wc' u)[i]?) = (wn u).map some) (hpn : va_nd perm = true)
    (kk : ∀ (r : Int32) (u : S) (H1 : Heap) (locs1 : List Loc), post r u → va_P D vwCl (wn u) H1 → va_D A0 (wn u) → va_S A0 H0 H1 locs1 → H.size ≤ H1.size → W p l e R s m args below meth c H1 locs1 (cells + mc) (slots + ms) Q (F0 m (pc + 3) ls (.int r :: rest))) : W p l e R s m args below meth c H locs cells slots Q (F0 m pc ls st0) := by
  have hF := va_free hD hS hA isC hC
  refine va_calli hr hS (fun q _ h => hF q h) hF (fun r u t H1 locs1 ht hvm hw hB hz1 hk1 hS1 => ?_)
  obtain ⟨hP1, hD1⟩ := hB
  rw [ht] at hP1
  obtain ⟨hP2, hD2⟩ := va_join (wr := wr) (w1 := wc' u) hP hD isC isR hC hR hn hdis hk1 hF hP1 hD1
  exact kk r u H1 locs1 hw (hP2.sub perm (fm_of (hp u))) (hD2.sub perm hpn (hp u)) hS1 hz1
theorem call_Ml {post : Int64 → S → Prop} {wc' wn : S → va_W} (hr : va_Run p l e R s m args below meth c H locs cells slots mc ms (F0 m pc ls st0) rest (va_Ql post (fun u t => We D (va_A wc H.size) (wc' u) t) (va_A wc H.size) a) (va_A wc H.size))
    (hP : va_P D vwCl ws H) (hD : va_D A0 ws) (hS : va_S A0 H0 H locs) (hA : ∀ q, H0.size ≤ q → A0 q) (isC isR perm : List Nat) (hC : isC.map (fun i => ws[i]?) = wc.map some) (hR : isR.map (fun i => ws[i]?) = wr.map some) (hn : va_nd isR = true) (hdis : ∀ i ∈ isR, i ∉ isC) (hp : ∀ u, perm.map (fun i => (wr ++ wc' u)[i]?) = (wn u).map some) (hpn : va_nd perm = true)
    (kk : ∀ (r : Int64) (u : S) (H1 : Heap) (locs1 : List Loc), post r u → va_P D vwCl (wn u) H1 → va_D A0 (wn u) → va_S A0 H0 H1 locs1 → H.size ≤ H1.size → W p l e R s m args below meth c H1 locs1 (cells + mc) (slots + ms) Q (F0 m (pc + 3) ls (.long r :: rest))) : W p l e R s m args below meth c H locs cells slots Q (F0 m pc ls st0) := by
  have hF := va_free hD hS hA isC hC
  refine va_calll hr hS (fun q _ h => hF q h) hF (fun r u t H1 locs1 ht hvm hw hB hz1 hk1 hS1 => ?_)
  obtain ⟨hP1, hD1⟩ := hB
  rw [ht] at hP1
  obtain ⟨hP2, hD2⟩ := va_join (wr := wr) (w1 := wc' u) hP hD isC isR hC hR hn hdis hk1 hF hP1 hD1
  exact kk r u H1 locs1 hw (hP2.sub perm (fm_of (hp u))) (hD2.sub perm hpn (hp u)) hS1 hz1
theorem call_Mv {post : S → Prop} {wc' wn : S → va_W} (hr : va_Run p l e R s m args below meth c H locs cells slots mc ms (F0 m pc ls st0) rest (va_Qv post (fun u t => We D (va_A wc H.size) (wc' u) t) (va_A wc H.size) a) (va_A wc H.size))
    (hP : va_P D vwCl ws H) (hD : va_D A0 ws) (hS : va_S A0 H0 H locs) (hA : ∀ q, H0.size ≤ q → A0 q) (isC isR perm : List Nat) (hC : isC.map (fun i => ws[i]?) = wc.map some) (hR : isR.map (fun i => ws[i]?) = wr.map some) (hn : va_nd isR = true) (hdis : ∀ i ∈ isR, i ∉ isC) (hp : ∀ u, perm.map (fun i => (wr ++ wc' u)[i]?) = (wn u).map some) (hpn : va_nd perm = true)
    (kk : ∀ (u : S) (H1 : Heap) (locs1 : List Loc), post u → va_P D vwCl (wn u) H1 → va_D A0 (wn u) → va_S A0 H0 H1 locs1 → H.size ≤ H1.size → W p l e R s m args below meth c H1 locs1 (cells + mc) (slots + ms) Q (F0 m (pc + 3) ls (rest))) : W p l e R s m args below meth c H locs cells slots Q (F0 m pc ls st0) := by
  have hF := va_free hD hS hA isC hC
  refine va_callv hr hS (fun q _ h => hF q h) hF (fun u t H1 locs1 ht hvm hw hB hz1 hk1 hS1 => ?_)
  obtain ⟨hP1, hD1⟩ := hB
  rw [ht] at hP1
  obtain ⟨hP2, hD2⟩ := va_join (wr := wr) (w1 := wc' u) hP hD isC isR hC hR hn hdis hk1 hF hP1 hD1
  exact kk u H1 locs1 hw (hP2.sub perm (fm_of (hp u))) (hD2.sub perm hpn (hp u)) hS1 hz1
-- ends
theorem ret_Mi {post : Int32 → S → Prop} {ws' : S → va_W} (hx : p.tables.exec = Jvm.exec) (hb : c.code = cc) (hr : meth.sig.returnType = some .int) (hlk : meth.locks = false) {v : Int32} (u : S) (hv : post v u) (hP : va_P D vwCl (ws' u) H) (hD : va_D A (ws' u)) (hS : va_S A s.heap H locs) (hc : cells ≤ mc) (hs : slots ≤ ms) (hdg : decode cc pc = .ok (.ireturn, 1)) : W p l e R s m args below meth c H locs cells slots (MQ below (va_Qi post (fun u t => We D A (ws' u) t) A) args s mc ms A) (F0 m pc ls [.int v]) :=
  W.widen (k := mc) (n := ms) hc hs (W.iret (v := v) hx hb hr (fun t ht hW => ⟨⟨v, u, rfl, hv, ⟨by rw [ht]; exact hP, hD⟩⟩, hS.F ht⟩) hS.2.2 hdg hlk)
theorem ret_Mz {post : Int32 → S → Prop} {ws' : S → va_W} {ty : FieldType} (hx : p.tables.exec = Jvm.exec) (hb : c.code = cc) (hr : meth.sig.returnType = some ty) (hlk : meth.locks = false) {v : Int32} (hn : narrow ty (.int v) = .int v) (u : S) (hv : post v u) (hP : va_P D vwCl (ws' u) H) (hD : va_D A (ws' u)) (hS : va_S A s.heap H locs) (hc : cells ≤ mc) (hs : slots ≤ ms) (hdg : decode cc pc = .ok (.ireturn, 1)) : W p l e R s m args below meth c H locs cells slots (MQ below (va_Qi post (fun u t => We D A (ws' u) t) A) args s mc ms A) (F0 m pc ls [.int v]) :=
  W.widen (k := mc) (n := ms) hc hs (W.zret (v := v) hx hb hr hn (fun t ht hW => ⟨⟨v, u, rfl, hv, ⟨by rw [ht]; exact hP, hD⟩⟩, hS.F ht⟩) hS.2.2 hdg hlk)
theorem ret_Ml {post : Int64 → S → Prop} {ws' : S → va_W} (hx : p.tables.exec = Jvm.exec) (hb : c.code = cc) (hr : meth.sig.returnType = some .long) (hlk : meth.locks = false) {v : Int64} (u : S) (hv : post v u) (hP : va_P D vwCl (ws' u) H) (hD : va_D A (ws' u)) (hS : va_S A s.heap H locs) (hc : cells ≤ mc) (hs : slots ≤ ms) (hdg : decode cc pc = .ok (.lreturn, 1)) : W p l e R s m args below meth c H locs cells slots (MQ below (va_Ql post (fun u t => We D A (ws' u) t) A) args s mc ms A) (F0 m pc ls [.long v]) :=
  W.widen (k := mc) (n := ms) hc hs (W.lret (v := v) hx hb hr (fun t ht hW => ⟨⟨v, u, rfl, hv, ⟨by rw [ht]; exact hP, hD⟩⟩, hS.F ht⟩) hS.2.2 hdg hlk)
theorem ret_Mv {post : S → Prop} {ws' : S → va_W} (hx : p.tables.exec = Jvm.exec) (hb : c.code = cc) (hr : meth.sig.returnType = none) (hlk : meth.locks = false) (u : S) (hv : post u) (hP : va_P D vwCl (ws' u) H) (hD : va_D A (ws' u)) (hS : va_S A s.heap H locs) (hc : cells ≤ mc) (hs : slots ≤ ms) (hdg : decode cc pc = .ok (.return_, 1)) : W p l e R s m args below meth c H locs cells slots (MQ below (va_Qv post (fun u t => We D A (ws' u) t) A) args s mc ms A) (F0 m pc ls []) :=
  W.widen (k := mc) (n := ms) hc hs (W.vret hx hb hr (fun t ht hW => ⟨⟨u, rfl, hv, ⟨by rw [ht]; exact hP, hD⟩⟩, hS.F ht⟩) hS.2.2 hdg hlk)
theorem ret_Qi {post : Int32 → Prop} (hx : p.tables.exec = Jvm.exec) (hb : c.code = cc) (hr : meth.sig.returnType = some .int) (hlk : meth.locks = false) {v : Int32} (hv : post v) (hdg : decode cc pc = .ok (.ireturn, 1)) : W p l e R s m args below meth c s.heap [] 0 0 (MQ below (vp_Si post) args s 0 0 (fun _ => False)) (F0 m pc ls [.int v]) :=
  W.iret (v := v) hx hb hr (fun t ht hW => ⟨v, rfl, hv, ht⟩) (fun _ h => by cases h) hdg hlk
theorem ret_Qz {post : Int32 → Prop} {ty : FieldType} (hx : p.tables.exec = Jvm.exec) (hb : c.code = cc) (hr : meth.sig.returnType = some ty) (hlk : meth.locks = false) {v : Int32} (hn : narrow ty (.int v) = .int v) (hv : post v) (hdg : decode cc pc = .ok (.ireturn, 1)) : W p l e R s m args below meth c s.heap [] 0 0 (MQ below (vp_Si post) args s 0 0 (fun _ => False)) (F0 m pc ls [.int v]) :=
  W.zret (v := v) hx hb hr hn (fun t ht hW => ⟨v, rfl, hv, ht⟩) (fun _ h => by cases h) hdg hlk
theorem ret_Ql {post : Int64 → Prop} (hx : p.tables.exec = Jvm.exec) (hb : c.code = cc) (hr : meth.sig.returnType = some .long) (hlk : meth.locks = false) {v : Int64} (hv : post v) (hdg : decode cc pc = .ok (.lreturn, 1)) : W p l e R s m args below meth c s.heap [] 0 0 (MQ below (vp_Sl post) args s 0 0 (fun _ => False)) (F0 m pc ls [.long v]) :=
  W.lret (v := v) hx hb hr (fun t ht hW => ⟨v, rfl, hv, ht⟩) (fun _ h => by cases h) hdg hlk
theorem ret_Qq {post : Option Nat → Prop} {rt : FieldType} (hx : p.tables.exec = Jvm.exec) (hb : c.code = cc) (hr : meth.sig.returnType = some rt) (hrt : (∃ n, rt = .object n) ∨ ∃ t, rt = .array t) (hlk : meth.locks = false) {v : Value} (r : Option Nat) (hvr : v = va_rf r) (hv : post r) (hdg : decode cc pc = .ok (.areturn, 1)) : W p l e R s m args below meth c s.heap [] 0 0 (MQ below (va_Sq post) args s 0 0 (fun _ => False)) (F0 m pc ls [v]) := by
  subst hvr
  exact W.aret hx hb hr hrt (va_rf_or r) (fun t ht hW => ⟨r, rfl, hv, ht⟩) (fun _ h => by cases h) hdg hlk
end CC
end
section
/-- the array classes: int, byte, long, boolean, Block, int rows -/
abbrev TY (t : Nat → ClassId) : List (ClassId × FieldType) := [(t 0, .int), (t 1, .byte), (t 2, .long), (t 3, .boolean), (t 4, .object "MemoryMap$Block"), (t 5, .array .int)]
section NA
variable {p : Program} {l : Launch} {e : Env} {R : Room} {s : State} {m : MethodId} {args : Array Value} {below : List Frame} {meth : Method} {c : Code} {H : Heap} {locs : List Loc} {cells slots : Nat} {Q : State → Prop}
variable {cc : ByteArray} {pc : Nat} {ls : Array Slot} {rest : List Value} {D : va_G} {cl : List vw_C} {A : Nat → Prop} {tys : List (ClassId × FieldType)} {ws : va_W} {H0 : Heap}
set_option maxHeartbeats 200000 in
theorem r_newI (hx : p.tables.exec = Jvm.exec) (hb : c.code = cc) (harr : (Cond.arrayClass .int).before args s = true) (hK : va_K D cl tys s) (hP : va_P D cl ws H) (hD : va_D A ws) (hS : va_S A H0 H locs) (hA : ∀ q, H0.size ≤ q → A q) (t0 : Nat) {cI : ClassId} (ht : tys[t0]? = some (cI, .int)) {n : Nat} (hn : n ≤ 65536) (hcells : cells + 1 ≤ R.cells) (hslots : slots + n ≤ R.slots) (hdg : decode cc pc = .ok (.newarray .int, 2))
    (kk : ∀ (q : Nat) (H1 : Heap), va_P D cl (ws ++ [(q, .inl (cI, n, .inl (nF (fun _ => 0))))]) H1 → va_D A (ws ++ [(q, .inl (cI, n, .inl (nF (fun _ => 0))))]) → va_S A H0 H1 locs → W p l e R s m args below meth c H1 locs (cells + 1) (slots + n) Q (F0 m (pc + 2) ls (.ref q :: rest))) : W p l e R s m args below meth c H locs cells slots Q (F0 m pc ls (.int (nI n) :: rest)) := by
  refine va_newa (atype := .int) hx hb harr (ty := .int) rfl hK hP hD hS hA (N' := n) (a0 := (n, .inl (nF (fun _ => 0)))) (fun cA => by rw [vp_cell_i]; rfl) (nI_pos (by omega)) (nI_clamp (by omega)) (by show n * 4 ≤ _; omega) hcells hslots hdg (fun q cA H1 hK1 hP1 hD1 hS1 => ?_)
  have e1 := va_nm_int (hK1.2 tys.length (cA, .int) (by simp)).2
  have e2 := va_nm_int (hK.2 t0 _ ht).2
  cases Option.some.inj (e1.symm.trans e2)
  exact kk q H1 hP1 hD1 hS1
set_option maxHeartbeats 200000 in
theorem r_newB (hx : p.tables.exec = Jvm.exec) (hb : c.code = cc) (harr : (Cond.arrayClass .byte).before args s = true) (hK : va_K D cl tys s) (hP : va_P D cl ws H) (hD : va_D A ws) (hS : va_S A H0 H locs) (hA : ∀ q, H0.size ≤ q → A q) (t0 : Nat) {cI : ClassId} (ht : tys[t0]? = some (cI, .byte)) {n : Nat} (hn : n ≤ 65536) (hcells : cells + 1 ≤ R.cells) (hslots : slots + n ≤ R.slots) (hdg : decode cc pc = .ok (.newarray .byte, 2))
    (kk : ∀ (q : Nat) (H1 : Heap), va_P D cl (ws ++ [(q, .inl (cI, n, .inl (fun _ => (0 : Int32))))]) H1 → va_D A (ws ++ [(q, .inl (cI, n, .inl (fun _ => (0 : Int32))))]) → va_S A H0 H1 locs → W p l e R s m args below meth c H1 locs (cells + 1) (slots + n) Q (F0 m (pc + 2) ls (.ref q :: rest))) : W p l e R s m args below meth c H locs cells slots Q (F0 m pc ls (.int (nI n) :: rest)) := by
  refine va_newa (atype := .byte) hx hb harr (ty := .byte) rfl hK hP hD hS hA (N' := n) (a0 := (n, .inl (fun _ => (0 : Int32)))) (fun cA => by rw [vp_cell_i]; rfl) (nI_pos (by omega)) (nI_clamp (by omega)) (by show n * 1 ≤ _; omega) hcells hslots hdg (fun q cA H1 hK1 hP1 hD1 hS1 => ?_)
  have e1 := va_nm_byte (hK1.2 tys.length (cA, .byte) (by simp)).2
  have e2 := va_nm_byte (hK.2 t0 _ ht).2
  cases Option.some.inj (e1.symm.trans e2)
  exact kk q H1 hP1 hD1 hS1
set_option maxHeartbeats 200000 in
theorem r_newZ (hx : p.tables.exec = Jvm.exec) (hb : c.code = cc) (harr : (Cond.arrayClass .boolean).before args s = true) (hK : va_K D cl tys s) (hP : va_P D cl ws H) (hD : va_D A ws) (hS : va_S A H0 H locs) (hA : ∀ q, H0.size ≤ q → A q) (t0 : Nat) {cI : ClassId} (ht : tys[t0]? = some (cI, .boolean)) {n : Nat} (hn : n ≤ 65536) (hcells : cells + 1 ≤ R.cells) (hslots : slots + n ≤ R.slots) (hdg : decode cc pc = .ok (.newarray .boolean, 2))
    (kk : ∀ (q : Nat) (H1 : Heap), va_P D cl (ws ++ [(q, .inl (cI, n, .inl (fun _ => (0 : Int32))))]) H1 → va_D A (ws ++ [(q, .inl (cI, n, .inl (fun _ => (0 : Int32))))]) → va_S A H0 H1 locs → W p l e R s m args below meth c H1 locs (cells + 1) (slots + n) Q (F0 m (pc + 2) ls (.ref q :: rest))) : W p l e R s m args below meth c H locs cells slots Q (F0 m pc ls (.int (nI n) :: rest)) := by
  refine va_newa (atype := .boolean) hx hb harr (ty := .boolean) rfl hK hP hD hS hA (N' := n) (a0 := (n, .inl (fun _ => (0 : Int32)))) (fun cA => by rw [vp_cell_i]; rfl) (nI_pos (by omega)) (nI_clamp (by omega)) (by show n * 1 ≤ _; omega) hcells hslots hdg (fun q cA H1 hK1 hP1 hD1 hS1 => ?_)
  have e1 := va_nm_boolean (hK1.2 tys.length (cA, .boolean) (by simp)).2
  have e2 := va_nm_boolean (hK.2 t0 _ ht).2
  cases Option.some.inj (e1.symm.trans e2)
  exact kk q H1 hP1 hD1 hS1
set_option maxHeartbeats 200000 in
theorem r_newJ (hx : p.tables.exec = Jvm.exec) (hb : c.code = cc) (harr : (Cond.arrayClass .long).before args s = true) (hK : va_K D cl tys s) (hP : va_P D cl ws H) (hD : va_D A ws) (hS : va_S A H0 H locs) (hA : ∀ q, H0.size ≤ q → A q) (t0 : Nat) {cI : ClassId} (ht : tys[t0]? = some (cI, .long)) {n : Nat} (hn : n ≤ 65536) (hcells : cells + 1 ≤ R.cells) (hslots : slots + n ≤ R.slots) (hdg : decode cc pc = .ok (.newarray .long, 2))
    (kk : ∀ (q : Nat) (H1 : Heap), va_P D cl (ws ++ [(q, .inl (cI, n, .inr (.inl (lF (fun _ => 0)))))]) H1 → va_D A (ws ++ [(q, .inl (cI, n, .inr (.inl (lF (fun _ => 0)))))]) → va_S A H0 H1 locs → W p l e R s m args below meth c H1 locs (cells + 1) (slots + n) Q (F0 m (pc + 2) ls (.ref q :: rest))) : W p l e R s m args below meth c H locs cells slots Q (F0 m pc ls (.int (nI n) :: rest)) := by
  refine va_newa (atype := .long) hx hb harr (ty := .long) rfl hK hP hD hS hA (N' := n) (a0 := (n, .inr (.inl (lF (fun _ => 0))))) (fun cA => by rw [vp_cell_l]; rfl) (nI_pos (by omega)) (nI_clamp (by omega)) (by show n * 8 ≤ _; omega) hcells hslots hdg (fun q cA H1 hK1 hP1 hD1 hS1 => ?_)
  have e1 := va_nm_long (hK1.2 tys.length (cA, .long) (by simp)).2
  have e2 := va_nm_long (hK.2 t0 _ ht).2
  cases Option.some.inj (e1.symm.trans e2)
  exact kk q H1 hP1 hD1 hS1
end NA
end
