section
-- ===== PART A: goes FIRST, ahead of the names: the tables' words, and 'selects' of the private methods out of them =====
/-- a private method of a class that the tables say can be made, by its rows of tables_1 -/
def lw_okq (q : MethodName × Nat) : Prop := (q.1.cls ≠ "java/lang/invoke/MethodHandle" ∧ q.1.cls ≠ "java/lang/invoke/VarHandle") ∧ Cond.instantiable q.1.cls q.2 ∈ tables_1 ∧ Cond.privateMethod q.1 ∈ tables_1 ∧ Cond.instanceMethod q.1 ∈ tables_1
theorem lw_p0 : lw_okq (⟨"MemoryMap$Regions", "overlap", "(II)Z"⟩, 4) := ⟨⟨by decide +kernel, by decide +kernel⟩, List.mem_of_getElem? (i := 29) (by decide +kernel), List.mem_of_getElem? (i := 178) (by decide +kernel), List.mem_of_getElem? (i := 179) (by decide +kernel)⟩
theorem lw_p1 : lw_okq (⟨"MemoryMap$Regions", "add", "(III)I"⟩, 4) := ⟨⟨by decide +kernel, by decide +kernel⟩, List.mem_of_getElem? (i := 29) (by decide +kernel), List.mem_of_getElem? (i := 182) (by decide +kernel), List.mem_of_getElem? (i := 183) (by decide +kernel)⟩
theorem lw_p2 : lw_okq (⟨"MemoryMap$Taken", "clear", "()V"⟩, 3) := ⟨⟨by decide +kernel, by decide +kernel⟩, List.mem_of_getElem? (i := 79) (by decide +kernel), List.mem_of_getElem? (i := 190) (by decide +kernel), List.mem_of_getElem? (i := 191) (by decide +kernel)⟩
theorem lw_p3 : lw_okq (⟨"MemoryMap", "takeSpaceFor", "(I)I"⟩, 9) := ⟨⟨by decide +kernel, by decide +kernel⟩, List.mem_of_getElem? (i := 21) (by decide +kernel), List.mem_of_getElem? (i := 194) (by decide +kernel), List.mem_of_getElem? (i := 195) (by decide +kernel)⟩
theorem lw_p4 : lw_okq (⟨"MemoryMap$Regions", "allow", "(II)Z"⟩, 4) := ⟨⟨by decide +kernel, by decide +kernel⟩, List.mem_of_getElem? (i := 29) (by decide +kernel), List.mem_of_getElem? (i := 198) (by decide +kernel), List.mem_of_getElem? (i := 199) (by decide +kernel)⟩
theorem lw_p5 : lw_okq (⟨"MemoryMap$Taken", "leastFree", "(III)I"⟩, 3) := ⟨⟨by decide +kernel, by decide +kernel⟩, List.mem_of_getElem? (i := 79) (by decide +kernel), List.mem_of_getElem? (i := 202) (by decide +kernel), List.mem_of_getElem? (i := 203) (by decide +kernel)⟩
theorem lw_p6 : lw_okq (⟨"MemoryMap$Taken", "add", "(II)V"⟩, 3) := ⟨⟨by decide +kernel, by decide +kernel⟩, List.mem_of_getElem? (i := 79) (by decide +kernel), List.mem_of_getElem? (i := 209) (by decide +kernel), List.mem_of_getElem? (i := 210) (by decide +kernel)⟩
theorem lw_p7 : lw_okq (⟨"MemoryMap$Placements", "add", "([II)V"⟩, 5) := ⟨⟨by decide +kernel, by decide +kernel⟩, List.mem_of_getElem? (i := 95) (by decide +kernel), List.mem_of_getElem? (i := 213) (by decide +kernel), List.mem_of_getElem? (i := 214) (by decide +kernel)⟩
theorem lw_p8 : lw_okq (⟨"MemoryMap$Functions", "addCall", "(II)V"⟩, 3) := ⟨⟨by decide +kernel, by decide +kernel⟩, List.mem_of_getElem? (i := 122) (by decide +kernel), List.mem_of_getElem? (i := 232) (by decide +kernel), List.mem_of_getElem? (i := 233) (by decide +kernel)⟩
theorem lw_p9 : lw_okq (⟨"MemoryMap$Functions", "countCalls", "(I)I"⟩, 3) := ⟨⟨by decide +kernel, by decide +kernel⟩, List.mem_of_getElem? (i := 122) (by decide +kernel), List.mem_of_getElem? (i := 236) (by decide +kernel), List.mem_of_getElem? (i := 237) (by decide +kernel)⟩
theorem lw_p10 : lw_okq (⟨"MemoryMap$Functions", "depthFrom", "(I)I"⟩, 3) := ⟨⟨by decide +kernel, by decide +kernel⟩, List.mem_of_getElem? (i := 122) (by decide +kernel), List.mem_of_getElem? (i := 251) (by decide +kernel), List.mem_of_getElem? (i := 252) (by decide +kernel)⟩
theorem lw_p11 : lw_okq (⟨"MemoryMap$Functions", "settleMore", "(I)I"⟩, 3) := ⟨⟨by decide +kernel, by decide +kernel⟩, List.mem_of_getElem? (i := 122) (by decide +kernel), List.mem_of_getElem? (i := 258) (by decide +kernel), List.mem_of_getElem? (i := 259) (by decide +kernel)⟩
theorem lw_p12 : lw_okq (⟨"MemoryMap$Functions", "deepestCalled", "(I)I"⟩, 3) := ⟨⟨by decide +kernel, by decide +kernel⟩, List.mem_of_getElem? (i := 122) (by decide +kernel), List.mem_of_getElem? (i := 262) (by decide +kernel), List.mem_of_getElem? (i := 263) (by decide +kernel)⟩
theorem lw_p13 : lw_okq (⟨"MemoryMap", "blockNumbered", "(I)LMemoryMap$Block;"⟩, 9) := ⟨⟨by decide +kernel, by decide +kernel⟩, List.mem_of_getElem? (i := 21) (by decide +kernel), List.mem_of_getElem? (i := 313) (by decide +kernel), List.mem_of_getElem? (i := 314) (by decide +kernel)⟩
theorem lw_p14 : lw_okq (⟨"MemoryMap$Block", "hasOctet", "(I)Z"⟩, 3) := ⟨⟨by decide +kernel, by decide +kernel⟩, List.mem_of_getElem? (i := 273) (by decide +kernel), List.mem_of_getElem? (i := 317) (by decide +kernel), List.mem_of_getElem? (i := 318) (by decide +kernel)⟩
theorem lw_p15 : lw_okq (⟨"MemoryMap$Copy", "setOctet", "(IB)V"⟩, 2) := ⟨⟨by decide +kernel, by decide +kernel⟩, List.mem_of_getElem? (i := 279) (by decide +kernel), List.mem_of_getElem? (i := 322) (by decide +kernel), List.mem_of_getElem? (i := 323) (by decide +kernel)⟩
def lw_privs_1 : List (MethodName × Nat) := [(⟨"MemoryMap$Regions", "overlap", "(II)Z"⟩, 4), (⟨"MemoryMap$Regions", "add", "(III)I"⟩, 4), (⟨"MemoryMap$Taken", "clear", "()V"⟩, 3), (⟨"MemoryMap", "takeSpaceFor", "(I)I"⟩, 9), (⟨"MemoryMap$Regions", "allow", "(II)Z"⟩, 4), (⟨"MemoryMap$Taken", "leastFree", "(III)I"⟩, 3), (⟨"MemoryMap$Taken", "add", "(II)V"⟩, 3), (⟨"MemoryMap$Placements", "add", "([II)V"⟩, 5), (⟨"MemoryMap$Functions", "addCall", "(II)V"⟩, 3), (⟨"MemoryMap$Functions", "countCalls", "(I)I"⟩, 3), (⟨"MemoryMap$Functions", "depthFrom", "(I)I"⟩, 3), (⟨"MemoryMap$Functions", "settleMore", "(I)I"⟩, 3), (⟨"MemoryMap$Functions", "deepestCalled", "(I)I"⟩, 3), (⟨"MemoryMap", "blockNumbered", "(I)LMemoryMap$Block;"⟩, 9), (⟨"MemoryMap$Block", "hasOctet", "(I)Z"⟩, 3), (⟨"MemoryMap$Copy", "setOctet", "(IB)V"⟩, 2)]
theorem lw_r1 : ∀ q ∈ lw_privs_1, lw_okq q := List.forall_mem_cons.mpr ⟨lw_p0, List.forall_mem_cons.mpr ⟨lw_p1, List.forall_mem_cons.mpr ⟨lw_p2, List.forall_mem_cons.mpr ⟨lw_p3, List.forall_mem_cons.mpr ⟨lw_p4, List.forall_mem_cons.mpr ⟨lw_p5, List.forall_mem_cons.mpr ⟨lw_p6, List.forall_mem_cons.mpr ⟨lw_p7, List.forall_mem_cons.mpr ⟨lw_p8, List.forall_mem_cons.mpr ⟨lw_p9, List.forall_mem_cons.mpr ⟨lw_p10, List.forall_mem_cons.mpr ⟨lw_p11, List.forall_mem_cons.mpr ⟨lw_p12, List.forall_mem_cons.mpr ⟨lw_p13, List.forall_mem_cons.mpr ⟨lw_p14, List.forall_mem_cons.mpr ⟨lw_p15, fun _ h => absurd h List.not_mem_nil⟩⟩⟩⟩⟩⟩⟩⟩⟩⟩⟩⟩⟩⟩⟩⟩
theorem lw_p16 : lw_okq (⟨"MemoryMap$Copy", "flip", "(II)I"⟩, 2) := ⟨⟨by decide +kernel, by decide +kernel⟩, List.mem_of_getElem? (i := 279) (by decide +kernel), List.mem_of_getElem? (i := 331) (by decide +kernel), List.mem_of_getElem? (i := 332) (by decide +kernel)⟩
theorem lw_p17 : lw_okq (⟨"MemoryMap$Block", "repair", "()I"⟩, 3) := ⟨⟨by decide +kernel, by decide +kernel⟩, List.mem_of_getElem? (i := 273) (by decide +kernel), List.mem_of_getElem? (i := 339) (by decide +kernel), List.mem_of_getElem? (i := 340) (by decide +kernel)⟩
theorem lw_p18 : lw_okq (⟨"MemoryMap$Copy", "isGood", "()Z"⟩, 2) := ⟨⟨by decide +kernel, by decide +kernel⟩, List.mem_of_getElem? (i := 279) (by decide +kernel), List.mem_of_getElem? (i := 343) (by decide +kernel), List.mem_of_getElem? (i := 344) (by decide +kernel)⟩
theorem lw_p19 : lw_okq (⟨"MemoryMap$Copy", "become", "(LMemoryMap$Copy;)V"⟩, 2) := ⟨⟨by decide +kernel, by decide +kernel⟩, List.mem_of_getElem? (i := 279) (by decide +kernel), List.mem_of_getElem? (i := 347) (by decide +kernel), List.mem_of_getElem? (i := 348) (by decide +kernel)⟩
theorem lw_p20 : lw_okq (⟨"MemoryMap$Copy", "clear", "()V"⟩, 2) := ⟨⟨by decide +kernel, by decide +kernel⟩, List.mem_of_getElem? (i := 279) (by decide +kernel), List.mem_of_getElem? (i := 352) (by decide +kernel), List.mem_of_getElem? (i := 353) (by decide +kernel)⟩
theorem lw_p21 : lw_okq (⟨"MemoryMap$Placements", "countMovedSince", "(I)I"⟩, 5) := ⟨⟨by decide +kernel, by decide +kernel⟩, List.mem_of_getElem? (i := 95) (by decide +kernel), List.mem_of_getElem? (i := 363) (by decide +kernel), List.mem_of_getElem? (i := 364) (by decide +kernel)⟩
theorem lw_p22 : lw_okq (⟨"java/lang/Throwable", "fillInStackTrace", "(I)Ljava/lang/Throwable;"⟩, 6) := ⟨⟨by decide +kernel, by decide +kernel⟩, List.mem_of_getElem? (i := 415) (by decide +kernel), List.mem_of_getElem? (i := 413) (by decide +kernel), List.mem_of_getElem? (i := 414) (by decide +kernel)⟩
theorem lw_p23 : lw_okq (⟨"MemoryMap$Sections", "add", "(III)I"⟩, 5) := ⟨⟨by decide +kernel, by decide +kernel⟩, List.mem_of_getElem? (i := 52) (by decide +kernel), List.mem_of_getElem? (i := 444) (by decide +kernel), List.mem_of_getElem? (i := 445) (by decide +kernel)⟩
theorem lw_p24 : lw_okq (⟨"MemoryMap$Sections", "enterInOrder", "(I)V"⟩, 5) := ⟨⟨by decide +kernel, by decide +kernel⟩, List.mem_of_getElem? (i := 52) (by decide +kernel), List.mem_of_getElem? (i := 448) (by decide +kernel), List.mem_of_getElem? (i := 449) (by decide +kernel)⟩
theorem lw_p25 : lw_okq (⟨"MemoryMapModel", "next", "(I)I"⟩, 25) := ⟨⟨by decide +kernel, by decide +kernel⟩, List.mem_of_getElem? (i := 481) (by decide +kernel), List.mem_of_getElem? (i := 583) (by decide +kernel), List.mem_of_getElem? (i := 584) (by decide +kernel)⟩
theorem lw_p26 : lw_okq (⟨"MemoryMapModel", "isBefore", "(II)Z"⟩, 25) := ⟨⟨by decide +kernel, by decide +kernel⟩, List.mem_of_getElem? (i := 481) (by decide +kernel), List.mem_of_getElem? (i := 587) (by decide +kernel), List.mem_of_getElem? (i := 588) (by decide +kernel)⟩
theorem lw_p27 : lw_okq (⟨"MemoryMapModel", "findAny", "(I)I"⟩, 25) := ⟨⟨by decide +kernel, by decide +kernel⟩, List.mem_of_getElem? (i := 481) (by decide +kernel), List.mem_of_getElem? (i := 591) (by decide +kernel), List.mem_of_getElem? (i := 592) (by decide +kernel)⟩
theorem lw_p28 : lw_okq (⟨"MemoryMapModel", "find", "(II)I"⟩, 25) := ⟨⟨by decide +kernel, by decide +kernel⟩, List.mem_of_getElem? (i := 481) (by decide +kernel), List.mem_of_getElem? (i := 595) (by decide +kernel), List.mem_of_getElem? (i := 596) (by decide +kernel)⟩
theorem lw_p29 : lw_okq (⟨"MemoryMapModel", "reckon", "(I)J"⟩, 25) := ⟨⟨by decide +kernel, by decide +kernel⟩, List.mem_of_getElem? (i := 481) (by decide +kernel), List.mem_of_getElem? (i := 626) (by decide +kernel), List.mem_of_getElem? (i := 627) (by decide +kernel)⟩
theorem lw_p30 : lw_okq (⟨"MemoryMapModel", "sum", "(II)I"⟩, 25) := ⟨⟨by decide +kernel, by decide +kernel⟩, List.mem_of_getElem? (i := 481) (by decide +kernel), List.mem_of_getElem? (i := 635) (by decide +kernel), List.mem_of_getElem? (i := 636) (by decide +kernel)⟩
theorem lw_p31 : lw_okq (⟨"MemoryMapModel", "noBlock", "(I)Z"⟩, 25) := ⟨⟨by decide +kernel, by decide +kernel⟩, List.mem_of_getElem? (i := 481) (by decide +kernel), List.mem_of_getElem? (i := 647) (by decide +kernel), List.mem_of_getElem? (i := 648) (by decide +kernel)⟩
def lw_privs_2 : List (MethodName × Nat) := [(⟨"MemoryMap$Copy", "flip", "(II)I"⟩, 2), (⟨"MemoryMap$Block", "repair", "()I"⟩, 3), (⟨"MemoryMap$Copy", "isGood", "()Z"⟩, 2), (⟨"MemoryMap$Copy", "become", "(LMemoryMap$Copy;)V"⟩, 2), (⟨"MemoryMap$Copy", "clear", "()V"⟩, 2), (⟨"MemoryMap$Placements", "countMovedSince", "(I)I"⟩, 5), (⟨"java/lang/Throwable", "fillInStackTrace", "(I)Ljava/lang/Throwable;"⟩, 6), (⟨"MemoryMap$Sections", "add", "(III)I"⟩, 5), (⟨"MemoryMap$Sections", "enterInOrder", "(I)V"⟩, 5), (⟨"MemoryMapModel", "next", "(I)I"⟩, 25), (⟨"MemoryMapModel", "isBefore", "(II)Z"⟩, 25), (⟨"MemoryMapModel", "findAny", "(I)I"⟩, 25), (⟨"MemoryMapModel", "find", "(II)I"⟩, 25), (⟨"MemoryMapModel", "reckon", "(I)J"⟩, 25), (⟨"MemoryMapModel", "sum", "(II)I"⟩, 25), (⟨"MemoryMapModel", "noBlock", "(I)Z"⟩, 25)]
theorem lw_r2 : ∀ q ∈ lw_privs_2, lw_okq q := List.forall_mem_cons.mpr ⟨lw_p16, List.forall_mem_cons.mpr ⟨lw_p17, List.forall_mem_cons.mpr ⟨lw_p18, List.forall_mem_cons.mpr ⟨lw_p19, List.forall_mem_cons.mpr ⟨lw_p20, List.forall_mem_cons.mpr ⟨lw_p21, List.forall_mem_cons.mpr ⟨lw_p22, List.forall_mem_cons.mpr ⟨lw_p23, List.forall_mem_cons.mpr ⟨lw_p24, List.forall_mem_cons.mpr ⟨lw_p25, List.forall_mem_cons.mpr ⟨lw_p26, List.forall_mem_cons.mpr ⟨lw_p27, List.forall_mem_cons.mpr ⟨lw_p28, List.forall_mem_cons.mpr ⟨lw_p29, List.forall_mem_cons.mpr ⟨lw_p30, List.forall_mem_cons.mpr ⟨lw_p31, fun _ h => absurd h List.not_mem_nil⟩⟩⟩⟩⟩⟩⟩⟩⟩⟩⟩⟩⟩⟩⟩⟩
def lw_privs : List (MethodName × Nat) := lw_privs_1 ++ (lw_privs_2)
def lw_tbl : List Cond := k2_sels lw_privs ++ tables_1
theorem lw_privs_ok : ∀ q ∈ lw_privs, lw_okq q := by
  show ∀ q ∈ lw_privs_1 ++ (lw_privs_2), lw_okq q
  exact List.forall_mem_append.mpr ⟨lw_r1, lw_r2⟩
end
section
/-! ===== BEGIN words of one list among another's, by their places ===== -/
theorem goodIn_r {big : List Cond} (ws : List Cond) (ps : List Nat) (hp : ws = ps.filterMap (fun i => big[i]?)) (h : ws.all goodWord = true) : GoodIn big ws := by
  intro w hw
  have h1 := List.all_eq_true.mp h w hw
  rw [hp] at hw
  obtain ⟨i, -, hi⟩ := List.mem_filterMap.mp hw
  have hm : w ∈ big := by first | exact List.mem_of_getElem? hi | exact List.getElem?_mem hi
  exact ⟨hm, good_of_word h1⟩
theorem goodIn_app {big a b : List Cond} (ha : GoodIn big a) (hb : GoodIn big b) : GoodIn big (a ++ b) := fun w h => (List.mem_append.mp h).elim (ha w) (hb w)
theorem goodIn_ca {big a b : List Cond} {c : Cond} (ha : GoodIn big (c :: a)) (hb : GoodIn big b) : GoodIn big (c :: (a ++ b)) := fun w h => (List.mem_cons.mp h).elim (fun e => ha w (List.mem_cons.mpr (Or.inl e))) (fun h => (List.mem_append.mp h).elim (fun h => ha w (List.mem_cons.mpr (Or.inr h))) (hb w))
theorem goodIn_sub {big ws : List Cond} (hm : ∀ w ∈ ws, w ∈ big) (h : ws.all goodWord = true) : GoodIn big ws := fun w hw => ⟨hm w hw, good_of_word (List.all_eq_true.mp h w hw)⟩
/-! ===== END ===== -/
def vx_no (w : Cond) : Bool := decide (w ≠ .isRef (.static Bundle.tN "UNASSIGNED_STACK" Bundle.steD)) && decide (w ≠ .isRef (.static Bundle.tN "SUPPRESSED_SENTINEL" Bundle.listD)) && decide (w ≠ .laysStatic Bundle.tN "UNASSIGNED_STACK" Bundle.steD) && decide (w ≠ .laysStatic Bundle.tN "SUPPRESSED_SENTINEL" Bundle.listD)
def vx_at0 (own : String) (ic : Nat) (X : String) (names : List String) : List Cond := (Bundle.ownAtoms0 own ic X names).filter vx_no
def vx_atS (own : String) (ic : Nat) (X : String) (names : List String) : List Cond := (Bundle.ownAtoms own ic X names).filter vx_no
end
section
/-! ===== BEGIN printed: names, fields, word lists, decode rows ===== -/
def RX0 : String := "MemoryMap$Block"
def TX0 : u_T := fun k => match k with
  | 0 => ("MemoryMap$Block", "length", "I", true)
  | 1 => ("MemoryMap$Block", "first", "LMemoryMap$Copy;", true)
  | _ => ("MemoryMap$Block", "second", "LMemoryMap$Copy;", true)
def tyX0 : Nat → FieldType := fun k => match k with
  | 0 => .int
  | 1 => .object "MemoryMap$Copy"
  | _ => .object "MemoryMap$Copy"
abbrev wsX00 : List Cond := u_ws RX0 TX0 3
theorem nmX0 : ∀ a, a < 3 → ∀ b, b < 3 → a ≠ b → (TX0 a).2.1 ≠ (TX0 b).2.1 := by decide +kernel
theorem tyX0_ok : ∀ k, k < 3 → parseFieldDescriptor (TX0 k).2.2.1 = some (tyX0 k) := by decide +kernel
abbrev cX0_init : ByteArray := prog_2_method_1_code
def yX0_init : MethodName := ⟨RX0, "<init>", "(I)V"⟩
abbrev cX0_hasOctet : ByteArray := prog_2_method_2_code
def yX0_hasOctet : MethodName := ⟨RX0, "hasOctet", "(I)Z"⟩
abbrev cX0_repair : ByteArray := prog_2_method_3_code
def yX0_repair : MethodName := ⟨RX0, "repair", "()I"⟩
def RX1 : String := "MemoryMap$Copy"
def TX1 : u_T := fun k => match k with
  | 0 => ("MemoryMap$Copy", "octets", "[B", true)
  | _ => ("MemoryMap$Copy", "sum", "I", false)
def tyX1 : Nat → FieldType := fun k => match k with
  | 0 => .array .byte
  | _ => .int
abbrev wsX10 : List Cond := u_ws RX1 TX1 2
theorem nmX1 : ∀ a, a < 2 → ∀ b, b < 2 → a ≠ b → (TX1 a).2.1 ≠ (TX1 b).2.1 := by decide +kernel
theorem tyX1_ok : ∀ k, k < 2 → parseFieldDescriptor (TX1 k).2.2.1 = some (tyX1 k) := by decide +kernel
abbrev cX1_init : ByteArray := prog_3_method_1_code
def yX1_init : MethodName := ⟨RX1, "<init>", "(I)V"⟩
abbrev cX1_isGood : ByteArray := prog_3_method_2_code
def yX1_isGood : MethodName := ⟨RX1, "isGood", "()Z"⟩
abbrev cX1_setOctet : ByteArray := prog_3_method_3_code
def yX1_setOctet : MethodName := ⟨RX1, "setOctet", "(IB)V"⟩
abbrev cX1_flip : ByteArray := prog_3_method_4_code
def yX1_flip : MethodName := ⟨RX1, "flip", "(II)I"⟩
abbrev cX1_become : ByteArray := prog_3_method_5_code
def yX1_become : MethodName := ⟨RX1, "become", "(LMemoryMap$Copy;)V"⟩
abbrev cX1_clear : ByteArray := prog_3_method_6_code
def yX1_clear : MethodName := ⟨RX1, "clear", "()V"⟩
abbrev cX1_sumOf : ByteArray := prog_3_method_7_code
def yX1_sumOf : MethodName := ⟨RX1, "sumOf", "([B)I"⟩
def RX2 : String := "MemoryMap$Functions"
def TX2 : u_T := fun k => match k with
  | 0 => ("MemoryMap$Functions", "stacks", "[I", true)
  | 1 => ("MemoryMap$Functions", "called", "[I", true)
  | _ => ("MemoryMap$Functions", "depths", "[I", true)
def tyX2 : Nat → FieldType := fun k => match k with
  | 0 => .array .int
  | 1 => .array .int
  | _ => .array .int
abbrev wsX20 : List Cond := u_ws RX2 TX2 3
theorem nmX2 : ∀ a, a < 3 → ∀ b, b < 3 → a ≠ b → (TX2 a).2.1 ≠ (TX2 b).2.1 := by decide +kernel
theorem tyX2_ok : ∀ k, k < 3 → parseFieldDescriptor (TX2 k).2.2.1 = some (tyX2 k) := by decide +kernel
abbrev cX2_init : ByteArray := prog_4_method_1_code
def yX2_init : MethodName := ⟨RX2, "<init>", "()V"⟩
abbrev cX2_addCall : ByteArray := prog_4_method_2_code
def yX2_addCall : MethodName := ⟨RX2, "addCall", "(II)V"⟩
abbrev cX2_countCalls : ByteArray := prog_4_method_3_code
def yX2_countCalls : MethodName := ⟨RX2, "countCalls", "(I)I"⟩
abbrev cX2_depthFrom : ByteArray := prog_4_method_4_code
def yX2_depthFrom : MethodName := ⟨RX2, "depthFrom", "(I)I"⟩
abbrev cX2_settleMore : ByteArray := prog_4_method_5_code
def yX2_settleMore : MethodName := ⟨RX2, "settleMore", "(I)I"⟩
abbrev cX2_deepestCalled : ByteArray := prog_4_method_6_code
def yX2_deepestCalled : MethodName := ⟨RX2, "deepestCalled", "(I)I"⟩
abbrev cX2_contains : ByteArray := prog_4_method_7_code
def yX2_contains : MethodName := ⟨RX2, "contains", "(II)Z"⟩
def RX3 : String := "MemoryMap$Placements"
def TX3 : u_T := fun k => match k with
  | 0 => ("MemoryMap$Placements", "last", "[I", true)
  | 1 => ("MemoryMap$Placements", "lastCount", "I", false)
  | 2 => ("MemoryMap$Placements", "kept", "[[I", true)
  | 3 => ("MemoryMap$Placements", "sectionCounts", "[I", true)
  | _ => ("MemoryMap$Placements", "keptCount", "I", false)
def tyX3 : Nat → FieldType := fun k => match k with
  | 0 => .array .int
  | 1 => .int
  | 2 => .array (.array .int)
  | 3 => .array .int
  | _ => .int
abbrev wsX30 : List Cond := u_ws RX3 TX3 5
theorem nmX3 : ∀ a, a < 5 → ∀ b, b < 5 → a ≠ b → (TX3 a).2.1 ≠ (TX3 b).2.1 := by decide +kernel
theorem tyX3_ok : ∀ k, k < 5 → parseFieldDescriptor (TX3 k).2.2.1 = some (tyX3 k) := by decide +kernel
abbrev cX3_init : ByteArray := prog_5_method_1_code
def yX3_init : MethodName := ⟨RX3, "<init>", "()V"⟩
abbrev cX3_add : ByteArray := prog_5_method_2_code
def yX3_add : MethodName := ⟨RX3, "add", "([II)V"⟩
abbrev cX3_countMovedSince : ByteArray := prog_5_method_3_code
def yX3_countMovedSince : MethodName := ⟨RX3, "countMovedSince", "(I)I"⟩
def RX4 : String := "MemoryMap$Regions"
def TX4 : u_T := fun k => match k with
  | 0 => ("MemoryMap$Regions", "starts", "[I", true)
  | 1 => ("MemoryMap$Regions", "ends", "[I", true)
  | 2 => ("MemoryMap$Regions", "rights", "[I", true)
  | _ => ("MemoryMap$Regions", "count", "I", false)
def tyX4 : Nat → FieldType := fun k => match k with
  | 0 => .array .int
  | 1 => .array .int
  | 2 => .array .int
  | _ => .int
abbrev wsX40 : List Cond := u_ws RX4 TX4 4
theorem nmX4 : ∀ a, a < 4 → ∀ b, b < 4 → a ≠ b → (TX4 a).2.1 ≠ (TX4 b).2.1 := by decide +kernel
theorem tyX4_ok : ∀ k, k < 4 → parseFieldDescriptor (TX4 k).2.2.1 = some (tyX4 k) := by decide +kernel
abbrev cX4_init : ByteArray := prog_6_method_1_code
def yX4_init : MethodName := ⟨RX4, "<init>", "()V"⟩
abbrev cX4_overlap : ByteArray := prog_6_method_2_code
def yX4_overlap : MethodName := ⟨RX4, "overlap", "(II)Z"⟩
abbrev cX4_allow : ByteArray := prog_6_method_3_code
def yX4_allow : MethodName := ⟨RX4, "allow", "(II)Z"⟩
abbrev cX4_add : ByteArray := prog_6_method_4_code
def yX4_add : MethodName := ⟨RX4, "add", "(III)I"⟩
def RX5 : String := "MemoryMap$Sections"
def TX5 : u_T := fun k => match k with
  | 0 => ("MemoryMap$Sections", "lengths", "[I", true)
  | 1 => ("MemoryMap$Sections", "aligns", "[I", true)
  | 2 => ("MemoryMap$Sections", "kinds", "[I", true)
  | 3 => ("MemoryMap$Sections", "greatestFirst", "[I", true)
  | _ => ("MemoryMap$Sections", "count", "I", false)
def tyX5 : Nat → FieldType := fun k => match k with
  | 0 => .array .int
  | 1 => .array .int
  | 2 => .array .int
  | 3 => .array .int
  | _ => .int
abbrev wsX50 : List Cond := u_ws RX5 TX5 5
theorem nmX5 : ∀ a, a < 5 → ∀ b, b < 5 → a ≠ b → (TX5 a).2.1 ≠ (TX5 b).2.1 := by decide +kernel
theorem tyX5_ok : ∀ k, k < 5 → parseFieldDescriptor (TX5 k).2.2.1 = some (tyX5 k) := by decide +kernel
abbrev cX5_init : ByteArray := prog_7_method_1_code
def yX5_init : MethodName := ⟨RX5, "<init>", "()V"⟩
abbrev cX5_add : ByteArray := prog_7_method_2_code
def yX5_add : MethodName := ⟨RX5, "add", "(III)I"⟩
abbrev cX5_enterInOrder : ByteArray := prog_7_method_3_code
def yX5_enterInOrder : MethodName := ⟨RX5, "enterInOrder", "(I)V"⟩
def RX6 : String := "MemoryMap$Taken"
def TX6 : u_T := fun k => match k with
  | 0 => ("MemoryMap$Taken", "starts", "[I", true)
  | 1 => ("MemoryMap$Taken", "ends", "[I", true)
  | _ => ("MemoryMap$Taken", "count", "I", false)
def tyX6 : Nat → FieldType := fun k => match k with
  | 0 => .array .int
  | 1 => .array .int
  | _ => .int
abbrev wsX60 : List Cond := u_ws RX6 TX6 3
theorem nmX6 : ∀ a, a < 3 → ∀ b, b < 3 → a ≠ b → (TX6 a).2.1 ≠ (TX6 b).2.1 := by decide +kernel
theorem tyX6_ok : ∀ k, k < 3 → parseFieldDescriptor (TX6 k).2.2.1 = some (tyX6 k) := by decide +kernel
abbrev cX6_init : ByteArray := prog_8_method_1_code
def yX6_init : MethodName := ⟨RX6, "<init>", "()V"⟩
abbrev cX6_clear : ByteArray := prog_8_method_2_code
def yX6_clear : MethodName := ⟨RX6, "clear", "()V"⟩
abbrev cX6_leastFree : ByteArray := prog_8_method_3_code
def yX6_leastFree : MethodName := ⟨RX6, "leastFree", "(III)I"⟩
abbrev cX6_add : ByteArray := prog_8_method_4_code
def yX6_add : MethodName := ⟨RX6, "add", "(II)V"⟩
abbrev cX6_alignedUp : ByteArray := prog_8_method_5_code
def yX6_alignedUp : MethodName := ⟨RX6, "alignedUp", "(II)I"⟩
def RX7 : String := "MemoryMap"
def TX7 : u_T := fun k => match k with
  | 0 => ("MemoryMap", "size", "I", true)
  | 1 => ("MemoryMap", "regions", "LMemoryMap$Regions;", true)
  | 2 => ("MemoryMap", "sections", "LMemoryMap$Sections;", true)
  | 3 => ("MemoryMap", "taken", "LMemoryMap$Taken;", true)
  | 4 => ("MemoryMap", "trial", "[I", true)
  | 5 => ("MemoryMap", "placements", "LMemoryMap$Placements;", true)
  | 6 => ("MemoryMap", "functions", "LMemoryMap$Functions;", true)
  | 7 => ("MemoryMap", "blocks", "[LMemoryMap$Block;", true)
  | _ => ("MemoryMap", "blockCount", "I", false)
def tyX7 : Nat → FieldType := fun k => match k with
  | 0 => .int
  | 1 => .object "MemoryMap$Regions"
  | 2 => .object "MemoryMap$Sections"
  | 3 => .object "MemoryMap$Taken"
  | 4 => .array .int
  | 5 => .object "MemoryMap$Placements"
  | 6 => .object "MemoryMap$Functions"
  | 7 => .array (.object "MemoryMap$Block")
  | _ => .int
abbrev wsX70 : List Cond := u_ws RX7 TX7 9
theorem nmX7 : ∀ a, a < 9 → ∀ b, b < 9 → a ≠ b → (TX7 a).2.1 ≠ (TX7 b).2.1 := by decide +kernel
theorem tyX7_ok : ∀ k, k < 9 → parseFieldDescriptor (TX7 k).2.2.1 = some (tyX7 k) := by decide +kernel
abbrev cX7_init : ByteArray := prog_1_method_1_code
def yX7_init : MethodName := ⟨RX7, "<init>", "(J)V"⟩
abbrev cX7_region : ByteArray := prog_1_method_2_code
def yX7_region : MethodName := ⟨RX7, "region", "(JJI)I"⟩
abbrev cX7_section : ByteArray := prog_1_method_3_code
def yX7_section : MethodName := ⟨RX7, "section", "(JJI)I"⟩
abbrev cX7_place : ByteArray := prog_1_method_4_code
def yX7_place : MethodName := ⟨RX7, "place", "()I"⟩
abbrev cX7_at : ByteArray := prog_1_method_5_code
def yX7_at : MethodName := ⟨RX7, "at", "(I)J"⟩
abbrev cX7_call : ByteArray := prog_1_method_6_code
def yX7_call : MethodName := ⟨RX7, "call", "(IIJ)I"⟩
abbrev cX7_depth : ByteArray := prog_1_method_7_code
def yX7_depth : MethodName := ⟨RX7, "depth", "(I)J"⟩
abbrev cX7_block : ByteArray := prog_1_method_8_code
def yX7_block : MethodName := ⟨RX7, "block", "(J)I"⟩
abbrev cX7_write : ByteArray := prog_1_method_9_code
def yX7_write : MethodName := ⟨RX7, "write", "(IIB)I"⟩
abbrev cX7_poke : ByteArray := prog_1_method_10_code
def yX7_poke : MethodName := ⟨RX7, "poke", "(IIII)I"⟩
abbrev cX7_read : ByteArray := prog_1_method_11_code
def yX7_read : MethodName := ⟨RX7, "read", "(I)I"⟩
abbrev cX7_cell : ByteArray := prog_1_method_12_code
def yX7_cell : MethodName := ⟨RX7, "cell", "(J)B"⟩
abbrev cX7_moved : ByteArray := prog_1_method_13_code
def yX7_moved : MethodName := ⟨RX7, "moved", "(I)I"⟩
abbrev cX7_takeSpaceFor : ByteArray := prog_1_method_14_code
def yX7_takeSpaceFor : MethodName := ⟨RX7, "takeSpaceFor", "(I)I"⟩
abbrev cX7_blockNumbered : ByteArray := prog_1_method_15_code
def yX7_blockNumbered : MethodName := ⟨RX7, "blockNumbered", "(I)LMemoryMap$Block;"⟩
abbrev cX7_isWithin : ByteArray := prog_1_method_16_code
def yX7_isWithin : MethodName := ⟨RX7, "isWithin", "(JJJ)Z"⟩
def RX8 : String := "MemoryMapModel"
def TX8 : u_T := fun k => match k with
  | 0 => ("MemoryMapModel", "thrown", "I", false)
  | 1 => ("MemoryMapModel", "size", "I", false)
  | 2 => ("MemoryMapModel", "froms", "[I", true)
  | 3 => ("MemoryMapModel", "ends", "[I", true)
  | 4 => ("MemoryMapModel", "rights", "[I", true)
  | 5 => ("MemoryMapModel", "regions", "I", false)
  | 6 => ("MemoryMapModel", "lengths", "[I", true)
  | 7 => ("MemoryMapModel", "aligns", "[I", true)
  | 8 => ("MemoryMapModel", "kinds", "[I", true)
  | 9 => ("MemoryMapModel", "sections", "I", false)
  | 10 => ("MemoryMapModel", "taken", "[B", true)
  | 11 => ("MemoryMapModel", "cells", "[B", true)
  | 12 => ("MemoryMapModel", "places", "[I", true)
  | 13 => ("MemoryMapModel", "trial", "[I", true)
  | 14 => ("MemoryMapModel", "placed", "I", false)
  | 15 => ("MemoryMapModel", "placements", "I", false)
  | 16 => ("MemoryMapModel", "kept", "[I", true)
  | 17 => ("MemoryMapModel", "keptMany", "[I", true)
  | 18 => ("MemoryMapModel", "stacks", "[J", true)
  | 19 => ("MemoryMapModel", "calls", "[Z", true)
  | 20 => ("MemoryMapModel", "depths", "[J", true)
  | 21 => ("MemoryMapModel", "octets", "[I", true)
  | 22 => ("MemoryMapModel", "copies", "[B", true)
  | 23 => ("MemoryMapModel", "sums", "[I", true)
  | _ => ("MemoryMapModel", "blocks", "I", false)
def tyX8 : Nat → FieldType := fun k => match k with
  | 0 => .int
  | 1 => .int
  | 2 => .array .int
  | 3 => .array .int
  | 4 => .array .int
  | 5 => .int
  | 6 => .array .int
  | 7 => .array .int
  | 8 => .array .int
  | 9 => .int
  | 10 => .array .byte
  | 11 => .array .byte
  | 12 => .array .int
  | 13 => .array .int
  | 14 => .int
  | 15 => .int
  | 16 => .array .int
  | 17 => .array .int
  | 18 => .array .long
  | 19 => .array .boolean
  | 20 => .array .long
  | 21 => .array .int
  | 22 => .array .byte
  | 23 => .array .int
  | _ => .int
abbrev wsX80 : List Cond := u_ws RX8 TX8 25
theorem nmX8 : ∀ a, a < 25 → ∀ b, b < 25 → a ≠ b → (TX8 a).2.1 ≠ (TX8 b).2.1 := by decide +kernel
theorem tyX8_ok : ∀ k, k < 25 → parseFieldDescriptor (TX8 k).2.2.1 = some (tyX8 k) := by decide +kernel
abbrev cX8_init : ByteArray := prog_10_method_1_code
def yX8_init : MethodName := ⟨RX8, "<init>", "(J)V"⟩
abbrev cX8_thrown : ByteArray := prog_10_method_2_code
def yX8_thrown : MethodName := ⟨RX8, "thrown", "()I"⟩
abbrev cX8_region : ByteArray := prog_10_method_3_code
def yX8_region : MethodName := ⟨RX8, "region", "(JJI)I"⟩
abbrev cX8_section : ByteArray := prog_10_method_4_code
def yX8_section : MethodName := ⟨RX8, "section", "(JJI)I"⟩
abbrev cX8_isBefore : ByteArray := prog_10_method_5_code
def yX8_isBefore : MethodName := ⟨RX8, "isBefore", "(II)Z"⟩
abbrev cX8_next : ByteArray := prog_10_method_6_code
def yX8_next : MethodName := ⟨RX8, "next", "(I)I"⟩
abbrev cX8_up : ByteArray := prog_10_method_7_code
def yX8_up : MethodName := ⟨RX8, "up", "(II)I"⟩
abbrev cX8_find : ByteArray := prog_10_method_8_code
def yX8_find : MethodName := ⟨RX8, "find", "(II)I"⟩
abbrev cX8_findAny : ByteArray := prog_10_method_9_code
def yX8_findAny : MethodName := ⟨RX8, "findAny", "(I)I"⟩
abbrev cX8_place : ByteArray := prog_10_method_10_code
def yX8_place : MethodName := ⟨RX8, "place", "()I"⟩
abbrev cX8_at : ByteArray := prog_10_method_11_code
def yX8_at : MethodName := ⟨RX8, "at", "(I)J"⟩
abbrev cX8_cell : ByteArray := prog_10_method_12_code
def yX8_cell : MethodName := ⟨RX8, "cell", "(J)B"⟩
abbrev cX8_moved : ByteArray := prog_10_method_13_code
def yX8_moved : MethodName := ⟨RX8, "moved", "(I)I"⟩
abbrev cX8_call : ByteArray := prog_10_method_14_code
def yX8_call : MethodName := ⟨RX8, "call", "(IIJ)I"⟩
abbrev cX8_reckon : ByteArray := prog_10_method_15_code
def yX8_reckon : MethodName := ⟨RX8, "reckon", "(I)J"⟩
abbrev cX8_depth : ByteArray := prog_10_method_16_code
def yX8_depth : MethodName := ⟨RX8, "depth", "(I)J"⟩
abbrev cX8_block : ByteArray := prog_10_method_17_code
def yX8_block : MethodName := ⟨RX8, "block", "(J)I"⟩
abbrev cX8_cell_ : ByteArray := prog_10_method_18_code
def yX8_cell_ : MethodName := ⟨RX8, "cell", "(III)I"⟩
abbrev cX8_sum : ByteArray := prog_10_method_19_code
def yX8_sum : MethodName := ⟨RX8, "sum", "(II)I"⟩
abbrev cX8_noBlock : ByteArray := prog_10_method_20_code
def yX8_noBlock : MethodName := ⟨RX8, "noBlock", "(I)Z"⟩
abbrev cX8_write : ByteArray := prog_10_method_21_code
def yX8_write : MethodName := ⟨RX8, "write", "(IIB)I"⟩
abbrev cX8_poke : ByteArray := prog_10_method_22_code
def yX8_poke : MethodName := ⟨RX8, "poke", "(IIII)I"⟩
abbrev cX8_read : ByteArray := prog_10_method_23_code
def yX8_read : MethodName := ⟨RX8, "read", "(I)I"⟩
def RJx00060 : String := "java/lang/ArrayIndexOutOfBoundsException"
def TJx00060 : u_T := fun k => match k with
  | 0 => ("java/lang/Throwable", "cause", "Ljava/lang/Throwable;", false)
  | 1 => ("java/lang/Throwable", "stackTrace", "[Ljava/lang/StackTraceElement;", false)
  | 2 => ("java/lang/Throwable", "suppressedExceptions", "Ljava/util/List;", false)
  | 3 => ("java/lang/Throwable", "detailMessage", "Ljava/lang/String;", false)
  | 4 => ("java/lang/Throwable", "backtrace", "Ljava/lang/Object;", false)
  | _ => ("java/lang/Throwable", "depth", "I", false)
def tyJx00060 : Nat → FieldType := fun k => match k with
  | 0 => .object "java/lang/Throwable"
  | 1 => .array (.object "java/lang/StackTraceElement")
  | 2 => .object "java/util/List"
  | 3 => .object "java/lang/String"
  | 4 => .object "java/lang/Object"
  | _ => .int
abbrev wsJx000600 : List Cond := u_ws RJx00060 TJx00060 6
theorem nmJx00060 : ∀ a, a < 6 → ∀ b, b < 6 → a ≠ b → (TJx00060 a).2.1 ≠ (TJx00060 b).2.1 := by decide +kernel
theorem tyJx00060_ok : ∀ k, k < 6 → parseFieldDescriptor (TJx00060 k).2.2.1 = some (tyJx00060 k) := by decide +kernel
abbrev cJx00060_init_a7421 : ByteArray := prog_12_method_2_code
def yJx00060_init_a7421 : MethodName := ⟨RJx00060, "<init>", "(Ljava/lang/String;)V"⟩
def RJ6 : String := "java/lang/Integer"
def TJ6 : u_T := fun k => match k with
  | _ => ("", "", "", false)
def tyJ6 : Nat → FieldType := fun k => match k with
  | _ => .int
abbrev wsJ60 : List Cond := u_ws RJ6 TJ6 0
theorem nmJ6 : ∀ a, a < 0 → ∀ b, b < 0 → a ≠ b → (TJ6 a).2.1 ≠ (TJ6 b).2.1 := by decide +kernel
theorem tyJ6_ok : ∀ k, k < 0 → parseFieldDescriptor (TJ6 k).2.2.1 = some (tyJ6 k) := by decide +kernel
abbrev cJ6_bitCount_0f7a4 : ByteArray := prog_15_method_49_code
def yJ6_bitCount_0f7a4 : MethodName := ⟨RJ6, "bitCount", "(I)I"⟩
def RJ9 : String := "java/lang/Math"
def TJ9 : u_T := fun k => match k with
  | _ => ("", "", "", false)
def tyJ9 : Nat → FieldType := fun k => match k with
  | _ => .int
abbrev wsJ90 : List Cond := u_ws RJ9 TJ9 0
theorem nmJ9 : ∀ a, a < 0 → ∀ b, b < 0 → a ≠ b → (TJ9 a).2.1 ≠ (TJ9 b).2.1 := by decide +kernel
theorem tyJ9_ok : ∀ k, k < 0 → parseFieldDescriptor (TJ9 k).2.2.1 = some (tyJ9 k) := by decide +kernel
abbrev cJ9_max_7cf53 : ByteArray := prog_16_method_65_code
def yJ9_max_7cf53 : MethodName := ⟨RJ9, "max", "(II)I"⟩
def RJ0 : String := "java/lang/String"
def TJ0 : u_T := fun k => match k with
  | _ => ("", "", "", false)
def tyJ0 : Nat → FieldType := fun k => match k with
  | _ => .int
abbrev wsJ00 : List Cond := u_ws RJ0 TJ0 0
theorem nmJ0 : ∀ a, a < 0 → ∀ b, b < 0 → a ≠ b → (TJ0 a).2.1 ≠ (TJ0 b).2.1 := by decide +kernel
theorem tyJ0_ok : ∀ k, k < 0 → parseFieldDescriptor (TJ0 k).2.2.1 = some (tyJ0 k) := by decide +kernel
def RJ10 : String := "java/lang/System"
def TJ10 : u_T := fun k => match k with
  | _ => ("", "", "", false)
def tyJ10 : Nat → FieldType := fun k => match k with
  | _ => .int
abbrev wsJ100 : List Cond := u_ws RJ10 TJ10 0
theorem nmJ10 : ∀ a, a < 0 → ∀ b, b < 0 → a ≠ b → (TJ10 a).2.1 ≠ (TJ10 b).2.1 := by decide +kernel
theorem tyJ10_ok : ∀ k, k < 0 → parseFieldDescriptor (TJ10 k).2.2.1 = some (tyJ10 k) := by decide +kernel
def RJ7 : String := "java/util/Arrays"
def TJ7 : u_T := fun k => match k with
  | _ => ("", "", "", false)
def tyJ7 : Nat → FieldType := fun k => match k with
  | _ => .int
abbrev wsJ70 : List Cond := u_ws RJ7 TJ7 0
theorem nmJ7 : ∀ a, a < 0 → ∀ b, b < 0 → a ≠ b → (TJ7 a).2.1 ≠ (TJ7 b).2.1 := by decide +kernel
theorem tyJ7_ok : ∀ k, k < 0 → parseFieldDescriptor (TJ7 k).2.2.1 = some (tyJ7 k) := by decide +kernel
abbrev cJ7_fill_031fb : ByteArray := prog_21_method_109_code
def yJ7_fill_031fb : MethodName := ⟨RJ7, "fill", "([BB)V"⟩
def RL : String := "MemoryMapLaw"
abbrev cL_cell : ByteArray := method_2_code
def yL_cell : MethodName := ⟨RL, "cell", "([II)I"⟩
abbrev cL_section : ByteArray := method_3_code
def yL_section : MethodName := ⟨RL, "section", "(LMemoryMap;JJI[J)I"⟩
abbrev cL_cell_ : ByteArray := method_4_code
def yL_cell_ : MethodName := ⟨RL, "cell", "(LMemoryMap;J[J)I"⟩
abbrev cL_law : ByteArray := code
def yL_law : MethodName := ⟨RL, "law", "([I)Z"⟩
def wsX1_sumOf : List Cond := .code yX1_sumOf cX1_sumOf 4 (some .int) :: ([.constant RX1 35 (-1028477379)])
def wsX1_init : List Cond := .code yX1_init cX1_init 2 none :: ([.methodLink RX1 3 objectInit, .instanceMethod objectInit, .code objectInit ⟨#[0xb1]⟩ 1 none, .arrayClass .byte, .fieldLink RX1 9 "MemoryMap$Copy" "octets" "[B", .fieldLink RX1 19 "MemoryMap$Copy" "sum" "I", .methodLink RX1 15 yX1_sumOf, .static yX1_sumOf, .initialized RX1, .code yX1_sumOf cX1_sumOf 4 (some .int), .constant RX1 35 (-1028477379)] ++ wsX10)
def wsX0_init : List Cond := .code yX0_init cX0_init 2 none :: ([.methodLink RX0 1 objectInit, .instanceMethod objectInit, .code objectInit ⟨#[0xb1]⟩ 1 none, .fieldLink RX0 7 "MemoryMap$Block" "length" "I", .classLink RX0 13 RX1, .instantiable RX1 2, .initialized RX1, .fieldLink RX0 18 "MemoryMap$Block" "first" "LMemoryMap$Copy;", .fieldLink RX0 22 "MemoryMap$Block" "second" "LMemoryMap$Copy;", .instanceMethod yX1_init, .code yX1_init cX1_init 2 none, .methodLink RX1 3 objectInit, .arrayClass .byte, .fieldLink RX1 9 "MemoryMap$Copy" "octets" "[B", .fieldLink RX1 19 "MemoryMap$Copy" "sum" "I", .methodLink RX1 15 yX1_sumOf, .static yX1_sumOf, .code yX1_sumOf cX1_sumOf 4 (some .int), .constant RX1 35 (-1028477379)] ++ wsX00 ++ wsX10)
def wsX7_isWithin : List Cond := .code yX7_isWithin cX7_isWithin 6 (some .boolean) :: ([])
def wsX0_hasOctet : List Cond := .code yX0_hasOctet cX0_hasOctet 2 (some .boolean) :: ([.fieldLink RX0 7 "MemoryMap$Block" "length" "I", .static yX7_isWithin, .initialized RX7, .code yX7_isWithin cX7_isWithin 6 (some .boolean)] ++ wsX00)
def wsX1_isGood : List Cond := .code yX1_isGood cX1_isGood 1 (some .boolean) :: ([.fieldLink RX1 19 "MemoryMap$Copy" "sum" "I", .fieldLink RX1 9 "MemoryMap$Copy" "octets" "[B", .methodLink RX1 15 yX1_sumOf, .static yX1_sumOf, .initialized RX1, .code yX1_sumOf cX1_sumOf 4 (some .int), .constant RX1 35 (-1028477379)] ++ wsX10)
def wsX1_become : List Cond := .code yX1_become cX1_become 2 none :: ([.fieldLink RX1 9 "MemoryMap$Copy" "octets" "[B", .methodLink RX1 23 arraycopyName, .native arraycopyName, .static arraycopyName, .initialized "java/lang/System", .fieldLink RX1 19 "MemoryMap$Copy" "sum" "I"] ++ wsX10)
def wsJ7_fill_031fb : List Cond := .code yJ7_fill_031fb cJ7_fill_031fb 4 none :: ([])
def wsX1_clear : List Cond := .code yX1_clear cX1_clear 1 none :: ([.fieldLink RX1 9 "MemoryMap$Copy" "octets" "[B", .fieldLink RX1 19 "MemoryMap$Copy" "sum" "I", .methodLink RX1 29 yJ7_fill_031fb, .static yJ7_fill_031fb, .initialized RJ7, .code yJ7_fill_031fb cJ7_fill_031fb 4 none, .methodLink RX1 15 yX1_sumOf, .static yX1_sumOf, .initialized RX1, .code yX1_sumOf cX1_sumOf 4 (some .int), .constant RX1 35 (-1028477379)] ++ wsX10)
def wsX0_repair_r1 : List Cond := [Cond.fieldLink RX0 18 "MemoryMap$Block" "first" "LMemoryMap$Copy;", Cond.fieldLink RX0 22 "MemoryMap$Block" "second" "LMemoryMap$Copy;", Cond.instanceMethod yX1_isGood, Cond.initialized RX1, Cond.selects RX1 yX1_isGood yX1_isGood, Cond.code yX1_isGood cX1_isGood 1 (some .boolean), Cond.fieldLink RX1 19 "MemoryMap$Copy" "sum" "I", Cond.fieldLink RX1 9 "MemoryMap$Copy" "octets" "[B", Cond.methodLink RX1 15 yX1_sumOf, Cond.static yX1_sumOf, Cond.code yX1_sumOf cX1_sumOf 4 (some .int), Cond.constant RX1 35 (-1028477379), Cond.instanceMethod yX1_become, Cond.selects RX1 yX1_become yX1_become, Cond.code yX1_become cX1_become 2 none, Cond.methodLink RX1 23 arraycopyName, Cond.native arraycopyName, Cond.static arraycopyName, Cond.initialized "java/lang/System", Cond.instanceMethod yX1_clear, Cond.selects RX1 yX1_clear yX1_clear, Cond.code yX1_clear cX1_clear 1 none, Cond.methodLink RX1 29 yJ7_fill_031fb, Cond.static yJ7_fill_031fb]
def wsX0_repair_r2 : List Cond := [Cond.initialized RJ7, Cond.code yJ7_fill_031fb cJ7_fill_031fb 4 none]
def wsX0_repair : List Cond := .code yX0_repair cX0_repair 1 (some .int) :: ((wsX0_repair_r1 ++ wsX0_repair_r2) ++ wsX00 ++ wsX10)
def wsX1_setOctet : List Cond := .code yX1_setOctet cX1_setOctet 3 none :: ([.fieldLink RX1 9 "MemoryMap$Copy" "octets" "[B", .fieldLink RX1 19 "MemoryMap$Copy" "sum" "I", .methodLink RX1 15 yX1_sumOf, .static yX1_sumOf, .initialized RX1, .code yX1_sumOf cX1_sumOf 4 (some .int), .constant RX1 35 (-1028477379)] ++ wsX10)
def wsX1_flip : List Cond := .code yX1_flip cX1_flip 3 (some .int) :: ([.fieldLink RX1 9 "MemoryMap$Copy" "octets" "[B"] ++ wsX10)
def wsX2_init : List Cond := .code yX2_init cX2_init 1 none :: ([.methodLink RX2 3 objectInit, .instanceMethod objectInit, .code objectInit ⟨#[0xb1]⟩ 1 none, .arrayClass .int, .fieldLink RX2 9 "MemoryMap$Functions" "stacks" "[I", .fieldLink RX2 15 "MemoryMap$Functions" "called" "[I", .fieldLink RX2 18 "MemoryMap$Functions" "depths" "[I"] ++ wsX20)
def wsX2_addCall : List Cond := .code yX2_addCall cX2_addCall 3 none :: ([.fieldLink RX2 15 "MemoryMap$Functions" "called" "[I"] ++ wsX20)
def wsJ6_bitCount_0f7a4 : List Cond := .code yJ6_bitCount_0f7a4 cJ6_bitCount_0f7a4 1 (some .int) :: ([.constant RJ6 265 (1431655765), .constant RJ6 266 (858993459), .constant RJ6 267 (252645135)])
def wsX2_countCalls : List Cond := .code yX2_countCalls cX2_countCalls 2 (some .int) :: ([.fieldLink RX2 15 "MemoryMap$Functions" "called" "[I", .methodLink RX2 21 yJ6_bitCount_0f7a4, .static yJ6_bitCount_0f7a4, .initialized RJ6, .code yJ6_bitCount_0f7a4 cJ6_bitCount_0f7a4 1 (some .int), .constant RJ6 265 (1431655765), .constant RJ6 266 (858993459), .constant RJ6 267 (252645135)] ++ wsX20)
def wsX2_contains : List Cond := .code yX2_contains cX2_contains 2 (some .boolean) :: ([])
def wsX2_deepestCalled : List Cond := .code yX2_deepestCalled cX2_deepestCalled 4 (some .int) :: ([.fieldLink RX2 15 "MemoryMap$Functions" "called" "[I", .fieldLink RX2 18 "MemoryMap$Functions" "depths" "[I", .methodLink RX2 37 Lib.Math.max.name, .static Lib.Math.max.name, .initialized "java/lang/Math", .code Lib.Math.max.name Lib.Math.max.code 2 (some .int), .methodLink RX2 27 yX2_contains, .static yX2_contains, .initialized RX2, .code yX2_contains cX2_contains 2 (some .boolean)] ++ wsX20)
def wsX2_settleMore : List Cond := .code yX2_settleMore cX2_settleMore 4 (some .int) :: ([.fieldLink RX2 15 "MemoryMap$Functions" "called" "[I", .fieldLink RX2 18 "MemoryMap$Functions" "depths" "[I", .fieldLink RX2 9 "MemoryMap$Functions" "stacks" "[I", .methodLink RX2 27 yX2_contains, .static yX2_contains, .initialized RX2, .code yX2_contains cX2_contains 2 (some .boolean), .methodLink RX2 34 yX2_deepestCalled, .instanceMethod yX2_deepestCalled, .selects RX2 yX2_deepestCalled yX2_deepestCalled, .code yX2_deepestCalled cX2_deepestCalled 4 (some .int), .methodLink RX2 37 Lib.Math.max.name, .static Lib.Math.max.name, .initialized "java/lang/Math", .code Lib.Math.max.name Lib.Math.max.code 2 (some .int)] ++ wsX20)
def wsX2_depthFrom : List Cond := .code yX2_depthFrom cX2_depthFrom 4 (some .int) :: ([.fieldLink RX2 18 "MemoryMap$Functions" "depths" "[I", .methodLink RX2 27 yX2_contains, .static yX2_contains, .initialized RX2, .code yX2_contains cX2_contains 2 (some .boolean), .methodLink RX2 31 yX2_settleMore, .instanceMethod yX2_settleMore, .selects RX2 yX2_settleMore yX2_settleMore, .code yX2_settleMore cX2_settleMore 4 (some .int), .fieldLink RX2 15 "MemoryMap$Functions" "called" "[I", .fieldLink RX2 9 "MemoryMap$Functions" "stacks" "[I", .methodLink RX2 34 yX2_deepestCalled, .instanceMethod yX2_deepestCalled, .selects RX2 yX2_deepestCalled yX2_deepestCalled, .code yX2_deepestCalled cX2_deepestCalled 4 (some .int), .methodLink RX2 37 Lib.Math.max.name, .static Lib.Math.max.name, .initialized "java/lang/Math", .code Lib.Math.max.name Lib.Math.max.code 2 (some .int)] ++ wsX20)
def wsX3_init : List Cond := .code yX3_init cX3_init 1 none :: ([.methodLink RX3 3 objectInit, .instanceMethod objectInit, .code objectInit ⟨#[0xb1]⟩ 1 none, .arrayClass .int, .fieldLink RX3 9 "MemoryMap$Placements" "last" "[I", .classLink RX3 15 "[[I", .fieldLink RX3 17 "MemoryMap$Placements" "kept" "[[I", .fieldLink RX3 20 "MemoryMap$Placements" "sectionCounts" "[I"] ++ wsX30)
def wsX3_add : List Cond := .code yX3_add cX3_add 3 none :: ([.fieldLink RX3 9 "MemoryMap$Placements" "last" "[I", .methodLink RX3 23 arraycopyName, .native arraycopyName, .static arraycopyName, .initialized "java/lang/System", .fieldLink RX3 29 "MemoryMap$Placements" "lastCount" "I", .fieldLink RX3 33 "MemoryMap$Placements" "keptCount" "I", .fieldLink RX3 17 "MemoryMap$Placements" "kept" "[[I", .fieldLink RX3 20 "MemoryMap$Placements" "sectionCounts" "[I"] ++ wsX30)
def wsX3_countMovedSince : List Cond := .code yX3_countMovedSince cX3_countMovedSince 4 (some .int) :: ([.fieldLink RX3 20 "MemoryMap$Placements" "sectionCounts" "[I", .fieldLink RX3 17 "MemoryMap$Placements" "kept" "[[I", .fieldLink RX3 9 "MemoryMap$Placements" "last" "[I"] ++ wsX30)
def wsX4_init : List Cond := .code yX4_init cX4_init 1 none :: ([.methodLink RX4 3 objectInit, .instanceMethod objectInit, .code objectInit ⟨#[0xb1]⟩ 1 none, .arrayClass .int, .fieldLink RX4 9 "MemoryMap$Regions" "starts" "[I", .fieldLink RX4 15 "MemoryMap$Regions" "ends" "[I", .fieldLink RX4 18 "MemoryMap$Regions" "rights" "[I"] ++ wsX40)
def wsX4_overlap : List Cond := .code yX4_overlap cX4_overlap 4 (some .boolean) :: ([.fieldLink RX4 21 "MemoryMap$Regions" "count" "I", .fieldLink RX4 15 "MemoryMap$Regions" "ends" "[I", .fieldLink RX4 9 "MemoryMap$Regions" "starts" "[I"] ++ wsX40)
def wsX4_allow : List Cond := .code yX4_allow cX4_allow 3 (some .boolean) :: ([.fieldLink RX4 18 "MemoryMap$Regions" "rights" "[I"] ++ wsX40)
def wsX4_add : List Cond := .code yX4_add cX4_add 4 (some .int) :: ([.fieldLink RX4 21 "MemoryMap$Regions" "count" "I", .fieldLink RX4 9 "MemoryMap$Regions" "starts" "[I", .fieldLink RX4 15 "MemoryMap$Regions" "ends" "[I", .fieldLink RX4 18 "MemoryMap$Regions" "rights" "[I"] ++ wsX40)
def wsX5_init : List Cond := .code yX5_init cX5_init 1 none :: ([.methodLink RX5 3 objectInit, .instanceMethod objectInit, .code objectInit ⟨#[0xb1]⟩ 1 none, .arrayClass .int, .fieldLink RX5 9 "MemoryMap$Sections" "lengths" "[I", .fieldLink RX5 15 "MemoryMap$Sections" "aligns" "[I", .fieldLink RX5 18 "MemoryMap$Sections" "kinds" "[I", .fieldLink RX5 21 "MemoryMap$Sections" "greatestFirst" "[I"] ++ wsX50)
def wsX5_enterInOrder : List Cond := .code yX5_enterInOrder cX5_enterInOrder 3 none :: ([.fieldLink RX5 9 "MemoryMap$Sections" "lengths" "[I", .fieldLink RX5 21 "MemoryMap$Sections" "greatestFirst" "[I"] ++ wsX50)
def wsX5_add : List Cond := .code yX5_add cX5_add 4 (some .int) :: ([.fieldLink RX5 24 "MemoryMap$Sections" "count" "I", .fieldLink RX5 9 "MemoryMap$Sections" "lengths" "[I", .fieldLink RX5 15 "MemoryMap$Sections" "aligns" "[I", .fieldLink RX5 18 "MemoryMap$Sections" "kinds" "[I", .methodLink RX5 28 yX5_enterInOrder, .instanceMethod yX5_enterInOrder, .selects RX5 yX5_enterInOrder yX5_enterInOrder, .initialized RX5, .code yX5_enterInOrder cX5_enterInOrder 3 none, .fieldLink RX5 21 "MemoryMap$Sections" "greatestFirst" "[I"] ++ wsX50)
def wsX6_init : List Cond := .code yX6_init cX6_init 1 none :: ([.methodLink RX6 3 objectInit, .instanceMethod objectInit, .code objectInit ⟨#[0xb1]⟩ 1 none, .arrayClass .int, .fieldLink RX6 9 "MemoryMap$Taken" "starts" "[I", .fieldLink RX6 15 "MemoryMap$Taken" "ends" "[I"] ++ wsX60)
def wsX6_clear : List Cond := .code yX6_clear cX6_clear 1 none :: ([.fieldLink RX6 18 "MemoryMap$Taken" "count" "I"] ++ wsX60)
def wsX6_alignedUp : List Cond := .code yX6_alignedUp cX6_alignedUp 2 (some .int) :: ([])
def wsX6_leastFree : List Cond := .code yX6_leastFree cX6_leastFree 6 (some .int) :: ([.fieldLink RX6 18 "MemoryMap$Taken" "count" "I", .fieldLink RX6 9 "MemoryMap$Taken" "starts" "[I", .fieldLink RX6 15 "MemoryMap$Taken" "ends" "[I", .methodLink RX6 22 yX6_alignedUp, .static yX6_alignedUp, .initialized RX6, .code yX6_alignedUp cX6_alignedUp 2 (some .int)] ++ wsX60)
def wsX6_add : List Cond := .code yX6_add cX6_add 4 none :: ([.fieldLink RX6 18 "MemoryMap$Taken" "count" "I", .fieldLink RX6 9 "MemoryMap$Taken" "starts" "[I", .fieldLink RX6 15 "MemoryMap$Taken" "ends" "[I"] ++ wsX60)
def wsX7_init_r1 : List Cond := [Cond.methodLink RX7 1 objectInit, Cond.instanceMethod objectInit, Cond.code objectInit ⟨#[0xb1]⟩ 1 none, Cond.classLink RX7 7 RX4, Cond.instantiable RX4 4, Cond.initialized RX4, Cond.fieldLink RX7 10 "MemoryMap" "regions" "LMemoryMap$Regions;", Cond.classLink RX7 16 RX5, Cond.instantiable RX5 5, Cond.initialized RX5, Cond.fieldLink RX7 19 "MemoryMap" "sections" "LMemoryMap$Sections;", Cond.classLink RX7 23 RX6, Cond.instantiable RX6 3, Cond.initialized RX6, Cond.fieldLink RX7 26 "MemoryMap" "taken" "LMemoryMap$Taken;", Cond.arrayClass .int, Cond.fieldLink RX7 30 "MemoryMap" "trial" "[I", Cond.classLink RX7 34 RX3, Cond.instantiable RX3 5, Cond.initialized RX3, Cond.fieldLink RX7 37 "MemoryMap" "placements" "LMemoryMap$Placements;", Cond.classLink RX7 41 RX2, Cond.instantiable RX2 3, Cond.initialized RX2]
def wsX7_init_r2 : List Cond := [Cond.fieldLink RX7 44 "MemoryMap" "functions" "LMemoryMap$Functions;", Cond.classLink RX7 48 RX0, Cond.fieldLink RX7 50 "MemoryMap" "blocks" "[LMemoryMap$Block;", Cond.constantLong RX7 54 (65536), Cond.fieldLink RX7 60 "MemoryMap" "size" "I", Cond.instanceMethod yX4_init, Cond.code yX4_init cX4_init 1 none, Cond.methodLink RX4 3 objectInit, Cond.fieldLink RX4 9 "MemoryMap$Regions" "starts" "[I", Cond.fieldLink RX4 15 "MemoryMap$Regions" "ends" "[I", Cond.fieldLink RX4 18 "MemoryMap$Regions" "rights" "[I", Cond.instanceMethod yX5_init, Cond.code yX5_init cX5_init 1 none, Cond.methodLink RX5 3 objectInit, Cond.fieldLink RX5 9 "MemoryMap$Sections" "lengths" "[I", Cond.fieldLink RX5 15 "MemoryMap$Sections" "aligns" "[I", Cond.fieldLink RX5 18 "MemoryMap$Sections" "kinds" "[I", Cond.fieldLink RX5 21 "MemoryMap$Sections" "greatestFirst" "[I", Cond.instanceMethod yX6_init, Cond.code yX6_init cX6_init 1 none, Cond.methodLink RX6 3 objectInit, Cond.fieldLink RX6 9 "MemoryMap$Taken" "starts" "[I", Cond.fieldLink RX6 15 "MemoryMap$Taken" "ends" "[I", Cond.instanceMethod yX3_init]
def wsX7_init_r3 : List Cond := [Cond.code yX3_init cX3_init 1 none, Cond.methodLink RX3 3 objectInit, Cond.fieldLink RX3 9 "MemoryMap$Placements" "last" "[I", Cond.classLink RX3 15 "[[I", Cond.fieldLink RX3 17 "MemoryMap$Placements" "kept" "[[I", Cond.fieldLink RX3 20 "MemoryMap$Placements" "sectionCounts" "[I", Cond.instanceMethod yX2_init, Cond.code yX2_init cX2_init 1 none, Cond.methodLink RX2 3 objectInit, Cond.fieldLink RX2 9 "MemoryMap$Functions" "stacks" "[I", Cond.fieldLink RX2 15 "MemoryMap$Functions" "called" "[I", Cond.fieldLink RX2 18 "MemoryMap$Functions" "depths" "[I", Cond.methodLink RX7 56 yX7_isWithin, Cond.static yX7_isWithin, Cond.initialized RX7, Cond.code yX7_isWithin cX7_isWithin 6 (some .boolean)]
def wsX7_init : List Cond := .code yX7_init cX7_init 3 none :: ((wsX7_init_r1 ++ (wsX7_init_r2 ++ wsX7_init_r3)) ++ wsX40 ++ wsX70 ++ wsX50 ++ wsX60 ++ wsX30 ++ wsX20)
def wsX7_region : List Cond := .code yX7_region cX7_region 9 (some .int) :: ([.fieldLink RX7 60 "MemoryMap" "size" "I", .constantLong RX7 64 (7), .fieldLink RX7 10 "MemoryMap" "regions" "LMemoryMap$Regions;", .methodLink RX7 56 yX7_isWithin, .static yX7_isWithin, .initialized RX7, .code yX7_isWithin cX7_isWithin 6 (some .boolean), .instanceMethod yX4_overlap, .initialized RX4, .selects RX4 yX4_overlap yX4_overlap, .code yX4_overlap cX4_overlap 4 (some .boolean), .fieldLink RX4 21 "MemoryMap$Regions" "count" "I", .fieldLink RX4 15 "MemoryMap$Regions" "ends" "[I", .fieldLink RX4 9 "MemoryMap$Regions" "starts" "[I", .instanceMethod yX4_add, .selects RX4 yX4_add yX4_add, .code yX4_add cX4_add 4 (some .int), .fieldLink RX4 18 "MemoryMap$Regions" "rights" "[I"] ++ wsX70 ++ wsX40)
def wsX7_section : List Cond := .code yX7_section cX7_section 6 (some .int) :: ([.classLink RX7 77 "java/lang/ArithmeticException", .initialized "java/lang/ArithmeticException", .constantLong RX7 54 (65536), .constantLong RX7 64 (7), .fieldLink RX7 19 "MemoryMap" "sections" "LMemoryMap$Sections;", .methodLink RX7 56 yX7_isWithin, .static yX7_isWithin, .initialized RX7, .code yX7_isWithin cX7_isWithin 6 (some .boolean), .instanceMethod yX5_add, .initialized RX5, .selects RX5 yX5_add yX5_add, .code yX5_add cX5_add 4 (some .int), .fieldLink RX5 24 "MemoryMap$Sections" "count" "I", .fieldLink RX5 9 "MemoryMap$Sections" "lengths" "[I", .fieldLink RX5 15 "MemoryMap$Sections" "aligns" "[I", .fieldLink RX5 18 "MemoryMap$Sections" "kinds" "[I", .methodLink RX5 28 yX5_enterInOrder, .instanceMethod yX5_enterInOrder, .selects RX5 yX5_enterInOrder yX5_enterInOrder, .code yX5_enterInOrder cX5_enterInOrder 3 none, .fieldLink RX5 21 "MemoryMap$Sections" "greatestFirst" "[I"] ++ wsX70 ++ wsX50 ++ (vx_atS RX7 81 "java/lang/ArithmeticException" ["java/lang/RuntimeException", "java/lang/Exception"]).filter goodWord)
def wsX7_takeSpaceFor : List Cond := .code yX7_takeSpaceFor cX7_takeSpaceFor 5 (some .int) :: ([.fieldLink RX7 19 "MemoryMap" "sections" "LMemoryMap$Sections;", .fieldLink RX7 10 "MemoryMap" "regions" "LMemoryMap$Regions;", .fieldLink RX7 26 "MemoryMap" "taken" "LMemoryMap$Taken;", .instanceMethod yX4_allow, .initialized RX4, .selects RX4 yX4_allow yX4_allow, .code yX4_allow cX4_allow 3 (some .boolean), .fieldLink RX4 18 "MemoryMap$Regions" "rights" "[I", .instanceMethod yX6_leastFree, .initialized RX6, .selects RX6 yX6_leastFree yX6_leastFree, .code yX6_leastFree cX6_leastFree 6 (some .int), .fieldLink RX6 18 "MemoryMap$Taken" "count" "I", .fieldLink RX6 9 "MemoryMap$Taken" "starts" "[I", .fieldLink RX6 15 "MemoryMap$Taken" "ends" "[I", .methodLink RX6 22 yX6_alignedUp, .static yX6_alignedUp, .code yX6_alignedUp cX6_alignedUp 2 (some .int), .instanceMethod yX6_add, .selects RX6 yX6_add yX6_add, .code yX6_add cX6_add 4 none] ++ wsX70 ++ wsX50 ++ wsX40 ++ wsX60)
def wsX7_place_r1 : List Cond := [Cond.fieldLink RX7 26 "MemoryMap" "taken" "LMemoryMap$Taken;", Cond.fieldLink RX7 19 "MemoryMap" "sections" "LMemoryMap$Sections;", Cond.fieldLink RX7 30 "MemoryMap" "trial" "[I", Cond.fieldLink RX7 37 "MemoryMap" "placements" "LMemoryMap$Placements;", Cond.instanceMethod yX6_clear, Cond.initialized RX6, Cond.selects RX6 yX6_clear yX6_clear, Cond.code yX6_clear cX6_clear 1 none, Cond.fieldLink RX6 18 "MemoryMap$Taken" "count" "I", Cond.methodLink RX7 91 yX7_takeSpaceFor, Cond.instanceMethod yX7_takeSpaceFor, Cond.selects RX7 yX7_takeSpaceFor yX7_takeSpaceFor, Cond.initialized RX7, Cond.code yX7_takeSpaceFor cX7_takeSpaceFor 5 (some .int), Cond.fieldLink RX7 10 "MemoryMap" "regions" "LMemoryMap$Regions;", Cond.instanceMethod yX4_allow, Cond.initialized RX4, Cond.selects RX4 yX4_allow yX4_allow, Cond.code yX4_allow cX4_allow 3 (some .boolean), Cond.fieldLink RX4 18 "MemoryMap$Regions" "rights" "[I", Cond.instanceMethod yX6_leastFree, Cond.selects RX6 yX6_leastFree yX6_leastFree, Cond.code yX6_leastFree cX6_leastFree 6 (some .int), Cond.fieldLink RX6 9 "MemoryMap$Taken" "starts" "[I"]
def wsX7_place_r2 : List Cond := [Cond.fieldLink RX6 15 "MemoryMap$Taken" "ends" "[I", Cond.methodLink RX6 22 yX6_alignedUp, Cond.static yX6_alignedUp, Cond.code yX6_alignedUp cX6_alignedUp 2 (some .int), Cond.instanceMethod yX6_add, Cond.selects RX6 yX6_add yX6_add, Cond.code yX6_add cX6_add 4 none, Cond.instanceMethod yX3_add, Cond.initialized RX3, Cond.selects RX3 yX3_add yX3_add, Cond.code yX3_add cX3_add 3 none, Cond.fieldLink RX3 9 "MemoryMap$Placements" "last" "[I", Cond.methodLink RX3 23 arraycopyName, Cond.native arraycopyName, Cond.static arraycopyName, Cond.initialized "java/lang/System", Cond.fieldLink RX3 29 "MemoryMap$Placements" "lastCount" "I", Cond.fieldLink RX3 33 "MemoryMap$Placements" "keptCount" "I", Cond.fieldLink RX3 17 "MemoryMap$Placements" "kept" "[[I", Cond.fieldLink RX3 20 "MemoryMap$Placements" "sectionCounts" "[I"]
def wsX7_place : List Cond := .code yX7_place cX7_place 4 (some .int) :: ((wsX7_place_r1 ++ wsX7_place_r2) ++ wsX70 ++ wsX50 ++ wsX60 ++ wsX40 ++ wsX30)
def wsX7_at : List Cond := .code yX7_at cX7_at 2 (some .long) :: ([.fieldLink RX7 19 "MemoryMap" "sections" "LMemoryMap$Sections;", .constantLong RX7 98 (-1), .fieldLink RX7 37 "MemoryMap" "placements" "LMemoryMap$Placements;", .constantLong RX7 103 (-3), .methodLink RX7 56 yX7_isWithin, .static yX7_isWithin, .initialized RX7, .code yX7_isWithin cX7_isWithin 6 (some .boolean)] ++ wsX70 ++ wsX50 ++ wsX30)
def wsX7_call : List Cond := .code yX7_call cX7_call 5 (some .int) :: ([.constantLong RX7 108 (30), .constantLong RX7 110 (1000000), .fieldLink RX7 44 "MemoryMap" "functions" "LMemoryMap$Functions;", .methodLink RX7 56 yX7_isWithin, .static yX7_isWithin, .initialized RX7, .code yX7_isWithin cX7_isWithin 6 (some .boolean), .instanceMethod yX2_addCall, .initialized RX2, .selects RX2 yX2_addCall yX2_addCall, .code yX2_addCall cX2_addCall 3 none, .fieldLink RX2 15 "MemoryMap$Functions" "called" "[I", .instanceMethod yX2_countCalls, .selects RX2 yX2_countCalls yX2_countCalls, .code yX2_countCalls cX2_countCalls 2 (some .int), .methodLink RX2 21 yJ6_bitCount_0f7a4, .static yJ6_bitCount_0f7a4, .initialized RJ6, .code yJ6_bitCount_0f7a4 cJ6_bitCount_0f7a4 1 (some .int), .constant RJ6 265 (1431655765), .constant RJ6 266 (858993459), .constant RJ6 267 (252645135)] ++ wsX70 ++ wsX20)
def wsX7_depth_r1 : List Cond := [Cond.constantLong RX7 108 (30), Cond.constantLong RX7 122 (-2), Cond.fieldLink RX7 44 "MemoryMap" "functions" "LMemoryMap$Functions;", Cond.methodLink RX7 56 yX7_isWithin, Cond.static yX7_isWithin, Cond.initialized RX7, Cond.code yX7_isWithin cX7_isWithin 6 (some .boolean), Cond.instanceMethod yX2_depthFrom, Cond.initialized RX2, Cond.selects RX2 yX2_depthFrom yX2_depthFrom, Cond.code yX2_depthFrom cX2_depthFrom 4 (some .int), Cond.fieldLink RX2 18 "MemoryMap$Functions" "depths" "[I", Cond.methodLink RX2 27 yX2_contains, Cond.static yX2_contains, Cond.code yX2_contains cX2_contains 2 (some .boolean), Cond.methodLink RX2 31 yX2_settleMore, Cond.instanceMethod yX2_settleMore, Cond.selects RX2 yX2_settleMore yX2_settleMore, Cond.code yX2_settleMore cX2_settleMore 4 (some .int), Cond.fieldLink RX2 15 "MemoryMap$Functions" "called" "[I", Cond.fieldLink RX2 9 "MemoryMap$Functions" "stacks" "[I", Cond.methodLink RX2 34 yX2_deepestCalled, Cond.instanceMethod yX2_deepestCalled, Cond.selects RX2 yX2_deepestCalled yX2_deepestCalled]
def wsX7_depth_r2 : List Cond := [Cond.code yX2_deepestCalled cX2_deepestCalled 4 (some .int), Cond.methodLink RX2 37 Lib.Math.max.name, Cond.static Lib.Math.max.name, Cond.initialized "java/lang/Math", Cond.code Lib.Math.max.name Lib.Math.max.code 2 (some .int)]
def wsX7_depth : List Cond := .code yX7_depth cX7_depth 2 (some .long) :: ((wsX7_depth_r1 ++ wsX7_depth_r2) ++ wsX70 ++ wsX20)
def wsX7_block_r1 : List Cond := [Cond.constantLong RX7 127 (32), Cond.fieldLink RX7 129 "MemoryMap" "blockCount" "I", Cond.fieldLink RX7 50 "MemoryMap" "blocks" "[LMemoryMap$Block;", Cond.classLink RX7 48 RX0, Cond.instantiable RX0 3, Cond.initialized RX0, Cond.methodLink RX7 56 yX7_isWithin, Cond.static yX7_isWithin, Cond.initialized RX7, Cond.code yX7_isWithin cX7_isWithin 6 (some .boolean), Cond.instanceMethod yX0_init, Cond.code yX0_init cX0_init 2 none, Cond.methodLink RX0 1 objectInit, Cond.instanceMethod objectInit, Cond.code objectInit ⟨#[0xb1]⟩ 1 none, Cond.fieldLink RX0 7 "MemoryMap$Block" "length" "I", Cond.classLink RX0 13 RX1, Cond.instantiable RX1 2, Cond.initialized RX1, Cond.fieldLink RX0 18 "MemoryMap$Block" "first" "LMemoryMap$Copy;", Cond.fieldLink RX0 22 "MemoryMap$Block" "second" "LMemoryMap$Copy;", Cond.instanceMethod yX1_init, Cond.code yX1_init cX1_init 2 none, Cond.methodLink RX1 3 objectInit]
def wsX7_block_r2 : List Cond := [Cond.arrayClass .byte, Cond.fieldLink RX1 9 "MemoryMap$Copy" "octets" "[B", Cond.fieldLink RX1 19 "MemoryMap$Copy" "sum" "I", Cond.methodLink RX1 15 yX1_sumOf, Cond.static yX1_sumOf, Cond.code yX1_sumOf cX1_sumOf 4 (some .int), Cond.constant RX1 35 (-1028477379)]
def wsX7_block : List Cond := .code yX7_block cX7_block 3 (some .int) :: ((wsX7_block_r1 ++ wsX7_block_r2) ++ wsX70 ++ wsX00 ++ wsX10)
def wsX7_blockNumbered : List Cond := .code yX7_blockNumbered cX7_blockNumbered 2 (some (.object "MemoryMap$Block")) :: ([.fieldLink RX7 129 "MemoryMap" "blockCount" "I", .fieldLink RX7 50 "MemoryMap" "blocks" "[LMemoryMap$Block;", .methodLink RX7 56 yX7_isWithin, .static yX7_isWithin, .initialized RX7, .code yX7_isWithin cX7_isWithin 6 (some .boolean)] ++ wsX70)
def wsX7_write_r1 : List Cond := [Cond.methodLink RX7 135 yX7_blockNumbered, Cond.instanceMethod yX7_blockNumbered, Cond.selects RX7 yX7_blockNumbered yX7_blockNumbered, Cond.initialized RX7, Cond.code yX7_blockNumbered cX7_blockNumbered 2 (some (.object "MemoryMap$Block")), Cond.fieldLink RX7 129 "MemoryMap" "blockCount" "I", Cond.fieldLink RX7 50 "MemoryMap" "blocks" "[LMemoryMap$Block;", Cond.methodLink RX7 56 yX7_isWithin, Cond.static yX7_isWithin, Cond.code yX7_isWithin cX7_isWithin 6 (some .boolean), Cond.instanceMethod yX0_hasOctet, Cond.initialized RX0, Cond.selects RX0 yX0_hasOctet yX0_hasOctet, Cond.code yX0_hasOctet cX0_hasOctet 2 (some .boolean), Cond.fieldLink RX0 7 "MemoryMap$Block" "length" "I", Cond.instanceMethod yX1_setOctet, Cond.initialized RX1, Cond.selects RX1 yX1_setOctet yX1_setOctet, Cond.code yX1_setOctet cX1_setOctet 3 none, Cond.fieldLink RX1 9 "MemoryMap$Copy" "octets" "[B", Cond.fieldLink RX1 19 "MemoryMap$Copy" "sum" "I", Cond.methodLink RX1 15 yX1_sumOf, Cond.static yX1_sumOf, Cond.code yX1_sumOf cX1_sumOf 4 (some .int)]
def wsX7_write_r2 : List Cond := [Cond.constant RX1 35 (-1028477379)]
def wsX7_write : List Cond := .code yX7_write cX7_write 5 (some .int) :: ((wsX7_write_r1 ++ wsX7_write_r2) ++ wsX00 ++ wsX70 ++ wsX10)
def wsX7_poke : List Cond := .code yX7_poke cX7_poke 6 (some .int) :: ([.constantLong RX7 156 (2), .methodLink RX7 135 yX7_blockNumbered, .instanceMethod yX7_blockNumbered, .selects RX7 yX7_blockNumbered yX7_blockNumbered, .initialized RX7, .code yX7_blockNumbered cX7_blockNumbered 2 (some (.object "MemoryMap$Block")), .fieldLink RX7 129 "MemoryMap" "blockCount" "I", .fieldLink RX7 50 "MemoryMap" "blocks" "[LMemoryMap$Block;", .methodLink RX7 56 yX7_isWithin, .static yX7_isWithin, .code yX7_isWithin cX7_isWithin 6 (some .boolean), .instanceMethod yX0_hasOctet, .initialized RX0, .selects RX0 yX0_hasOctet yX0_hasOctet, .code yX0_hasOctet cX0_hasOctet 2 (some .boolean), .fieldLink RX0 7 "MemoryMap$Block" "length" "I", .instanceMethod yX1_flip, .initialized RX1, .selects RX1 yX1_flip yX1_flip, .code yX1_flip cX1_flip 3 (some .int), .fieldLink RX1 9 "MemoryMap$Copy" "octets" "[B"] ++ wsX00 ++ wsX70 ++ wsX10)
def wsX7_read_r1 : List Cond := [Cond.methodLink RX7 135 yX7_blockNumbered, Cond.instanceMethod yX7_blockNumbered, Cond.selects RX7 yX7_blockNumbered yX7_blockNumbered, Cond.initialized RX7, Cond.code yX7_blockNumbered cX7_blockNumbered 2 (some (.object "MemoryMap$Block")), Cond.fieldLink RX7 129 "MemoryMap" "blockCount" "I", Cond.fieldLink RX7 50 "MemoryMap" "blocks" "[LMemoryMap$Block;", Cond.methodLink RX7 56 yX7_isWithin, Cond.static yX7_isWithin, Cond.code yX7_isWithin cX7_isWithin 6 (some .boolean), Cond.instanceMethod yX0_repair, Cond.initialized RX0, Cond.selects RX0 yX0_repair yX0_repair, Cond.code yX0_repair cX0_repair 1 (some .int), Cond.fieldLink RX0 18 "MemoryMap$Block" "first" "LMemoryMap$Copy;", Cond.fieldLink RX0 22 "MemoryMap$Block" "second" "LMemoryMap$Copy;", Cond.instanceMethod yX1_isGood, Cond.initialized RX1, Cond.selects RX1 yX1_isGood yX1_isGood, Cond.code yX1_isGood cX1_isGood 1 (some .boolean), Cond.fieldLink RX1 19 "MemoryMap$Copy" "sum" "I", Cond.fieldLink RX1 9 "MemoryMap$Copy" "octets" "[B", Cond.methodLink RX1 15 yX1_sumOf, Cond.static yX1_sumOf]
def wsX7_read_r2 : List Cond := [Cond.code yX1_sumOf cX1_sumOf 4 (some .int), Cond.constant RX1 35 (-1028477379), Cond.instanceMethod yX1_become, Cond.selects RX1 yX1_become yX1_become, Cond.code yX1_become cX1_become 2 none, Cond.methodLink RX1 23 arraycopyName, Cond.native arraycopyName, Cond.static arraycopyName, Cond.initialized "java/lang/System", Cond.instanceMethod yX1_clear, Cond.selects RX1 yX1_clear yX1_clear, Cond.code yX1_clear cX1_clear 1 none, Cond.methodLink RX1 29 yJ7_fill_031fb, Cond.static yJ7_fill_031fb, Cond.initialized RJ7, Cond.code yJ7_fill_031fb cJ7_fill_031fb 4 none]
def wsX7_read : List Cond := .code yX7_read cX7_read 3 (some .int) :: ((wsX7_read_r1 ++ wsX7_read_r2) ++ wsX70 ++ wsX00 ++ wsX10)
def wsX7_cell : List Cond := .code yX7_cell cX7_cell 5 (some .byte) :: ([.fieldLink RX7 60 "MemoryMap" "size" "I", .classLink RX7 166 RJx00060, .instantiable RJx00060 6, .initialized RJx00060, .fieldLink RX7 37 "MemoryMap" "placements" "LMemoryMap$Placements;", .fieldLink RX7 19 "MemoryMap" "sections" "LMemoryMap$Sections;"] ++ wsX70 ++ wsJx000600 ++ wsX30 ++ wsX50)
def wsX7_moved : List Cond := .code yX7_moved cX7_moved 2 (some .int) :: ([.fieldLink RX7 37 "MemoryMap" "placements" "LMemoryMap$Placements;", .methodLink RX7 56 yX7_isWithin, .static yX7_isWithin, .initialized RX7, .code yX7_isWithin cX7_isWithin 6 (some .boolean), .instanceMethod yX3_countMovedSince, .initialized RX3, .selects RX3 yX3_countMovedSince yX3_countMovedSince, .code yX3_countMovedSince cX3_countMovedSince 4 (some .int), .fieldLink RX3 20 "MemoryMap$Placements" "sectionCounts" "[I", .fieldLink RX3 17 "MemoryMap$Placements" "kept" "[[I", .fieldLink RX3 9 "MemoryMap$Placements" "last" "[I"] ++ wsX70 ++ wsX30)
def wsX8_init_r1 : List Cond := [Cond.methodLink RX8 1 objectInit, Cond.instanceMethod objectInit, Cond.code objectInit ⟨#[0xb1]⟩ 1 none, Cond.arrayClass .int, Cond.fieldLink RX8 7 "MemoryMapModel" "froms" "[I", Cond.fieldLink RX8 13 "MemoryMapModel" "ends" "[I", Cond.fieldLink RX8 16 "MemoryMapModel" "rights" "[I", Cond.fieldLink RX8 19 "MemoryMapModel" "lengths" "[I", Cond.fieldLink RX8 22 "MemoryMapModel" "aligns" "[I", Cond.fieldLink RX8 25 "MemoryMapModel" "kinds" "[I", Cond.constant RX8 28 (65536), Cond.arrayClass .byte, Cond.fieldLink RX8 29 "MemoryMapModel" "taken" "[B", Cond.fieldLink RX8 33 "MemoryMapModel" "cells" "[B", Cond.fieldLink RX8 36 "MemoryMapModel" "places" "[I", Cond.fieldLink RX8 39 "MemoryMapModel" "trial" "[I", Cond.fieldLink RX8 42 "MemoryMapModel" "kept" "[I", Cond.fieldLink RX8 45 "MemoryMapModel" "keptMany" "[I", Cond.arrayClass .long, Cond.fieldLink RX8 48 "MemoryMapModel" "stacks" "[J", Cond.arrayClass .boolean, Cond.fieldLink RX8 52 "MemoryMapModel" "calls" "[Z", Cond.fieldLink RX8 56 "MemoryMapModel" "depths" "[J", Cond.fieldLink RX8 59 "MemoryMapModel" "octets" "[I"]
def wsX8_init_r2 : List Cond := [Cond.fieldLink RX8 62 "MemoryMapModel" "copies" "[B", Cond.fieldLink RX8 65 "MemoryMapModel" "sums" "[I", Cond.constantLong RX8 68 (65536), Cond.fieldLink RX8 70 "MemoryMapModel" "size" "I"]
def wsX8_init : List Cond := .code yX8_init cX8_init 4 none :: ((wsX8_init_r1 ++ wsX8_init_r2) ++ wsX80)
def wsX8_thrown : List Cond := .code yX8_thrown cX8_thrown 1 (some .int) :: ([.fieldLink RX8 74 "MemoryMapModel" "thrown" "I"] ++ wsX80)
def wsX8_region : List Cond := .code yX8_region cX8_region 7 (some .int) :: ([.fieldLink RX8 74 "MemoryMapModel" "thrown" "I", .fieldLink RX8 70 "MemoryMapModel" "size" "I", .fieldLink RX8 77 "MemoryMapModel" "regions" "I", .fieldLink RX8 13 "MemoryMapModel" "ends" "[I", .fieldLink RX8 7 "MemoryMapModel" "froms" "[I", .fieldLink RX8 16 "MemoryMapModel" "rights" "[I"] ++ wsX80)
def wsX8_section : List Cond := .code yX8_section cX8_section 6 (some .int) :: ([.fieldLink RX8 74 "MemoryMapModel" "thrown" "I", .constantLong RX8 68 (65536), .fieldLink RX8 80 "MemoryMapModel" "sections" "I", .fieldLink RX8 19 "MemoryMapModel" "lengths" "[I", .fieldLink RX8 22 "MemoryMapModel" "aligns" "[I", .fieldLink RX8 25 "MemoryMapModel" "kinds" "[I"] ++ wsX80)
def wsX8_isBefore : List Cond := .code yX8_isBefore cX8_isBefore 3 (some .boolean) :: ([.fieldLink RX8 19 "MemoryMapModel" "lengths" "[I"] ++ wsX80)
def wsX8_next : List Cond := .code yX8_next cX8_next 4 (some .int) :: ([.fieldLink RX8 80 "MemoryMapModel" "sections" "I", .methodLink RX8 83 yX8_isBefore, .instanceMethod yX8_isBefore, .selects RX8 yX8_isBefore yX8_isBefore, .initialized RX8, .code yX8_isBefore cX8_isBefore 3 (some .boolean), .fieldLink RX8 19 "MemoryMapModel" "lengths" "[I"] ++ wsX80)
def wsX8_up : List Cond := .code yX8_up cX8_up 2 (some .int) :: ([])
def wsX8_find : List Cond := .code yX8_find cX8_find 5 (some .int) :: ([.fieldLink RX8 7 "MemoryMapModel" "froms" "[I", .fieldLink RX8 22 "MemoryMapModel" "aligns" "[I", .fieldLink RX8 19 "MemoryMapModel" "lengths" "[I", .fieldLink RX8 13 "MemoryMapModel" "ends" "[I", .fieldLink RX8 29 "MemoryMapModel" "taken" "[B", .methodLink RX8 87 yX8_up, .static yX8_up, .initialized RX8, .code yX8_up cX8_up 2 (some .int)] ++ wsX80)
def wsX8_findAny : List Cond := .code yX8_findAny cX8_findAny 4 (some .int) :: ([.fieldLink RX8 77 "MemoryMapModel" "regions" "I", .fieldLink RX8 16 "MemoryMapModel" "rights" "[I", .fieldLink RX8 25 "MemoryMapModel" "kinds" "[I", .methodLink RX8 91 yX8_find, .instanceMethod yX8_find, .selects RX8 yX8_find yX8_find, .initialized RX8, .code yX8_find cX8_find 5 (some .int), .fieldLink RX8 7 "MemoryMapModel" "froms" "[I", .fieldLink RX8 22 "MemoryMapModel" "aligns" "[I", .fieldLink RX8 19 "MemoryMapModel" "lengths" "[I", .fieldLink RX8 13 "MemoryMapModel" "ends" "[I", .fieldLink RX8 29 "MemoryMapModel" "taken" "[B", .methodLink RX8 87 yX8_up, .static yX8_up, .code yX8_up cX8_up 2 (some .int)] ++ wsX80)
def wsX8_place_r1 : List Cond := [Cond.fieldLink RX8 74 "MemoryMapModel" "thrown" "I", Cond.fieldLink RX8 70 "MemoryMapModel" "size" "I", Cond.fieldLink RX8 29 "MemoryMapModel" "taken" "[B", Cond.fieldLink RX8 39 "MemoryMapModel" "trial" "[I", Cond.fieldLink RX8 19 "MemoryMapModel" "lengths" "[I", Cond.fieldLink RX8 80 "MemoryMapModel" "sections" "I", Cond.fieldLink RX8 101 "MemoryMapModel" "placed" "I", Cond.fieldLink RX8 104 "MemoryMapModel" "placements" "I", Cond.fieldLink RX8 33 "MemoryMapModel" "cells" "[B", Cond.fieldLink RX8 36 "MemoryMapModel" "places" "[I", Cond.fieldLink RX8 42 "MemoryMapModel" "kept" "[I", Cond.fieldLink RX8 45 "MemoryMapModel" "keptMany" "[I", Cond.methodLink RX8 94 yX8_next, Cond.instanceMethod yX8_next, Cond.selects RX8 yX8_next yX8_next, Cond.initialized RX8, Cond.code yX8_next cX8_next 4 (some .int), Cond.methodLink RX8 83 yX8_isBefore, Cond.instanceMethod yX8_isBefore, Cond.selects RX8 yX8_isBefore yX8_isBefore, Cond.code yX8_isBefore cX8_isBefore 3 (some .boolean), Cond.methodLink RX8 98 yX8_findAny, Cond.instanceMethod yX8_findAny, Cond.selects RX8 yX8_findAny yX8_findAny]
def wsX8_place_r2 : List Cond := [Cond.code yX8_findAny cX8_findAny 4 (some .int), Cond.fieldLink RX8 77 "MemoryMapModel" "regions" "I", Cond.fieldLink RX8 16 "MemoryMapModel" "rights" "[I", Cond.fieldLink RX8 25 "MemoryMapModel" "kinds" "[I", Cond.methodLink RX8 91 yX8_find, Cond.instanceMethod yX8_find, Cond.selects RX8 yX8_find yX8_find, Cond.code yX8_find cX8_find 5 (some .int), Cond.fieldLink RX8 7 "MemoryMapModel" "froms" "[I", Cond.fieldLink RX8 22 "MemoryMapModel" "aligns" "[I", Cond.fieldLink RX8 13 "MemoryMapModel" "ends" "[I", Cond.methodLink RX8 87 yX8_up, Cond.static yX8_up, Cond.code yX8_up cX8_up 2 (some .int)]
def wsX8_place : List Cond := .code yX8_place cX8_place 3 (some .int) :: ((wsX8_place_r1 ++ wsX8_place_r2) ++ wsX80)
def wsX8_at : List Cond := .code yX8_at cX8_at 2 (some .long) :: ([.fieldLink RX8 74 "MemoryMapModel" "thrown" "I", .fieldLink RX8 80 "MemoryMapModel" "sections" "I", .constantLong RX8 107 (-1), .fieldLink RX8 104 "MemoryMapModel" "placements" "I", .fieldLink RX8 101 "MemoryMapModel" "placed" "I", .constantLong RX8 109 (-3), .fieldLink RX8 36 "MemoryMapModel" "places" "[I"] ++ wsX80)
def wsX8_cell : List Cond := .code yX8_cell cX8_cell 3 (some .byte) :: ([.fieldLink RX8 70 "MemoryMapModel" "size" "I", .fieldLink RX8 74 "MemoryMapModel" "thrown" "I", .fieldLink RX8 33 "MemoryMapModel" "cells" "[B"] ++ wsX80)
def wsX8_moved : List Cond := .code yX8_moved cX8_moved 4 (some .int) :: ([.fieldLink RX8 74 "MemoryMapModel" "thrown" "I", .fieldLink RX8 104 "MemoryMapModel" "placements" "I", .fieldLink RX8 45 "MemoryMapModel" "keptMany" "[I", .fieldLink RX8 42 "MemoryMapModel" "kept" "[I", .fieldLink RX8 36 "MemoryMapModel" "places" "[I"] ++ wsX80)
def wsX8_call : List Cond := .code yX8_call cX8_call 7 (some .int) :: ([.fieldLink RX8 74 "MemoryMapModel" "thrown" "I", .constantLong RX8 111 (1000000), .fieldLink RX8 48 "MemoryMapModel" "stacks" "[J", .fieldLink RX8 52 "MemoryMapModel" "calls" "[Z"] ++ wsX80)
def wsX8_reckon : List Cond := .code yX8_reckon cX8_reckon 5 (some .long) :: ([.fieldLink RX8 52 "MemoryMapModel" "calls" "[Z", .fieldLink RX8 56 "MemoryMapModel" "depths" "[J", .constantLong RX8 107 (-1), .fieldLink RX8 48 "MemoryMapModel" "stacks" "[J"] ++ wsX80)
def wsX8_depth : List Cond := .code yX8_depth cX8_depth 4 (some .long) :: ([.fieldLink RX8 74 "MemoryMapModel" "thrown" "I", .constantLong RX8 113 (-2), .fieldLink RX8 56 "MemoryMapModel" "depths" "[J", .constantLong RX8 107 (-1), .methodLink RX8 115 yX8_reckon, .instanceMethod yX8_reckon, .selects RX8 yX8_reckon yX8_reckon, .initialized RX8, .code yX8_reckon cX8_reckon 5 (some .long), .fieldLink RX8 52 "MemoryMapModel" "calls" "[Z", .fieldLink RX8 48 "MemoryMapModel" "stacks" "[J"] ++ wsX80)
def wsX8_cell_ : List Cond := .code yX8_cell_ cX8_cell_ 3 (some .int) :: ([])
def wsX8_sum : List Cond := .code yX8_sum cX8_sum 6 (some .int) :: ([.fieldLink RX8 59 "MemoryMapModel" "octets" "[I", .fieldLink RX8 62 "MemoryMapModel" "copies" "[B", .constant RX8 131 (-1028477379), .methodLink RX8 127 yX8_cell_, .static yX8_cell_, .initialized RX8, .code yX8_cell_ cX8_cell_ 3 (some .int)] ++ wsX80)
def wsX8_block : List Cond := .code yX8_block cX8_block 3 (some .int) :: ([.fieldLink RX8 74 "MemoryMapModel" "thrown" "I", .constantLong RX8 119 (32), .fieldLink RX8 121 "MemoryMapModel" "blocks" "I", .fieldLink RX8 59 "MemoryMapModel" "octets" "[I", .fieldLink RX8 65 "MemoryMapModel" "sums" "[I", .methodLink RX8 124 yX8_sum, .instanceMethod yX8_sum, .selects RX8 yX8_sum yX8_sum, .initialized RX8, .code yX8_sum cX8_sum 6 (some .int), .fieldLink RX8 62 "MemoryMapModel" "copies" "[B", .constant RX8 131 (-1028477379), .methodLink RX8 127 yX8_cell_, .static yX8_cell_, .code yX8_cell_ cX8_cell_ 3 (some .int)] ++ wsX80)
def wsX8_noBlock : List Cond := .code yX8_noBlock cX8_noBlock 2 (some .boolean) :: ([.fieldLink RX8 121 "MemoryMapModel" "blocks" "I"] ++ wsX80)
def wsX8_write : List Cond := .code yX8_write cX8_write 5 (some .int) :: ([.fieldLink RX8 74 "MemoryMapModel" "thrown" "I", .fieldLink RX8 59 "MemoryMapModel" "octets" "[I", .fieldLink RX8 62 "MemoryMapModel" "copies" "[B", .fieldLink RX8 65 "MemoryMapModel" "sums" "[I", .methodLink RX8 132 yX8_noBlock, .instanceMethod yX8_noBlock, .selects RX8 yX8_noBlock yX8_noBlock, .initialized RX8, .code yX8_noBlock cX8_noBlock 2 (some .boolean), .fieldLink RX8 121 "MemoryMapModel" "blocks" "I", .methodLink RX8 127 yX8_cell_, .static yX8_cell_, .code yX8_cell_ cX8_cell_ 3 (some .int), .methodLink RX8 124 yX8_sum, .instanceMethod yX8_sum, .selects RX8 yX8_sum yX8_sum, .code yX8_sum cX8_sum 6 (some .int), .constant RX8 131 (-1028477379)] ++ wsX80)
def wsX8_poke : List Cond := .code yX8_poke cX8_poke 6 (some .int) :: ([.fieldLink RX8 74 "MemoryMapModel" "thrown" "I", .fieldLink RX8 59 "MemoryMapModel" "octets" "[I", .fieldLink RX8 62 "MemoryMapModel" "copies" "[B", .methodLink RX8 132 yX8_noBlock, .instanceMethod yX8_noBlock, .selects RX8 yX8_noBlock yX8_noBlock, .initialized RX8, .code yX8_noBlock cX8_noBlock 2 (some .boolean), .fieldLink RX8 121 "MemoryMapModel" "blocks" "I", .methodLink RX8 127 yX8_cell_, .static yX8_cell_, .code yX8_cell_ cX8_cell_ 3 (some .int)] ++ wsX80)
def wsX8_read : List Cond := .code yX8_read cX8_read 5 (some .int) :: ([.fieldLink RX8 74 "MemoryMapModel" "thrown" "I", .fieldLink RX8 65 "MemoryMapModel" "sums" "[I", .fieldLink RX8 59 "MemoryMapModel" "octets" "[I", .fieldLink RX8 62 "MemoryMapModel" "copies" "[B", .methodLink RX8 132 yX8_noBlock, .instanceMethod yX8_noBlock, .selects RX8 yX8_noBlock yX8_noBlock, .initialized RX8, .code yX8_noBlock cX8_noBlock 2 (some .boolean), .fieldLink RX8 121 "MemoryMapModel" "blocks" "I", .methodLink RX8 124 yX8_sum, .instanceMethod yX8_sum, .selects RX8 yX8_sum yX8_sum, .code yX8_sum cX8_sum 6 (some .int), .constant RX8 131 (-1028477379), .methodLink RX8 127 yX8_cell_, .static yX8_cell_, .code yX8_cell_ cX8_cell_ 3 (some .int)] ++ wsX80)
def wsJx00060_init_a7421 : List Cond := .code yJx00060_init_a7421 cJx00060_init_a7421 2 none :: ([])
def wsJ9_max_7cf53 : List Cond := .code yJ9_max_7cf53 cJ9_max_7cf53 2 (some .int) :: ([])
abbrev vwCl : List vw_C := [(RJx00060, TJx00060, 6), (RX0, TX0, 3), (RX1, TX1, 2), (RX2, TX2, 3), (RX3, TX3, 5), (RX4, TX4, 4), (RX5, TX5, 5), (RX6, TX6, 3), (RX7, TX7, 9), (RX8, TX8, 25)]
set_option maxRecDepth 20000 in
theorem ggX0_init_X1_init : GoodIn wsX0_init wsX1_init := goodIn_r _ [11, 12, 2, 3, 13, 14, 15, 16, 17, 7, 18, 19, 23, 24] (by decide +kernel) (by decide +kernel)
set_option maxRecDepth 20000 in
theorem gX0_init_X1_init_n15 : GoodIn wsX0_init (wsX1_init) := ggX0_init_X1_init
theorem dX0_init_0 : decode cX0_init 0 = .ok (.aload_n 0, 1) := by decide +kernel
theorem dX0_init_1 : decode cX0_init 1 = .ok (.invokespecial 1, 3) := by decide +kernel
theorem dX0_init_4 : decode cX0_init 4 = .ok (.aload_n 0, 1) := by decide +kernel
theorem dX0_init_5 : decode cX0_init 5 = .ok (.iload_n 1, 1) := by decide +kernel
theorem dX0_init_6 : decode cX0_init 6 = .ok (.putfield 7, 3) := by decide +kernel
theorem dX0_init_9 : decode cX0_init 9 = .ok (.aload_n 0, 1) := by decide +kernel
theorem dX0_init_10 : decode cX0_init 10 = .ok (.new 13, 3) := by decide +kernel
theorem dX0_init_13 : decode cX0_init 13 = .ok (.dup, 1) := by decide +kernel
theorem dX0_init_14 : decode cX0_init 14 = .ok (.iload_n 1, 1) := by decide +kernel
theorem dX0_init_15 : decode cX0_init 15 = .ok (.invokespecial 15, 3) := by decide +kernel
theorem dX0_init_18 : decode cX0_init 18 = .ok (.putfield 18, 3) := by decide +kernel
theorem dX0_init_21 : decode cX0_init 21 = .ok (.aload_n 0, 1) := by decide +kernel
theorem dX0_init_22 : decode cX0_init 22 = .ok (.new 13, 3) := by decide +kernel
theorem dX0_init_25 : decode cX0_init 25 = .ok (.dup, 1) := by decide +kernel
theorem dX0_init_26 : decode cX0_init 26 = .ok (.iload_n 1, 1) := by decide +kernel
theorem dX0_init_27 : decode cX0_init 27 = .ok (.invokespecial 15, 3) := by decide +kernel
theorem dX0_init_30 : decode cX0_init 30 = .ok (.putfield 22, 3) := by decide +kernel
theorem dX0_init_33 : decode cX0_init 33 = .ok (.return_, 1) := by decide +kernel
set_option maxRecDepth 20000 in
theorem ggX0_hasOctet_X7_isWithin : GoodIn wsX0_hasOctet wsX7_isWithin := goodIn_r _ [4] (by decide +kernel) (by decide +kernel)
set_option maxRecDepth 20000 in
theorem gX0_hasOctet_X7_isWithin_n25 : GoodIn wsX0_hasOctet (wsX7_isWithin) := ggX0_hasOctet_X7_isWithin
theorem dX0_hasOctet_0 : decode cX0_hasOctet 0 = .ok (.iload_n 1, 1) := by decide +kernel
theorem dX0_hasOctet_1 : decode cX0_hasOctet 1 = .ok (.i2l, 1) := by decide +kernel
theorem dX0_hasOctet_2 : decode cX0_hasOctet 2 = .ok (.lconst 0, 1) := by decide +kernel
theorem dX0_hasOctet_3 : decode cX0_hasOctet 3 = .ok (.aload_n 0, 1) := by decide +kernel
theorem dX0_hasOctet_4 : decode cX0_hasOctet 4 = .ok (.getfield 7, 3) := by decide +kernel
theorem dX0_hasOctet_7 : decode cX0_hasOctet 7 = .ok (.iconst 1, 1) := by decide +kernel
theorem dX0_hasOctet_8 : decode cX0_hasOctet 8 = .ok (.isub, 1) := by decide +kernel
theorem dX0_hasOctet_9 : decode cX0_hasOctet 9 = .ok (.i2l, 1) := by decide +kernel
theorem dX0_hasOctet_10 : decode cX0_hasOctet 10 = .ok (.invokestatic 25, 3) := by decide +kernel
theorem dX0_hasOctet_13 : decode cX0_hasOctet 13 = .ok (.ireturn, 1) := by decide +kernel
set_option maxRecDepth 20000 in
theorem ggX0_repair_X1_isGood : GoodIn wsX0_repair wsX1_isGood := goodIn_r _ [6, 7, 8, 9, 10, 4, 11, 12, 30, 31] (by decide +kernel) (by decide +kernel)
set_option maxRecDepth 20000 in
theorem gX0_repair_X1_isGood_n31 : GoodIn wsX0_repair (wsX1_isGood) := ggX0_repair_X1_isGood
set_option maxRecDepth 20000 in
theorem ggX0_repair_X1_become : GoodIn wsX0_repair wsX1_become := goodIn_r _ [15, 8, 16, 17, 18, 19, 7, 30, 31] (by decide +kernel) (by decide +kernel)
set_option maxRecDepth 20000 in
theorem gX0_repair_X1_become_n35 : GoodIn wsX0_repair (wsX1_become) := ggX0_repair_X1_become
set_option maxRecDepth 20000 in
theorem ggX0_repair_X1_clear : GoodIn wsX0_repair wsX1_clear := goodIn_r _ [22, 8, 7, 23, 24, 25, 26, 9, 10, 4, 11, 12, 30, 31] (by decide +kernel) (by decide +kernel)
set_option maxRecDepth 20000 in
theorem gX0_repair_X1_clear_n39 : GoodIn wsX0_repair (wsX1_clear) := ggX0_repair_X1_clear
theorem dX0_repair_0 : decode cX0_repair 0 = .ok (.aload_n 0, 1) := by decide +kernel
theorem dX0_repair_1 : decode cX0_repair 1 = .ok (.getfield 18, 3) := by decide +kernel
theorem dX0_repair_4 : decode cX0_repair 4 = .ok (.invokevirtual 31, 3) := by decide +kernel
theorem dX0_repair_7 : decode cX0_repair 7 = .ok (.ifCond .eq 16, 3) := by decide +kernel
theorem dX0_repair_10 : decode cX0_repair 10 = .ok (.aload_n 0, 1) := by decide +kernel
theorem dX0_repair_11 : decode cX0_repair 11 = .ok (.getfield 22, 3) := by decide +kernel
theorem dX0_repair_14 : decode cX0_repair 14 = .ok (.aload_n 0, 1) := by decide +kernel
theorem dX0_repair_15 : decode cX0_repair 15 = .ok (.getfield 18, 3) := by decide +kernel
theorem dX0_repair_18 : decode cX0_repair 18 = .ok (.invokevirtual 35, 3) := by decide +kernel
theorem dX0_repair_21 : decode cX0_repair 21 = .ok (.iconst 1, 1) := by decide +kernel
theorem dX0_repair_22 : decode cX0_repair 22 = .ok (.ireturn, 1) := by decide +kernel
theorem dX0_repair_23 : decode cX0_repair 23 = .ok (.aload_n 0, 1) := by decide +kernel
theorem dX0_repair_24 : decode cX0_repair 24 = .ok (.getfield 22, 3) := by decide +kernel
theorem dX0_repair_27 : decode cX0_repair 27 = .ok (.invokevirtual 31, 3) := by decide +kernel
theorem dX0_repair_30 : decode cX0_repair 30 = .ok (.ifCond .eq 16, 3) := by decide +kernel
theorem dX0_repair_33 : decode cX0_repair 33 = .ok (.aload_n 0, 1) := by decide +kernel
theorem dX0_repair_34 : decode cX0_repair 34 = .ok (.getfield 18, 3) := by decide +kernel
theorem dX0_repair_37 : decode cX0_repair 37 = .ok (.aload_n 0, 1) := by decide +kernel
theorem dX0_repair_38 : decode cX0_repair 38 = .ok (.getfield 22, 3) := by decide +kernel
theorem dX0_repair_41 : decode cX0_repair 41 = .ok (.invokevirtual 35, 3) := by decide +kernel
theorem dX0_repair_44 : decode cX0_repair 44 = .ok (.iconst 2, 1) := by decide +kernel
theorem dX0_repair_45 : decode cX0_repair 45 = .ok (.ireturn, 1) := by decide +kernel
theorem dX0_repair_46 : decode cX0_repair 46 = .ok (.aload_n 0, 1) := by decide +kernel
theorem dX0_repair_47 : decode cX0_repair 47 = .ok (.getfield 18, 3) := by decide +kernel
theorem dX0_repair_50 : decode cX0_repair 50 = .ok (.invokevirtual 39, 3) := by decide +kernel
theorem dX0_repair_53 : decode cX0_repair 53 = .ok (.aload_n 0, 1) := by decide +kernel
theorem dX0_repair_54 : decode cX0_repair 54 = .ok (.getfield 22, 3) := by decide +kernel
theorem dX0_repair_57 : decode cX0_repair 57 = .ok (.invokevirtual 39, 3) := by decide +kernel
theorem dX0_repair_60 : decode cX0_repair 60 = .ok (.iconst 0, 1) := by decide +kernel
theorem dX0_repair_61 : decode cX0_repair 61 = .ok (.ireturn, 1) := by decide +kernel
set_option maxRecDepth 20000 in
theorem ggX1_init_X1_sumOf : GoodIn wsX1_init wsX1_sumOf := goodIn_r _ [10, 11] (by decide +kernel) (by decide +kernel)
set_option maxRecDepth 20000 in
theorem gX1_init_X1_sumOf : GoodIn wsX1_init (va_wsS RX1 15 yX1_sumOf wsX1_sumOf) := goodIn_app (goodIn_of _ (by decide +kernel)) ggX1_init_X1_sumOf
theorem dX1_init_0 : decode cX1_init 0 = .ok (.aload_n 0, 1) := by decide +kernel
theorem dX1_init_1 : decode cX1_init 1 = .ok (.invokespecial 3, 3) := by decide +kernel
theorem dX1_init_4 : decode cX1_init 4 = .ok (.aload_n 0, 1) := by decide +kernel
theorem dX1_init_5 : decode cX1_init 5 = .ok (.iload_n 1, 1) := by decide +kernel
theorem dX1_init_6 : decode cX1_init 6 = .ok (.newarray .byte, 2) := by decide +kernel
theorem dX1_init_8 : decode cX1_init 8 = .ok (.putfield 9, 3) := by decide +kernel
theorem dX1_init_11 : decode cX1_init 11 = .ok (.aload_n 0, 1) := by decide +kernel
theorem dX1_init_12 : decode cX1_init 12 = .ok (.aload_n 0, 1) := by decide +kernel
theorem dX1_init_13 : decode cX1_init 13 = .ok (.getfield 9, 3) := by decide +kernel
theorem dX1_init_16 : decode cX1_init 16 = .ok (.invokestatic 15, 3) := by decide +kernel
theorem dX1_init_19 : decode cX1_init 19 = .ok (.putfield 19, 3) := by decide +kernel
theorem dX1_init_22 : decode cX1_init 22 = .ok (.return_, 1) := by decide +kernel
set_option maxRecDepth 20000 in
theorem ggX1_isGood_X1_sumOf : GoodIn wsX1_isGood wsX1_sumOf := goodIn_r _ [6, 7] (by decide +kernel) (by decide +kernel)
set_option maxRecDepth 20000 in
theorem gX1_isGood_X1_sumOf : GoodIn wsX1_isGood (va_wsS RX1 15 yX1_sumOf wsX1_sumOf) := goodIn_app (goodIn_of _ (by decide +kernel)) ggX1_isGood_X1_sumOf
theorem dX1_isGood_0 : decode cX1_isGood 0 = .ok (.aload_n 0, 1) := by decide +kernel
theorem dX1_isGood_1 : decode cX1_isGood 1 = .ok (.getfield 19, 3) := by decide +kernel
theorem dX1_isGood_4 : decode cX1_isGood 4 = .ok (.aload_n 0, 1) := by decide +kernel
theorem dX1_isGood_5 : decode cX1_isGood 5 = .ok (.getfield 9, 3) := by decide +kernel
theorem dX1_isGood_8 : decode cX1_isGood 8 = .ok (.invokestatic 15, 3) := by decide +kernel
theorem dX1_isGood_11 : decode cX1_isGood 11 = .ok (.if_icmp .ne 7, 3) := by decide +kernel
theorem dX1_isGood_14 : decode cX1_isGood 14 = .ok (.iconst 1, 1) := by decide +kernel
theorem dX1_isGood_15 : decode cX1_isGood 15 = .ok (.goto 4, 3) := by decide +kernel
theorem dX1_isGood_18 : decode cX1_isGood 18 = .ok (.iconst 0, 1) := by decide +kernel
theorem dX1_isGood_19 : decode cX1_isGood 19 = .ok (.ireturn, 1) := by decide +kernel
set_option maxRecDepth 20000 in
theorem ggX1_setOctet_X1_sumOf : GoodIn wsX1_setOctet wsX1_sumOf := goodIn_r _ [6, 7] (by decide +kernel) (by decide +kernel)
set_option maxRecDepth 20000 in
theorem gX1_setOctet_X1_sumOf : GoodIn wsX1_setOctet (va_wsS RX1 15 yX1_sumOf wsX1_sumOf) := goodIn_app (goodIn_of _ (by decide +kernel)) ggX1_setOctet_X1_sumOf
theorem dX1_setOctet_0 : decode cX1_setOctet 0 = .ok (.aload_n 0, 1) := by decide +kernel
theorem dX1_setOctet_1 : decode cX1_setOctet 1 = .ok (.getfield 9, 3) := by decide +kernel
theorem dX1_setOctet_4 : decode cX1_setOctet 4 = .ok (.iload_n 1, 1) := by decide +kernel
theorem dX1_setOctet_5 : decode cX1_setOctet 5 = .ok (.iload_n 2, 1) := by decide +kernel
theorem dX1_setOctet_6 : decode cX1_setOctet 6 = .ok (.bastore, 1) := by decide +kernel
theorem dX1_setOctet_7 : decode cX1_setOctet 7 = .ok (.aload_n 0, 1) := by decide +kernel
theorem dX1_setOctet_8 : decode cX1_setOctet 8 = .ok (.aload_n 0, 1) := by decide +kernel
theorem dX1_setOctet_9 : decode cX1_setOctet 9 = .ok (.getfield 9, 3) := by decide +kernel
theorem dX1_setOctet_12 : decode cX1_setOctet 12 = .ok (.invokestatic 15, 3) := by decide +kernel
theorem dX1_setOctet_15 : decode cX1_setOctet 15 = .ok (.putfield 19, 3) := by decide +kernel
theorem dX1_setOctet_18 : decode cX1_setOctet 18 = .ok (.return_, 1) := by decide +kernel
theorem dX1_flip_0 : decode cX1_flip 0 = .ok (.aload_n 0, 1) := by decide +kernel
theorem dX1_flip_1 : decode cX1_flip 1 = .ok (.getfield 9, 3) := by decide +kernel
theorem dX1_flip_4 : decode cX1_flip 4 = .ok (.iload_n 1, 1) := by decide +kernel
theorem dX1_flip_5 : decode cX1_flip 5 = .ok (.aload_n 0, 1) := by decide +kernel
theorem dX1_flip_6 : decode cX1_flip 6 = .ok (.getfield 9, 3) := by decide +kernel
theorem dX1_flip_9 : decode cX1_flip 9 = .ok (.iload_n 1, 1) := by decide +kernel
theorem dX1_flip_10 : decode cX1_flip 10 = .ok (.baload, 1) := by decide +kernel
theorem dX1_flip_11 : decode cX1_flip 11 = .ok (.iload_n 2, 1) := by decide +kernel
theorem dX1_flip_12 : decode cX1_flip 12 = .ok (.ixor, 1) := by decide +kernel
theorem dX1_flip_13 : decode cX1_flip 13 = .ok (.i2b, 1) := by decide +kernel
theorem dX1_flip_14 : decode cX1_flip 14 = .ok (.bastore, 1) := by decide +kernel
theorem dX1_flip_15 : decode cX1_flip 15 = .ok (.aload_n 0, 1) := by decide +kernel
theorem dX1_flip_16 : decode cX1_flip 16 = .ok (.getfield 9, 3) := by decide +kernel
theorem dX1_flip_19 : decode cX1_flip 19 = .ok (.iload_n 1, 1) := by decide +kernel
theorem dX1_flip_20 : decode cX1_flip 20 = .ok (.baload, 1) := by decide +kernel
theorem dX1_flip_21 : decode cX1_flip 21 = .ok (.sipush 255, 3) := by decide +kernel
theorem dX1_flip_24 : decode cX1_flip 24 = .ok (.iand, 1) := by decide +kernel
theorem dX1_flip_25 : decode cX1_flip 25 = .ok (.ireturn, 1) := by decide +kernel
theorem dX1_become_0 : decode cX1_become 0 = .ok (.aload_n 1, 1) := by decide +kernel
theorem dX1_become_1 : decode cX1_become 1 = .ok (.getfield 9, 3) := by decide +kernel
theorem dX1_become_4 : decode cX1_become 4 = .ok (.iconst 0, 1) := by decide +kernel
theorem dX1_become_5 : decode cX1_become 5 = .ok (.aload_n 0, 1) := by decide +kernel
theorem dX1_become_6 : decode cX1_become 6 = .ok (.getfield 9, 3) := by decide +kernel
theorem dX1_become_9 : decode cX1_become 9 = .ok (.iconst 0, 1) := by decide +kernel
theorem dX1_become_10 : decode cX1_become 10 = .ok (.aload_n 0, 1) := by decide +kernel
theorem dX1_become_11 : decode cX1_become 11 = .ok (.getfield 9, 3) := by decide +kernel
theorem dX1_become_14 : decode cX1_become 14 = .ok (.arraylength, 1) := by decide +kernel
theorem dX1_become_15 : decode cX1_become 15 = .ok (.invokestatic 23, 3) := by decide +kernel
theorem dX1_become_18 : decode cX1_become 18 = .ok (.aload_n 0, 1) := by decide +kernel
theorem dX1_become_19 : decode cX1_become 19 = .ok (.aload_n 1, 1) := by decide +kernel
theorem dX1_become_20 : decode cX1_become 20 = .ok (.getfield 19, 3) := by decide +kernel
theorem dX1_become_23 : decode cX1_become 23 = .ok (.putfield 19, 3) := by decide +kernel
theorem dX1_become_26 : decode cX1_become 26 = .ok (.return_, 1) := by decide +kernel
set_option maxRecDepth 20000 in
theorem ggX1_clear_J7_fill_031fb : GoodIn wsX1_clear wsJ7_fill_031fb := goodIn_r _ [6] (by decide +kernel) (by decide +kernel)
set_option maxRecDepth 20000 in
theorem gX1_clear_J7_fill_031fb : GoodIn wsX1_clear (va_wsS RX1 29 yJ7_fill_031fb wsJ7_fill_031fb) := goodIn_app (goodIn_of _ (by decide +kernel)) ggX1_clear_J7_fill_031fb
set_option maxRecDepth 20000 in
theorem ggX1_clear_X1_sumOf : GoodIn wsX1_clear wsX1_sumOf := goodIn_r _ [10, 11] (by decide +kernel) (by decide +kernel)
set_option maxRecDepth 20000 in
theorem gX1_clear_X1_sumOf : GoodIn wsX1_clear (va_wsS RX1 15 yX1_sumOf wsX1_sumOf) := goodIn_app (goodIn_of _ (by decide +kernel)) ggX1_clear_X1_sumOf
theorem dX1_clear_0 : decode cX1_clear 0 = .ok (.aload_n 0, 1) := by decide +kernel
theorem dX1_clear_1 : decode cX1_clear 1 = .ok (.getfield 9, 3) := by decide +kernel
theorem dX1_clear_4 : decode cX1_clear 4 = .ok (.iconst 0, 1) := by decide +kernel
theorem dX1_clear_5 : decode cX1_clear 5 = .ok (.invokestatic 29, 3) := by decide +kernel
theorem dX1_clear_8 : decode cX1_clear 8 = .ok (.aload_n 0, 1) := by decide +kernel
theorem dX1_clear_9 : decode cX1_clear 9 = .ok (.aload_n 0, 1) := by decide +kernel
theorem dX1_clear_10 : decode cX1_clear 10 = .ok (.getfield 9, 3) := by decide +kernel
theorem dX1_clear_13 : decode cX1_clear 13 = .ok (.invokestatic 15, 3) := by decide +kernel
theorem dX1_clear_16 : decode cX1_clear 16 = .ok (.putfield 19, 3) := by decide +kernel
theorem dX1_clear_19 : decode cX1_clear 19 = .ok (.return_, 1) := by decide +kernel
theorem dX1_sumOf_0 : decode cX1_sumOf 0 = .ok (.iconst 1, 1) := by decide +kernel
theorem dX1_sumOf_1 : decode cX1_sumOf 1 = .ok (.istore_n 1, 1) := by decide +kernel
theorem dX1_sumOf_2 : decode cX1_sumOf 2 = .ok (.iconst 0, 1) := by decide +kernel
theorem dX1_sumOf_3 : decode cX1_sumOf 3 = .ok (.istore_n 2, 1) := by decide +kernel
theorem dX1_sumOf_4 : decode cX1_sumOf 4 = .ok (.iload_n 2, 1) := by decide +kernel
theorem dX1_sumOf_5 : decode cX1_sumOf 5 = .ok (.aload_n 0, 1) := by decide +kernel
theorem dX1_sumOf_6 : decode cX1_sumOf 6 = .ok (.arraylength, 1) := by decide +kernel
theorem dX1_sumOf_7 : decode cX1_sumOf 7 = .ok (.if_icmp .ge 31, 3) := by decide +kernel
theorem dX1_sumOf_10 : decode cX1_sumOf 10 = .ok (.iload_n 1, 1) := by decide +kernel
theorem dX1_sumOf_11 : decode cX1_sumOf 11 = .ok (.aload_n 0, 1) := by decide +kernel
theorem dX1_sumOf_12 : decode cX1_sumOf 12 = .ok (.iload_n 2, 1) := by decide +kernel
theorem dX1_sumOf_13 : decode cX1_sumOf 13 = .ok (.baload, 1) := by decide +kernel
theorem dX1_sumOf_14 : decode cX1_sumOf 14 = .ok (.sipush 255, 3) := by decide +kernel
theorem dX1_sumOf_17 : decode cX1_sumOf 17 = .ok (.iand, 1) := by decide +kernel
theorem dX1_sumOf_18 : decode cX1_sumOf 18 = .ok (.ixor, 1) := by decide +kernel
theorem dX1_sumOf_19 : decode cX1_sumOf 19 = .ok (.istore_n 3, 1) := by decide +kernel
theorem dX1_sumOf_20 : decode cX1_sumOf 20 = .ok (.iload_n 3, 1) := by decide +kernel
theorem dX1_sumOf_21 : decode cX1_sumOf 21 = .ok (.iconst 5, 1) := by decide +kernel
theorem dX1_sumOf_22 : decode cX1_sumOf 22 = .ok (.ishl, 1) := by decide +kernel
theorem dX1_sumOf_23 : decode cX1_sumOf 23 = .ok (.iload_n 3, 1) := by decide +kernel
theorem dX1_sumOf_24 : decode cX1_sumOf 24 = .ok (.bipush 27, 2) := by decide +kernel
theorem dX1_sumOf_26 : decode cX1_sumOf 26 = .ok (.iushr, 1) := by decide +kernel
theorem dX1_sumOf_27 : decode cX1_sumOf 27 = .ok (.ior, 1) := by decide +kernel
theorem dX1_sumOf_28 : decode cX1_sumOf 28 = .ok (.ldc 35, 2) := by decide +kernel
theorem dX1_sumOf_30 : decode cX1_sumOf 30 = .ok (.imul, 1) := by decide +kernel
theorem dX1_sumOf_31 : decode cX1_sumOf 31 = .ok (.istore_n 1, 1) := by decide +kernel
theorem dX1_sumOf_32 : decode cX1_sumOf 32 = .ok (.iinc 2 1, 3) := by decide +kernel
theorem dX1_sumOf_35 : decode cX1_sumOf 35 = .ok (.goto (-31), 3) := by decide +kernel
theorem dX1_sumOf_38 : decode cX1_sumOf 38 = .ok (.iload_n 1, 1) := by decide +kernel
theorem dX1_sumOf_39 : decode cX1_sumOf 39 = .ok (.ireturn, 1) := by decide +kernel
theorem dX2_init_0 : decode cX2_init 0 = .ok (.aload_n 0, 1) := by decide +kernel
theorem dX2_init_1 : decode cX2_init 1 = .ok (.invokespecial 3, 3) := by decide +kernel
theorem dX2_init_4 : decode cX2_init 4 = .ok (.aload_n 0, 1) := by decide +kernel
theorem dX2_init_5 : decode cX2_init 5 = .ok (.bipush 31, 2) := by decide +kernel
theorem dX2_init_7 : decode cX2_init 7 = .ok (.newarray .int, 2) := by decide +kernel
theorem dX2_init_9 : decode cX2_init 9 = .ok (.putfield 9, 3) := by decide +kernel
theorem dX2_init_12 : decode cX2_init 12 = .ok (.aload_n 0, 1) := by decide +kernel
theorem dX2_init_13 : decode cX2_init 13 = .ok (.bipush 31, 2) := by decide +kernel
theorem dX2_init_15 : decode cX2_init 15 = .ok (.newarray .int, 2) := by decide +kernel
theorem dX2_init_17 : decode cX2_init 17 = .ok (.putfield 15, 3) := by decide +kernel
theorem dX2_init_20 : decode cX2_init 20 = .ok (.aload_n 0, 1) := by decide +kernel
theorem dX2_init_21 : decode cX2_init 21 = .ok (.bipush 31, 2) := by decide +kernel
theorem dX2_init_23 : decode cX2_init 23 = .ok (.newarray .int, 2) := by decide +kernel
theorem dX2_init_25 : decode cX2_init 25 = .ok (.putfield 18, 3) := by decide +kernel
theorem dX2_init_28 : decode cX2_init 28 = .ok (.return_, 1) := by decide +kernel
theorem dX2_addCall_0 : decode cX2_addCall 0 = .ok (.aload_n 0, 1) := by decide +kernel
theorem dX2_addCall_1 : decode cX2_addCall 1 = .ok (.getfield 15, 3) := by decide +kernel
theorem dX2_addCall_4 : decode cX2_addCall 4 = .ok (.iload_n 1, 1) := by decide +kernel
theorem dX2_addCall_5 : decode cX2_addCall 5 = .ok (.dup2, 1) := by decide +kernel
theorem dX2_addCall_6 : decode cX2_addCall 6 = .ok (.iaload, 1) := by decide +kernel
theorem dX2_addCall_7 : decode cX2_addCall 7 = .ok (.iconst 1, 1) := by decide +kernel
theorem dX2_addCall_8 : decode cX2_addCall 8 = .ok (.iload_n 2, 1) := by decide +kernel
theorem dX2_addCall_9 : decode cX2_addCall 9 = .ok (.ishl, 1) := by decide +kernel
theorem dX2_addCall_10 : decode cX2_addCall 10 = .ok (.ior, 1) := by decide +kernel
theorem dX2_addCall_11 : decode cX2_addCall 11 = .ok (.iastore, 1) := by decide +kernel
theorem dX2_addCall_12 : decode cX2_addCall 12 = .ok (.return_, 1) := by decide +kernel
set_option maxRecDepth 20000 in
theorem ggX2_countCalls_J6_bitCount_0f7a4 : GoodIn wsX2_countCalls wsJ6_bitCount_0f7a4 := goodIn_r _ [5, 6, 7, 8] (by decide +kernel) (by decide +kernel)
set_option maxRecDepth 20000 in
theorem gX2_countCalls_J6_bitCount_0f7a4 : GoodIn wsX2_countCalls (va_wsS RX2 21 yJ6_bitCount_0f7a4 wsJ6_bitCount_0f7a4) := goodIn_app (goodIn_of _ (by decide +kernel)) ggX2_countCalls_J6_bitCount_0f7a4
theorem dX2_countCalls_0 : decode cX2_countCalls 0 = .ok (.aload_n 0, 1) := by decide +kernel
theorem dX2_countCalls_1 : decode cX2_countCalls 1 = .ok (.getfield 15, 3) := by decide +kernel
theorem dX2_countCalls_4 : decode cX2_countCalls 4 = .ok (.iload_n 1, 1) := by decide +kernel
theorem dX2_countCalls_5 : decode cX2_countCalls 5 = .ok (.iaload, 1) := by decide +kernel
theorem dX2_countCalls_6 : decode cX2_countCalls 6 = .ok (.invokestatic 21, 3) := by decide +kernel
theorem dX2_countCalls_9 : decode cX2_countCalls 9 = .ok (.ireturn, 1) := by decide +kernel
set_option maxRecDepth 20000 in
theorem ggX2_depthFrom_X2_contains : GoodIn wsX2_depthFrom wsX2_contains := goodIn_r _ [5] (by decide +kernel) (by decide +kernel)
set_option maxRecDepth 20000 in
theorem gX2_depthFrom_X2_contains : GoodIn wsX2_depthFrom (va_wsS RX2 27 yX2_contains wsX2_contains) := goodIn_app (goodIn_of _ (by decide +kernel)) ggX2_depthFrom_X2_contains
set_option maxRecDepth 20000 in
theorem ggX2_depthFrom_X2_settleMore : GoodIn wsX2_depthFrom wsX2_settleMore := goodIn_r _ [9, 10, 1, 11, 2, 3, 4, 5, 12, 13, 14, 15, 16, 17, 18, 19, 20, 21, 22] (by decide +kernel) (by decide +kernel)
set_option maxRecDepth 20000 in
theorem gX2_depthFrom_X2_settleMore : GoodIn wsX2_depthFrom (wsV RX2 31 RX2 yX2_settleMore wsX2_settleMore) := goodIn_app (goodIn_of _ (by decide +kernel)) ggX2_depthFrom_X2_settleMore
theorem dX2_depthFrom_0 : decode cX2_depthFrom 0 = .ok (.iconst 0, 1) := by decide +kernel
theorem dX2_depthFrom_1 : decode cX2_depthFrom 1 = .ok (.istore_n 2, 1) := by decide +kernel
theorem dX2_depthFrom_2 : decode cX2_depthFrom 2 = .ok (.iconst 0, 1) := by decide +kernel
theorem dX2_depthFrom_3 : decode cX2_depthFrom 3 = .ok (.istore_n 3, 1) := by decide +kernel
theorem dX2_depthFrom_4 : decode cX2_depthFrom 4 = .ok (.iload_n 3, 1) := by decide +kernel
theorem dX2_depthFrom_5 : decode cX2_depthFrom 5 = .ok (.bipush 30, 2) := by decide +kernel
theorem dX2_depthFrom_7 : decode cX2_depthFrom 7 = .ok (.if_icmp .ge 23, 3) := by decide +kernel
theorem dX2_depthFrom_10 : decode cX2_depthFrom 10 = .ok (.iload_n 2, 1) := by decide +kernel
theorem dX2_depthFrom_11 : decode cX2_depthFrom 11 = .ok (.iload_n 1, 1) := by decide +kernel
theorem dX2_depthFrom_12 : decode cX2_depthFrom 12 = .ok (.invokestatic 27, 3) := by decide +kernel
theorem dX2_depthFrom_15 : decode cX2_depthFrom 15 = .ok (.ifCond .ne 15, 3) := by decide +kernel
theorem dX2_depthFrom_18 : decode cX2_depthFrom 18 = .ok (.aload_n 0, 1) := by decide +kernel
theorem dX2_depthFrom_19 : decode cX2_depthFrom 19 = .ok (.iload_n 2, 1) := by decide +kernel
theorem dX2_depthFrom_20 : decode cX2_depthFrom 20 = .ok (.invokevirtual 31, 3) := by decide +kernel
theorem dX2_depthFrom_23 : decode cX2_depthFrom 23 = .ok (.istore_n 2, 1) := by decide +kernel
theorem dX2_depthFrom_24 : decode cX2_depthFrom 24 = .ok (.iinc 3 1, 3) := by decide +kernel
theorem dX2_depthFrom_27 : decode cX2_depthFrom 27 = .ok (.goto (-23), 3) := by decide +kernel
theorem dX2_depthFrom_30 : decode cX2_depthFrom 30 = .ok (.iload_n 2, 1) := by decide +kernel
theorem dX2_depthFrom_31 : decode cX2_depthFrom 31 = .ok (.iload_n 1, 1) := by decide +kernel
theorem dX2_depthFrom_32 : decode cX2_depthFrom 32 = .ok (.invokestatic 27, 3) := by decide +kernel
theorem dX2_depthFrom_35 : decode cX2_depthFrom 35 = .ok (.ifCond .eq 12, 3) := by decide +kernel
theorem dX2_depthFrom_38 : decode cX2_depthFrom 38 = .ok (.aload_n 0, 1) := by decide +kernel
theorem dX2_depthFrom_39 : decode cX2_depthFrom 39 = .ok (.getfield 18, 3) := by decide +kernel
theorem dX2_depthFrom_42 : decode cX2_depthFrom 42 = .ok (.iload_n 1, 1) := by decide +kernel
theorem dX2_depthFrom_43 : decode cX2_depthFrom 43 = .ok (.iaload, 1) := by decide +kernel
theorem dX2_depthFrom_44 : decode cX2_depthFrom 44 = .ok (.goto 4, 3) := by decide +kernel
theorem dX2_depthFrom_47 : decode cX2_depthFrom 47 = .ok (.iconst (-1), 1) := by decide +kernel
theorem dX2_depthFrom_48 : decode cX2_depthFrom 48 = .ok (.ireturn, 1) := by decide +kernel
set_option maxRecDepth 20000 in
theorem ggX2_settleMore_X2_contains : GoodIn wsX2_settleMore wsX2_contains := goodIn_r _ [7] (by decide +kernel) (by decide +kernel)
set_option maxRecDepth 20000 in
theorem gX2_settleMore_X2_contains : GoodIn wsX2_settleMore (va_wsS RX2 27 yX2_contains wsX2_contains) := goodIn_app (goodIn_of _ (by decide +kernel)) ggX2_settleMore_X2_contains
set_option maxRecDepth 20000 in
theorem ggX2_settleMore_X2_deepestCalled : GoodIn wsX2_settleMore wsX2_deepestCalled := goodIn_r _ [11, 1, 2, 12, 13, 14, 15, 4, 5, 6, 7, 16, 17, 18] (by decide +kernel) (by decide +kernel)
set_option maxRecDepth 20000 in
theorem gX2_settleMore_X2_deepestCalled : GoodIn wsX2_settleMore (wsV RX2 34 RX2 yX2_deepestCalled wsX2_deepestCalled) := goodIn_app (goodIn_of _ (by decide +kernel)) ggX2_settleMore_X2_deepestCalled
theorem dX2_settleMore_0 : decode cX2_settleMore 0 = .ok (.iload_n 1, 1) := by decide +kernel
theorem dX2_settleMore_1 : decode cX2_settleMore 1 = .ok (.istore_n 2, 1) := by decide +kernel
theorem dX2_settleMore_2 : decode cX2_settleMore 2 = .ok (.iconst 1, 1) := by decide +kernel
theorem dX2_settleMore_3 : decode cX2_settleMore 3 = .ok (.istore_n 3, 1) := by decide +kernel
theorem dX2_settleMore_4 : decode cX2_settleMore 4 = .ok (.iload_n 3, 1) := by decide +kernel
theorem dX2_settleMore_5 : decode cX2_settleMore 5 = .ok (.bipush 30, 2) := by decide +kernel
theorem dX2_settleMore_7 : decode cX2_settleMore 7 = .ok (.if_icmp .gt 54, 3) := by decide +kernel
theorem dX2_settleMore_10 : decode cX2_settleMore 10 = .ok (.iload_n 2, 1) := by decide +kernel
theorem dX2_settleMore_11 : decode cX2_settleMore 11 = .ok (.iload_n 3, 1) := by decide +kernel
theorem dX2_settleMore_12 : decode cX2_settleMore 12 = .ok (.invokestatic 27, 3) := by decide +kernel
theorem dX2_settleMore_15 : decode cX2_settleMore 15 = .ok (.ifCond .ne 40, 3) := by decide +kernel
theorem dX2_settleMore_18 : decode cX2_settleMore 18 = .ok (.aload_n 0, 1) := by decide +kernel
theorem dX2_settleMore_19 : decode cX2_settleMore 19 = .ok (.getfield 15, 3) := by decide +kernel
theorem dX2_settleMore_22 : decode cX2_settleMore 22 = .ok (.iload_n 3, 1) := by decide +kernel
theorem dX2_settleMore_23 : decode cX2_settleMore 23 = .ok (.iaload, 1) := by decide +kernel
theorem dX2_settleMore_24 : decode cX2_settleMore 24 = .ok (.iload_n 2, 1) := by decide +kernel
theorem dX2_settleMore_25 : decode cX2_settleMore 25 = .ok (.iconst (-1), 1) := by decide +kernel
theorem dX2_settleMore_26 : decode cX2_settleMore 26 = .ok (.ixor, 1) := by decide +kernel
theorem dX2_settleMore_27 : decode cX2_settleMore 27 = .ok (.iand, 1) := by decide +kernel
theorem dX2_settleMore_28 : decode cX2_settleMore 28 = .ok (.ifCond .ne 27, 3) := by decide +kernel
theorem dX2_settleMore_31 : decode cX2_settleMore 31 = .ok (.aload_n 0, 1) := by decide +kernel
theorem dX2_settleMore_32 : decode cX2_settleMore 32 = .ok (.getfield 18, 3) := by decide +kernel
theorem dX2_settleMore_35 : decode cX2_settleMore 35 = .ok (.iload_n 3, 1) := by decide +kernel
theorem dX2_settleMore_36 : decode cX2_settleMore 36 = .ok (.aload_n 0, 1) := by decide +kernel
theorem dX2_settleMore_37 : decode cX2_settleMore 37 = .ok (.getfield 9, 3) := by decide +kernel
theorem dX2_settleMore_40 : decode cX2_settleMore 40 = .ok (.iload_n 3, 1) := by decide +kernel
theorem dX2_settleMore_41 : decode cX2_settleMore 41 = .ok (.iaload, 1) := by decide +kernel
theorem dX2_settleMore_42 : decode cX2_settleMore 42 = .ok (.aload_n 0, 1) := by decide +kernel
theorem dX2_settleMore_43 : decode cX2_settleMore 43 = .ok (.iload_n 3, 1) := by decide +kernel
theorem dX2_settleMore_44 : decode cX2_settleMore 44 = .ok (.invokevirtual 34, 3) := by decide +kernel
theorem dX2_settleMore_47 : decode cX2_settleMore 47 = .ok (.iadd, 1) := by decide +kernel
theorem dX2_settleMore_48 : decode cX2_settleMore 48 = .ok (.iastore, 1) := by decide +kernel
theorem dX2_settleMore_49 : decode cX2_settleMore 49 = .ok (.iload_n 2, 1) := by decide +kernel
theorem dX2_settleMore_50 : decode cX2_settleMore 50 = .ok (.iconst 1, 1) := by decide +kernel
theorem dX2_settleMore_51 : decode cX2_settleMore 51 = .ok (.iload_n 3, 1) := by decide +kernel
theorem dX2_settleMore_52 : decode cX2_settleMore 52 = .ok (.ishl, 1) := by decide +kernel
theorem dX2_settleMore_53 : decode cX2_settleMore 53 = .ok (.ior, 1) := by decide +kernel
theorem dX2_settleMore_54 : decode cX2_settleMore 54 = .ok (.istore_n 2, 1) := by decide +kernel
theorem dX2_settleMore_55 : decode cX2_settleMore 55 = .ok (.iinc 3 1, 3) := by decide +kernel
theorem dX2_settleMore_58 : decode cX2_settleMore 58 = .ok (.goto (-54), 3) := by decide +kernel
theorem dX2_settleMore_61 : decode cX2_settleMore 61 = .ok (.iload_n 2, 1) := by decide +kernel
theorem dX2_settleMore_62 : decode cX2_settleMore 62 = .ok (.ireturn, 1) := by decide +kernel
set_option maxRecDepth 20000 in
theorem ggX2_deepestCalled_X2_contains : GoodIn wsX2_deepestCalled wsX2_contains := goodIn_r _ [10] (by decide +kernel) (by decide +kernel)
set_option maxRecDepth 20000 in
theorem gX2_deepestCalled_X2_contains : GoodIn wsX2_deepestCalled (va_wsS RX2 27 yX2_contains wsX2_contains) := goodIn_app (goodIn_of _ (by decide +kernel)) ggX2_deepestCalled_X2_contains
theorem dX2_deepestCalled_0 : decode cX2_deepestCalled 0 = .ok (.iconst 0, 1) := by decide +kernel
theorem dX2_deepestCalled_1 : decode cX2_deepestCalled 1 = .ok (.istore_n 2, 1) := by decide +kernel
theorem dX2_deepestCalled_2 : decode cX2_deepestCalled 2 = .ok (.iconst 1, 1) := by decide +kernel
theorem dX2_deepestCalled_3 : decode cX2_deepestCalled 3 = .ok (.istore_n 3, 1) := by decide +kernel
theorem dX2_deepestCalled_4 : decode cX2_deepestCalled 4 = .ok (.iload_n 3, 1) := by decide +kernel
theorem dX2_deepestCalled_5 : decode cX2_deepestCalled 5 = .ok (.bipush 30, 2) := by decide +kernel
theorem dX2_deepestCalled_7 : decode cX2_deepestCalled 7 = .ok (.if_icmp .gt 33, 3) := by decide +kernel
theorem dX2_deepestCalled_10 : decode cX2_deepestCalled 10 = .ok (.aload_n 0, 1) := by decide +kernel
theorem dX2_deepestCalled_11 : decode cX2_deepestCalled 11 = .ok (.getfield 15, 3) := by decide +kernel
theorem dX2_deepestCalled_14 : decode cX2_deepestCalled 14 = .ok (.iload_n 1, 1) := by decide +kernel
theorem dX2_deepestCalled_15 : decode cX2_deepestCalled 15 = .ok (.iaload, 1) := by decide +kernel
theorem dX2_deepestCalled_16 : decode cX2_deepestCalled 16 = .ok (.iload_n 3, 1) := by decide +kernel
theorem dX2_deepestCalled_17 : decode cX2_deepestCalled 17 = .ok (.invokestatic 27, 3) := by decide +kernel
theorem dX2_deepestCalled_20 : decode cX2_deepestCalled 20 = .ok (.ifCond .eq 14, 3) := by decide +kernel
theorem dX2_deepestCalled_23 : decode cX2_deepestCalled 23 = .ok (.iload_n 2, 1) := by decide +kernel
theorem dX2_deepestCalled_24 : decode cX2_deepestCalled 24 = .ok (.aload_n 0, 1) := by decide +kernel
theorem dX2_deepestCalled_25 : decode cX2_deepestCalled 25 = .ok (.getfield 18, 3) := by decide +kernel
theorem dX2_deepestCalled_28 : decode cX2_deepestCalled 28 = .ok (.iload_n 3, 1) := by decide +kernel
theorem dX2_deepestCalled_29 : decode cX2_deepestCalled 29 = .ok (.iaload, 1) := by decide +kernel
theorem dX2_deepestCalled_30 : decode cX2_deepestCalled 30 = .ok (.invokestatic 37, 3) := by decide +kernel
theorem dX2_deepestCalled_33 : decode cX2_deepestCalled 33 = .ok (.istore_n 2, 1) := by decide +kernel
theorem dX2_deepestCalled_34 : decode cX2_deepestCalled 34 = .ok (.iinc 3 1, 3) := by decide +kernel
theorem dX2_deepestCalled_37 : decode cX2_deepestCalled 37 = .ok (.goto (-33), 3) := by decide +kernel
theorem dX2_deepestCalled_40 : decode cX2_deepestCalled 40 = .ok (.iload_n 2, 1) := by decide +kernel
theorem dX2_deepestCalled_41 : decode cX2_deepestCalled 41 = .ok (.ireturn, 1) := by decide +kernel
theorem dX2_contains_0 : decode cX2_contains 0 = .ok (.iload_n 0, 1) := by decide +kernel
theorem dX2_contains_1 : decode cX2_contains 1 = .ok (.iload_n 1, 1) := by decide +kernel
theorem dX2_contains_2 : decode cX2_contains 2 = .ok (.ishr, 1) := by decide +kernel
theorem dX2_contains_3 : decode cX2_contains 3 = .ok (.iconst 1, 1) := by decide +kernel
theorem dX2_contains_4 : decode cX2_contains 4 = .ok (.iand, 1) := by decide +kernel
theorem dX2_contains_5 : decode cX2_contains 5 = .ok (.iconst 1, 1) := by decide +kernel
theorem dX2_contains_6 : decode cX2_contains 6 = .ok (.if_icmp .ne 7, 3) := by decide +kernel
theorem dX2_contains_9 : decode cX2_contains 9 = .ok (.iconst 1, 1) := by decide +kernel
theorem dX2_contains_10 : decode cX2_contains 10 = .ok (.goto 4, 3) := by decide +kernel
theorem dX2_contains_13 : decode cX2_contains 13 = .ok (.iconst 0, 1) := by decide +kernel
theorem dX2_contains_14 : decode cX2_contains 14 = .ok (.ireturn, 1) := by decide +kernel
theorem dX3_init_0 : decode cX3_init 0 = .ok (.aload_n 0, 1) := by decide +kernel
theorem dX3_init_1 : decode cX3_init 1 = .ok (.invokespecial 3, 3) := by decide +kernel
theorem dX3_init_4 : decode cX3_init 4 = .ok (.aload_n 0, 1) := by decide +kernel
theorem dX3_init_5 : decode cX3_init 5 = .ok (.bipush 40, 2) := by decide +kernel
theorem dX3_init_7 : decode cX3_init 7 = .ok (.newarray .int, 2) := by decide +kernel
theorem dX3_init_9 : decode cX3_init 9 = .ok (.putfield 9, 3) := by decide +kernel
theorem dX3_init_12 : decode cX3_init 12 = .ok (.aload_n 0, 1) := by decide +kernel
theorem dX3_init_13 : decode cX3_init 13 = .ok (.bipush 50, 2) := by decide +kernel
theorem dX3_init_15 : decode cX3_init 15 = .ok (.bipush 40, 2) := by decide +kernel
theorem dX3_init_17 : decode cX3_init 17 = .ok (.multianewarray 15 2, 4) := by decide +kernel
theorem dX3_init_21 : decode cX3_init 21 = .ok (.putfield 17, 3) := by decide +kernel
theorem dX3_init_24 : decode cX3_init 24 = .ok (.aload_n 0, 1) := by decide +kernel
theorem dX3_init_25 : decode cX3_init 25 = .ok (.bipush 50, 2) := by decide +kernel
theorem dX3_init_27 : decode cX3_init 27 = .ok (.newarray .int, 2) := by decide +kernel
theorem dX3_init_29 : decode cX3_init 29 = .ok (.putfield 20, 3) := by decide +kernel
theorem dX3_init_32 : decode cX3_init 32 = .ok (.return_, 1) := by decide +kernel
theorem dX3_add_0 : decode cX3_add 0 = .ok (.aload_n 1, 1) := by decide +kernel
theorem dX3_add_1 : decode cX3_add 1 = .ok (.iconst 0, 1) := by decide +kernel
theorem dX3_add_2 : decode cX3_add 2 = .ok (.aload_n 0, 1) := by decide +kernel
theorem dX3_add_3 : decode cX3_add 3 = .ok (.getfield 9, 3) := by decide +kernel
theorem dX3_add_6 : decode cX3_add 6 = .ok (.iconst 0, 1) := by decide +kernel
theorem dX3_add_7 : decode cX3_add 7 = .ok (.iload_n 2, 1) := by decide +kernel
theorem dX3_add_8 : decode cX3_add 8 = .ok (.invokestatic 23, 3) := by decide +kernel
theorem dX3_add_11 : decode cX3_add 11 = .ok (.aload_n 0, 1) := by decide +kernel
theorem dX3_add_12 : decode cX3_add 12 = .ok (.iload_n 2, 1) := by decide +kernel
theorem dX3_add_13 : decode cX3_add 13 = .ok (.putfield 29, 3) := by decide +kernel
theorem dX3_add_16 : decode cX3_add 16 = .ok (.aload_n 0, 1) := by decide +kernel
theorem dX3_add_17 : decode cX3_add 17 = .ok (.getfield 33, 3) := by decide +kernel
theorem dX3_add_20 : decode cX3_add 20 = .ok (.bipush 50, 2) := by decide +kernel
theorem dX3_add_22 : decode cX3_add 22 = .ok (.if_icmp .ge 39, 3) := by decide +kernel
theorem dX3_add_25 : decode cX3_add 25 = .ok (.aload_n 1, 1) := by decide +kernel
theorem dX3_add_26 : decode cX3_add 26 = .ok (.iconst 0, 1) := by decide +kernel
theorem dX3_add_27 : decode cX3_add 27 = .ok (.aload_n 0, 1) := by decide +kernel
theorem dX3_add_28 : decode cX3_add 28 = .ok (.getfield 17, 3) := by decide +kernel
theorem dX3_add_31 : decode cX3_add 31 = .ok (.aload_n 0, 1) := by decide +kernel
theorem dX3_add_32 : decode cX3_add 32 = .ok (.getfield 33, 3) := by decide +kernel
theorem dX3_add_35 : decode cX3_add 35 = .ok (.aaload, 1) := by decide +kernel
theorem dX3_add_36 : decode cX3_add 36 = .ok (.iconst 0, 1) := by decide +kernel
theorem dX3_add_37 : decode cX3_add 37 = .ok (.iload_n 2, 1) := by decide +kernel
theorem dX3_add_38 : decode cX3_add 38 = .ok (.invokestatic 23, 3) := by decide +kernel
theorem dX3_add_41 : decode cX3_add 41 = .ok (.aload_n 0, 1) := by decide +kernel
theorem dX3_add_42 : decode cX3_add 42 = .ok (.getfield 20, 3) := by decide +kernel
theorem dX3_add_45 : decode cX3_add 45 = .ok (.aload_n 0, 1) := by decide +kernel
theorem dX3_add_46 : decode cX3_add 46 = .ok (.getfield 33, 3) := by decide +kernel
theorem dX3_add_49 : decode cX3_add 49 = .ok (.iload_n 2, 1) := by decide +kernel
theorem dX3_add_50 : decode cX3_add 50 = .ok (.iastore, 1) := by decide +kernel
theorem dX3_add_51 : decode cX3_add 51 = .ok (.aload_n 0, 1) := by decide +kernel
theorem dX3_add_52 : decode cX3_add 52 = .ok (.dup, 1) := by decide +kernel
theorem dX3_add_53 : decode cX3_add 53 = .ok (.getfield 33, 3) := by decide +kernel
theorem dX3_add_56 : decode cX3_add 56 = .ok (.iconst 1, 1) := by decide +kernel
theorem dX3_add_57 : decode cX3_add 57 = .ok (.iadd, 1) := by decide +kernel
theorem dX3_add_58 : decode cX3_add 58 = .ok (.putfield 33, 3) := by decide +kernel
theorem dX3_add_61 : decode cX3_add 61 = .ok (.return_, 1) := by decide +kernel
theorem dX3_countMovedSince_0 : decode cX3_countMovedSince 0 = .ok (.iconst 0, 1) := by decide +kernel
theorem dX3_countMovedSince_1 : decode cX3_countMovedSince 1 = .ok (.istore_n 2, 1) := by decide +kernel
theorem dX3_countMovedSince_2 : decode cX3_countMovedSince 2 = .ok (.iconst 0, 1) := by decide +kernel
theorem dX3_countMovedSince_3 : decode cX3_countMovedSince 3 = .ok (.istore_n 3, 1) := by decide +kernel
theorem dX3_countMovedSince_4 : decode cX3_countMovedSince 4 = .ok (.iload_n 3, 1) := by decide +kernel
theorem dX3_countMovedSince_5 : decode cX3_countMovedSince 5 = .ok (.aload_n 0, 1) := by decide +kernel
theorem dX3_countMovedSince_6 : decode cX3_countMovedSince 6 = .ok (.getfield 20, 3) := by decide +kernel
theorem dX3_countMovedSince_9 : decode cX3_countMovedSince 9 = .ok (.iload_n 1, 1) := by decide +kernel
theorem dX3_countMovedSince_10 : decode cX3_countMovedSince 10 = .ok (.iaload, 1) := by decide +kernel
theorem dX3_countMovedSince_11 : decode cX3_countMovedSince 11 = .ok (.if_icmp .ge 29, 3) := by decide +kernel
theorem dX3_countMovedSince_14 : decode cX3_countMovedSince 14 = .ok (.aload_n 0, 1) := by decide +kernel
theorem dX3_countMovedSince_15 : decode cX3_countMovedSince 15 = .ok (.getfield 17, 3) := by decide +kernel
theorem dX3_countMovedSince_18 : decode cX3_countMovedSince 18 = .ok (.iload_n 1, 1) := by decide +kernel
theorem dX3_countMovedSince_19 : decode cX3_countMovedSince 19 = .ok (.aaload, 1) := by decide +kernel
theorem dX3_countMovedSince_20 : decode cX3_countMovedSince 20 = .ok (.iload_n 3, 1) := by decide +kernel
theorem dX3_countMovedSince_21 : decode cX3_countMovedSince 21 = .ok (.iaload, 1) := by decide +kernel
theorem dX3_countMovedSince_22 : decode cX3_countMovedSince 22 = .ok (.aload_n 0, 1) := by decide +kernel
theorem dX3_countMovedSince_23 : decode cX3_countMovedSince 23 = .ok (.getfield 9, 3) := by decide +kernel
theorem dX3_countMovedSince_26 : decode cX3_countMovedSince 26 = .ok (.iload_n 3, 1) := by decide +kernel
theorem dX3_countMovedSince_27 : decode cX3_countMovedSince 27 = .ok (.iaload, 1) := by decide +kernel
theorem dX3_countMovedSince_28 : decode cX3_countMovedSince 28 = .ok (.if_icmp .eq 6, 3) := by decide +kernel
theorem dX3_countMovedSince_31 : decode cX3_countMovedSince 31 = .ok (.iinc 2 1, 3) := by decide +kernel
theorem dX3_countMovedSince_34 : decode cX3_countMovedSince 34 = .ok (.iinc 3 1, 3) := by decide +kernel
theorem dX3_countMovedSince_37 : decode cX3_countMovedSince 37 = .ok (.goto (-33), 3) := by decide +kernel
theorem dX3_countMovedSince_40 : decode cX3_countMovedSince 40 = .ok (.iload_n 2, 1) := by decide +kernel
theorem dX3_countMovedSince_41 : decode cX3_countMovedSince 41 = .ok (.ireturn, 1) := by decide +kernel
theorem dX4_init_0 : decode cX4_init 0 = .ok (.aload_n 0, 1) := by decide +kernel
theorem dX4_init_1 : decode cX4_init 1 = .ok (.invokespecial 3, 3) := by decide +kernel
theorem dX4_init_4 : decode cX4_init 4 = .ok (.aload_n 0, 1) := by decide +kernel
theorem dX4_init_5 : decode cX4_init 5 = .ok (.bipush 16, 2) := by decide +kernel
theorem dX4_init_7 : decode cX4_init 7 = .ok (.newarray .int, 2) := by decide +kernel
theorem dX4_init_9 : decode cX4_init 9 = .ok (.putfield 9, 3) := by decide +kernel
theorem dX4_init_12 : decode cX4_init 12 = .ok (.aload_n 0, 1) := by decide +kernel
theorem dX4_init_13 : decode cX4_init 13 = .ok (.bipush 16, 2) := by decide +kernel
theorem dX4_init_15 : decode cX4_init 15 = .ok (.newarray .int, 2) := by decide +kernel
theorem dX4_init_17 : decode cX4_init 17 = .ok (.putfield 15, 3) := by decide +kernel
theorem dX4_init_20 : decode cX4_init 20 = .ok (.aload_n 0, 1) := by decide +kernel
theorem dX4_init_21 : decode cX4_init 21 = .ok (.bipush 16, 2) := by decide +kernel
theorem dX4_init_23 : decode cX4_init 23 = .ok (.newarray .int, 2) := by decide +kernel
theorem dX4_init_25 : decode cX4_init 25 = .ok (.putfield 18, 3) := by decide +kernel
theorem dX4_init_28 : decode cX4_init 28 = .ok (.return_, 1) := by decide +kernel
theorem dX4_overlap_0 : decode cX4_overlap 0 = .ok (.iconst 0, 1) := by decide +kernel
theorem dX4_overlap_1 : decode cX4_overlap 1 = .ok (.istore_n 3, 1) := by decide +kernel
theorem dX4_overlap_2 : decode cX4_overlap 2 = .ok (.iload_n 3, 1) := by decide +kernel
theorem dX4_overlap_3 : decode cX4_overlap 3 = .ok (.aload_n 0, 1) := by decide +kernel
theorem dX4_overlap_4 : decode cX4_overlap 4 = .ok (.getfield 21, 3) := by decide +kernel
theorem dX4_overlap_7 : decode cX4_overlap 7 = .ok (.if_icmp .ge 31, 3) := by decide +kernel
theorem dX4_overlap_10 : decode cX4_overlap 10 = .ok (.iload_n 1, 1) := by decide +kernel
theorem dX4_overlap_11 : decode cX4_overlap 11 = .ok (.aload_n 0, 1) := by decide +kernel
theorem dX4_overlap_12 : decode cX4_overlap 12 = .ok (.getfield 15, 3) := by decide +kernel
theorem dX4_overlap_15 : decode cX4_overlap 15 = .ok (.iload_n 3, 1) := by decide +kernel
theorem dX4_overlap_16 : decode cX4_overlap 16 = .ok (.iaload, 1) := by decide +kernel
theorem dX4_overlap_17 : decode cX4_overlap 17 = .ok (.if_icmp .ge 15, 3) := by decide +kernel
theorem dX4_overlap_20 : decode cX4_overlap 20 = .ok (.aload_n 0, 1) := by decide +kernel
theorem dX4_overlap_21 : decode cX4_overlap 21 = .ok (.getfield 9, 3) := by decide +kernel
theorem dX4_overlap_24 : decode cX4_overlap 24 = .ok (.iload_n 3, 1) := by decide +kernel
theorem dX4_overlap_25 : decode cX4_overlap 25 = .ok (.iaload, 1) := by decide +kernel
theorem dX4_overlap_26 : decode cX4_overlap 26 = .ok (.iload_n 2, 1) := by decide +kernel
theorem dX4_overlap_27 : decode cX4_overlap 27 = .ok (.if_icmp .ge 5, 3) := by decide +kernel
theorem dX4_overlap_30 : decode cX4_overlap 30 = .ok (.iconst 1, 1) := by decide +kernel
theorem dX4_overlap_31 : decode cX4_overlap 31 = .ok (.ireturn, 1) := by decide +kernel
theorem dX4_overlap_32 : decode cX4_overlap 32 = .ok (.iinc 3 1, 3) := by decide +kernel
theorem dX4_overlap_35 : decode cX4_overlap 35 = .ok (.goto (-33), 3) := by decide +kernel
theorem dX4_overlap_38 : decode cX4_overlap 38 = .ok (.iconst 0, 1) := by decide +kernel
theorem dX4_overlap_39 : decode cX4_overlap 39 = .ok (.ireturn, 1) := by decide +kernel
theorem dX4_allow_0 : decode cX4_allow 0 = .ok (.aload_n 0, 1) := by decide +kernel
theorem dX4_allow_1 : decode cX4_allow 1 = .ok (.getfield 18, 3) := by decide +kernel
theorem dX4_allow_4 : decode cX4_allow 4 = .ok (.iload_n 1, 1) := by decide +kernel
theorem dX4_allow_5 : decode cX4_allow 5 = .ok (.iaload, 1) := by decide +kernel
theorem dX4_allow_6 : decode cX4_allow 6 = .ok (.iload_n 2, 1) := by decide +kernel
theorem dX4_allow_7 : decode cX4_allow 7 = .ok (.iand, 1) := by decide +kernel
theorem dX4_allow_8 : decode cX4_allow 8 = .ok (.iload_n 2, 1) := by decide +kernel
theorem dX4_allow_9 : decode cX4_allow 9 = .ok (.if_icmp .ne 7, 3) := by decide +kernel
theorem dX4_allow_12 : decode cX4_allow 12 = .ok (.iconst 1, 1) := by decide +kernel
theorem dX4_allow_13 : decode cX4_allow 13 = .ok (.goto 4, 3) := by decide +kernel
theorem dX4_allow_16 : decode cX4_allow 16 = .ok (.iconst 0, 1) := by decide +kernel
theorem dX4_allow_17 : decode cX4_allow 17 = .ok (.ireturn, 1) := by decide +kernel
theorem dX4_add_0 : decode cX4_add 0 = .ok (.aload_n 0, 1) := by decide +kernel
theorem dX4_add_1 : decode cX4_add 1 = .ok (.getfield 21, 3) := by decide +kernel
theorem dX4_add_4 : decode cX4_add 4 = .ok (.bipush 16, 2) := by decide +kernel
theorem dX4_add_6 : decode cX4_add 6 = .ok (.if_icmp .lt 6, 3) := by decide +kernel
theorem dX4_add_9 : decode cX4_add 9 = .ok (.bipush (-4), 2) := by decide +kernel
theorem dX4_add_11 : decode cX4_add 11 = .ok (.ireturn, 1) := by decide +kernel
theorem dX4_add_12 : decode cX4_add 12 = .ok (.aload_n 0, 1) := by decide +kernel
theorem dX4_add_13 : decode cX4_add 13 = .ok (.getfield 9, 3) := by decide +kernel
theorem dX4_add_16 : decode cX4_add 16 = .ok (.aload_n 0, 1) := by decide +kernel
theorem dX4_add_17 : decode cX4_add 17 = .ok (.getfield 21, 3) := by decide +kernel
theorem dX4_add_20 : decode cX4_add 20 = .ok (.iload_n 1, 1) := by decide +kernel
theorem dX4_add_21 : decode cX4_add 21 = .ok (.iastore, 1) := by decide +kernel
theorem dX4_add_22 : decode cX4_add 22 = .ok (.aload_n 0, 1) := by decide +kernel
theorem dX4_add_23 : decode cX4_add 23 = .ok (.getfield 15, 3) := by decide +kernel
theorem dX4_add_26 : decode cX4_add 26 = .ok (.aload_n 0, 1) := by decide +kernel
theorem dX4_add_27 : decode cX4_add 27 = .ok (.getfield 21, 3) := by decide +kernel
theorem dX4_add_30 : decode cX4_add 30 = .ok (.iload_n 2, 1) := by decide +kernel
theorem dX4_add_31 : decode cX4_add 31 = .ok (.iastore, 1) := by decide +kernel
theorem dX4_add_32 : decode cX4_add 32 = .ok (.aload_n 0, 1) := by decide +kernel
theorem dX4_add_33 : decode cX4_add 33 = .ok (.getfield 18, 3) := by decide +kernel
theorem dX4_add_36 : decode cX4_add 36 = .ok (.aload_n 0, 1) := by decide +kernel
theorem dX4_add_37 : decode cX4_add 37 = .ok (.getfield 21, 3) := by decide +kernel
theorem dX4_add_40 : decode cX4_add 40 = .ok (.iload_n 3, 1) := by decide +kernel
theorem dX4_add_41 : decode cX4_add 41 = .ok (.iastore, 1) := by decide +kernel
theorem dX4_add_42 : decode cX4_add 42 = .ok (.aload_n 0, 1) := by decide +kernel
theorem dX4_add_43 : decode cX4_add 43 = .ok (.dup, 1) := by decide +kernel
theorem dX4_add_44 : decode cX4_add 44 = .ok (.getfield 21, 3) := by decide +kernel
theorem dX4_add_47 : decode cX4_add 47 = .ok (.iconst 1, 1) := by decide +kernel
theorem dX4_add_48 : decode cX4_add 48 = .ok (.iadd, 1) := by decide +kernel
theorem dX4_add_49 : decode cX4_add 49 = .ok (.putfield 21, 3) := by decide +kernel
theorem dX4_add_52 : decode cX4_add 52 = .ok (.aload_n 0, 1) := by decide +kernel
theorem dX4_add_53 : decode cX4_add 53 = .ok (.getfield 21, 3) := by decide +kernel
theorem dX4_add_56 : decode cX4_add 56 = .ok (.ireturn, 1) := by decide +kernel
theorem dX5_init_0 : decode cX5_init 0 = .ok (.aload_n 0, 1) := by decide +kernel
theorem dX5_init_1 : decode cX5_init 1 = .ok (.invokespecial 3, 3) := by decide +kernel
theorem dX5_init_4 : decode cX5_init 4 = .ok (.aload_n 0, 1) := by decide +kernel
theorem dX5_init_5 : decode cX5_init 5 = .ok (.bipush 40, 2) := by decide +kernel
theorem dX5_init_7 : decode cX5_init 7 = .ok (.newarray .int, 2) := by decide +kernel
theorem dX5_init_9 : decode cX5_init 9 = .ok (.putfield 9, 3) := by decide +kernel
theorem dX5_init_12 : decode cX5_init 12 = .ok (.aload_n 0, 1) := by decide +kernel
theorem dX5_init_13 : decode cX5_init 13 = .ok (.bipush 40, 2) := by decide +kernel
theorem dX5_init_15 : decode cX5_init 15 = .ok (.newarray .int, 2) := by decide +kernel
theorem dX5_init_17 : decode cX5_init 17 = .ok (.putfield 15, 3) := by decide +kernel
theorem dX5_init_20 : decode cX5_init 20 = .ok (.aload_n 0, 1) := by decide +kernel
theorem dX5_init_21 : decode cX5_init 21 = .ok (.bipush 40, 2) := by decide +kernel
theorem dX5_init_23 : decode cX5_init 23 = .ok (.newarray .int, 2) := by decide +kernel
theorem dX5_init_25 : decode cX5_init 25 = .ok (.putfield 18, 3) := by decide +kernel
theorem dX5_init_28 : decode cX5_init 28 = .ok (.aload_n 0, 1) := by decide +kernel
theorem dX5_init_29 : decode cX5_init 29 = .ok (.bipush 40, 2) := by decide +kernel
theorem dX5_init_31 : decode cX5_init 31 = .ok (.newarray .int, 2) := by decide +kernel
theorem dX5_init_33 : decode cX5_init 33 = .ok (.putfield 21, 3) := by decide +kernel
theorem dX5_init_36 : decode cX5_init 36 = .ok (.return_, 1) := by decide +kernel
set_option maxRecDepth 20000 in
theorem ggX5_add_X5_enterInOrder : GoodIn wsX5_add wsX5_enterInOrder := goodIn_r _ [9, 2, 10, 11, 12, 13, 14, 15] (by decide +kernel) (by decide +kernel)
set_option maxRecDepth 20000 in
theorem gX5_add_X5_enterInOrder : GoodIn wsX5_add (wsV RX5 28 RX5 yX5_enterInOrder wsX5_enterInOrder) := goodIn_app (goodIn_of _ (by decide +kernel)) ggX5_add_X5_enterInOrder
theorem dX5_add_0 : decode cX5_add 0 = .ok (.aload_n 0, 1) := by decide +kernel
theorem dX5_add_1 : decode cX5_add 1 = .ok (.getfield 24, 3) := by decide +kernel
theorem dX5_add_4 : decode cX5_add 4 = .ok (.bipush 40, 2) := by decide +kernel
theorem dX5_add_6 : decode cX5_add 6 = .ok (.if_icmp .lt 6, 3) := by decide +kernel
theorem dX5_add_9 : decode cX5_add 9 = .ok (.bipush (-4), 2) := by decide +kernel
theorem dX5_add_11 : decode cX5_add 11 = .ok (.ireturn, 1) := by decide +kernel
theorem dX5_add_12 : decode cX5_add 12 = .ok (.aload_n 0, 1) := by decide +kernel
theorem dX5_add_13 : decode cX5_add 13 = .ok (.getfield 9, 3) := by decide +kernel
theorem dX5_add_16 : decode cX5_add 16 = .ok (.aload_n 0, 1) := by decide +kernel
theorem dX5_add_17 : decode cX5_add 17 = .ok (.getfield 24, 3) := by decide +kernel
theorem dX5_add_20 : decode cX5_add 20 = .ok (.iload_n 1, 1) := by decide +kernel
theorem dX5_add_21 : decode cX5_add 21 = .ok (.iastore, 1) := by decide +kernel
theorem dX5_add_22 : decode cX5_add 22 = .ok (.aload_n 0, 1) := by decide +kernel
theorem dX5_add_23 : decode cX5_add 23 = .ok (.getfield 15, 3) := by decide +kernel
theorem dX5_add_26 : decode cX5_add 26 = .ok (.aload_n 0, 1) := by decide +kernel
theorem dX5_add_27 : decode cX5_add 27 = .ok (.getfield 24, 3) := by decide +kernel
theorem dX5_add_30 : decode cX5_add 30 = .ok (.iload_n 2, 1) := by decide +kernel
theorem dX5_add_31 : decode cX5_add 31 = .ok (.iastore, 1) := by decide +kernel
theorem dX5_add_32 : decode cX5_add 32 = .ok (.aload_n 0, 1) := by decide +kernel
theorem dX5_add_33 : decode cX5_add 33 = .ok (.getfield 18, 3) := by decide +kernel
theorem dX5_add_36 : decode cX5_add 36 = .ok (.aload_n 0, 1) := by decide +kernel
theorem dX5_add_37 : decode cX5_add 37 = .ok (.getfield 24, 3) := by decide +kernel
theorem dX5_add_40 : decode cX5_add 40 = .ok (.iload_n 3, 1) := by decide +kernel
theorem dX5_add_41 : decode cX5_add 41 = .ok (.iastore, 1) := by decide +kernel
theorem dX5_add_42 : decode cX5_add 42 = .ok (.aload_n 0, 1) := by decide +kernel
theorem dX5_add_43 : decode cX5_add 43 = .ok (.aload_n 0, 1) := by decide +kernel
theorem dX5_add_44 : decode cX5_add 44 = .ok (.getfield 24, 3) := by decide +kernel
theorem dX5_add_47 : decode cX5_add 47 = .ok (.invokevirtual 28, 3) := by decide +kernel
theorem dX5_add_50 : decode cX5_add 50 = .ok (.aload_n 0, 1) := by decide +kernel
theorem dX5_add_51 : decode cX5_add 51 = .ok (.dup, 1) := by decide +kernel
theorem dX5_add_52 : decode cX5_add 52 = .ok (.getfield 24, 3) := by decide +kernel
theorem dX5_add_55 : decode cX5_add 55 = .ok (.iconst 1, 1) := by decide +kernel
theorem dX5_add_56 : decode cX5_add 56 = .ok (.iadd, 1) := by decide +kernel
theorem dX5_add_57 : decode cX5_add 57 = .ok (.putfield 24, 3) := by decide +kernel
theorem dX5_add_60 : decode cX5_add 60 = .ok (.aload_n 0, 1) := by decide +kernel
theorem dX5_add_61 : decode cX5_add 61 = .ok (.getfield 24, 3) := by decide +kernel
theorem dX5_add_64 : decode cX5_add 64 = .ok (.ireturn, 1) := by decide +kernel
theorem dX5_enterInOrder_0 : decode cX5_enterInOrder 0 = .ok (.iload_n 1, 1) := by decide +kernel
theorem dX5_enterInOrder_1 : decode cX5_enterInOrder 1 = .ok (.istore_n 2, 1) := by decide +kernel
theorem dX5_enterInOrder_2 : decode cX5_enterInOrder 2 = .ok (.iload_n 2, 1) := by decide +kernel
theorem dX5_enterInOrder_3 : decode cX5_enterInOrder 3 = .ok (.ifCond .le 45, 3) := by decide +kernel
theorem dX5_enterInOrder_6 : decode cX5_enterInOrder 6 = .ok (.aload_n 0, 1) := by decide +kernel
theorem dX5_enterInOrder_7 : decode cX5_enterInOrder 7 = .ok (.getfield 9, 3) := by decide +kernel
theorem dX5_enterInOrder_10 : decode cX5_enterInOrder 10 = .ok (.aload_n 0, 1) := by decide +kernel
theorem dX5_enterInOrder_11 : decode cX5_enterInOrder 11 = .ok (.getfield 21, 3) := by decide +kernel
theorem dX5_enterInOrder_14 : decode cX5_enterInOrder 14 = .ok (.iload_n 2, 1) := by decide +kernel
theorem dX5_enterInOrder_15 : decode cX5_enterInOrder 15 = .ok (.iconst 1, 1) := by decide +kernel
theorem dX5_enterInOrder_16 : decode cX5_enterInOrder 16 = .ok (.isub, 1) := by decide +kernel
theorem dX5_enterInOrder_17 : decode cX5_enterInOrder 17 = .ok (.iaload, 1) := by decide +kernel
theorem dX5_enterInOrder_18 : decode cX5_enterInOrder 18 = .ok (.iaload, 1) := by decide +kernel
theorem dX5_enterInOrder_19 : decode cX5_enterInOrder 19 = .ok (.aload_n 0, 1) := by decide +kernel
theorem dX5_enterInOrder_20 : decode cX5_enterInOrder 20 = .ok (.getfield 9, 3) := by decide +kernel
theorem dX5_enterInOrder_23 : decode cX5_enterInOrder 23 = .ok (.iload_n 1, 1) := by decide +kernel
theorem dX5_enterInOrder_24 : decode cX5_enterInOrder 24 = .ok (.iaload, 1) := by decide +kernel
theorem dX5_enterInOrder_25 : decode cX5_enterInOrder 25 = .ok (.if_icmp .ge 23, 3) := by decide +kernel
theorem dX5_enterInOrder_28 : decode cX5_enterInOrder 28 = .ok (.aload_n 0, 1) := by decide +kernel
theorem dX5_enterInOrder_29 : decode cX5_enterInOrder 29 = .ok (.getfield 21, 3) := by decide +kernel
theorem dX5_enterInOrder_32 : decode cX5_enterInOrder 32 = .ok (.iload_n 2, 1) := by decide +kernel
theorem dX5_enterInOrder_33 : decode cX5_enterInOrder 33 = .ok (.aload_n 0, 1) := by decide +kernel
theorem dX5_enterInOrder_34 : decode cX5_enterInOrder 34 = .ok (.getfield 21, 3) := by decide +kernel
theorem dX5_enterInOrder_37 : decode cX5_enterInOrder 37 = .ok (.iload_n 2, 1) := by decide +kernel
theorem dX5_enterInOrder_38 : decode cX5_enterInOrder 38 = .ok (.iconst 1, 1) := by decide +kernel
theorem dX5_enterInOrder_39 : decode cX5_enterInOrder 39 = .ok (.isub, 1) := by decide +kernel
theorem dX5_enterInOrder_40 : decode cX5_enterInOrder 40 = .ok (.iaload, 1) := by decide +kernel
theorem dX5_enterInOrder_41 : decode cX5_enterInOrder 41 = .ok (.iastore, 1) := by decide +kernel
theorem dX5_enterInOrder_42 : decode cX5_enterInOrder 42 = .ok (.iinc 2 (-1), 3) := by decide +kernel
theorem dX5_enterInOrder_45 : decode cX5_enterInOrder 45 = .ok (.goto (-43), 3) := by decide +kernel
theorem dX5_enterInOrder_48 : decode cX5_enterInOrder 48 = .ok (.aload_n 0, 1) := by decide +kernel
theorem dX5_enterInOrder_49 : decode cX5_enterInOrder 49 = .ok (.getfield 21, 3) := by decide +kernel
theorem dX5_enterInOrder_52 : decode cX5_enterInOrder 52 = .ok (.iload_n 2, 1) := by decide +kernel
theorem dX5_enterInOrder_53 : decode cX5_enterInOrder 53 = .ok (.iload_n 1, 1) := by decide +kernel
theorem dX5_enterInOrder_54 : decode cX5_enterInOrder 54 = .ok (.iastore, 1) := by decide +kernel
theorem dX5_enterInOrder_55 : decode cX5_enterInOrder 55 = .ok (.return_, 1) := by decide +kernel
theorem dX6_init_0 : decode cX6_init 0 = .ok (.aload_n 0, 1) := by decide +kernel
theorem dX6_init_1 : decode cX6_init 1 = .ok (.invokespecial 3, 3) := by decide +kernel
theorem dX6_init_4 : decode cX6_init 4 = .ok (.aload_n 0, 1) := by decide +kernel
theorem dX6_init_5 : decode cX6_init 5 = .ok (.bipush 40, 2) := by decide +kernel
theorem dX6_init_7 : decode cX6_init 7 = .ok (.newarray .int, 2) := by decide +kernel
theorem dX6_init_9 : decode cX6_init 9 = .ok (.putfield 9, 3) := by decide +kernel
theorem dX6_init_12 : decode cX6_init 12 = .ok (.aload_n 0, 1) := by decide +kernel
theorem dX6_init_13 : decode cX6_init 13 = .ok (.bipush 40, 2) := by decide +kernel
theorem dX6_init_15 : decode cX6_init 15 = .ok (.newarray .int, 2) := by decide +kernel
theorem dX6_init_17 : decode cX6_init 17 = .ok (.putfield 15, 3) := by decide +kernel
theorem dX6_init_20 : decode cX6_init 20 = .ok (.return_, 1) := by decide +kernel
theorem dX6_clear_0 : decode cX6_clear 0 = .ok (.aload_n 0, 1) := by decide +kernel
theorem dX6_clear_1 : decode cX6_clear 1 = .ok (.iconst 0, 1) := by decide +kernel
theorem dX6_clear_2 : decode cX6_clear 2 = .ok (.putfield 18, 3) := by decide +kernel
theorem dX6_clear_5 : decode cX6_clear 5 = .ok (.return_, 1) := by decide +kernel
set_option maxRecDepth 20000 in
theorem ggX6_leastFree_X6_alignedUp : GoodIn wsX6_leastFree wsX6_alignedUp := goodIn_r _ [7] (by decide +kernel) (by decide +kernel)
set_option maxRecDepth 20000 in
theorem gX6_leastFree_X6_alignedUp : GoodIn wsX6_leastFree (va_wsS RX6 22 yX6_alignedUp wsX6_alignedUp) := goodIn_app (goodIn_of _ (by decide +kernel)) ggX6_leastFree_X6_alignedUp
theorem dX6_leastFree_0 : decode cX6_leastFree 0 = .ok (.iload_n 1, 1) := by decide +kernel
theorem dX6_leastFree_1 : decode cX6_leastFree 1 = .ok (.iload_n 3, 1) := by decide +kernel
theorem dX6_leastFree_2 : decode cX6_leastFree 2 = .ok (.invokestatic 22, 3) := by decide +kernel
theorem dX6_leastFree_5 : decode cX6_leastFree 5 = .ok (.istore 4, 2) := by decide +kernel
theorem dX6_leastFree_7 : decode cX6_leastFree 7 = .ok (.iconst 0, 1) := by decide +kernel
theorem dX6_leastFree_8 : decode cX6_leastFree 8 = .ok (.istore 5, 2) := by decide +kernel
theorem dX6_leastFree_10 : decode cX6_leastFree 10 = .ok (.iload 5, 2) := by decide +kernel
theorem dX6_leastFree_12 : decode cX6_leastFree 12 = .ok (.aload_n 0, 1) := by decide +kernel
theorem dX6_leastFree_13 : decode cX6_leastFree 13 = .ok (.getfield 18, 3) := by decide +kernel
theorem dX6_leastFree_16 : decode cX6_leastFree 16 = .ok (.if_icmp .ge 48, 3) := by decide +kernel
theorem dX6_leastFree_19 : decode cX6_leastFree 19 = .ok (.aload_n 0, 1) := by decide +kernel
theorem dX6_leastFree_20 : decode cX6_leastFree 20 = .ok (.getfield 9, 3) := by decide +kernel
theorem dX6_leastFree_23 : decode cX6_leastFree 23 = .ok (.iload 5, 2) := by decide +kernel
theorem dX6_leastFree_25 : decode cX6_leastFree 25 = .ok (.iaload, 1) := by decide +kernel
theorem dX6_leastFree_26 : decode cX6_leastFree 26 = .ok (.iload 4, 2) := by decide +kernel
theorem dX6_leastFree_28 : decode cX6_leastFree 28 = .ok (.iload_n 2, 1) := by decide +kernel
theorem dX6_leastFree_29 : decode cX6_leastFree 29 = .ok (.iadd, 1) := by decide +kernel
theorem dX6_leastFree_30 : decode cX6_leastFree 30 = .ok (.if_icmp .ge 34, 3) := by decide +kernel
theorem dX6_leastFree_33 : decode cX6_leastFree 33 = .ok (.aload_n 0, 1) := by decide +kernel
theorem dX6_leastFree_34 : decode cX6_leastFree 34 = .ok (.getfield 15, 3) := by decide +kernel
theorem dX6_leastFree_37 : decode cX6_leastFree 37 = .ok (.iload 5, 2) := by decide +kernel
theorem dX6_leastFree_39 : decode cX6_leastFree 39 = .ok (.iaload, 1) := by decide +kernel
theorem dX6_leastFree_40 : decode cX6_leastFree 40 = .ok (.iload 4, 2) := by decide +kernel
theorem dX6_leastFree_42 : decode cX6_leastFree 42 = .ok (.if_icmp .le 16, 3) := by decide +kernel
theorem dX6_leastFree_45 : decode cX6_leastFree 45 = .ok (.aload_n 0, 1) := by decide +kernel
theorem dX6_leastFree_46 : decode cX6_leastFree 46 = .ok (.getfield 15, 3) := by decide +kernel
theorem dX6_leastFree_49 : decode cX6_leastFree 49 = .ok (.iload 5, 2) := by decide +kernel
theorem dX6_leastFree_51 : decode cX6_leastFree 51 = .ok (.iaload, 1) := by decide +kernel
theorem dX6_leastFree_52 : decode cX6_leastFree 52 = .ok (.iload_n 3, 1) := by decide +kernel
theorem dX6_leastFree_53 : decode cX6_leastFree 53 = .ok (.invokestatic 22, 3) := by decide +kernel
theorem dX6_leastFree_56 : decode cX6_leastFree 56 = .ok (.istore 4, 2) := by decide +kernel
theorem dX6_leastFree_58 : decode cX6_leastFree 58 = .ok (.iinc 5 1, 3) := by decide +kernel
theorem dX6_leastFree_61 : decode cX6_leastFree 61 = .ok (.goto (-51), 3) := by decide +kernel
theorem dX6_leastFree_64 : decode cX6_leastFree 64 = .ok (.iload 4, 2) := by decide +kernel
theorem dX6_leastFree_66 : decode cX6_leastFree 66 = .ok (.ireturn, 1) := by decide +kernel
theorem dX6_add_0 : decode cX6_add 0 = .ok (.aload_n 0, 1) := by decide +kernel
theorem dX6_add_1 : decode cX6_add 1 = .ok (.getfield 18, 3) := by decide +kernel
theorem dX6_add_4 : decode cX6_add 4 = .ok (.bipush 40, 2) := by decide +kernel
theorem dX6_add_6 : decode cX6_add 6 = .ok (.if_icmp .lt 4, 3) := by decide +kernel
theorem dX6_add_9 : decode cX6_add 9 = .ok (.return_, 1) := by decide +kernel
theorem dX6_add_10 : decode cX6_add 10 = .ok (.aload_n 0, 1) := by decide +kernel
theorem dX6_add_11 : decode cX6_add 11 = .ok (.getfield 18, 3) := by decide +kernel
theorem dX6_add_14 : decode cX6_add 14 = .ok (.istore_n 3, 1) := by decide +kernel
theorem dX6_add_15 : decode cX6_add 15 = .ok (.iload_n 3, 1) := by decide +kernel
theorem dX6_add_16 : decode cX6_add 16 = .ok (.ifCond .le 49, 3) := by decide +kernel
theorem dX6_add_19 : decode cX6_add 19 = .ok (.aload_n 0, 1) := by decide +kernel
theorem dX6_add_20 : decode cX6_add 20 = .ok (.getfield 9, 3) := by decide +kernel
theorem dX6_add_23 : decode cX6_add 23 = .ok (.iload_n 3, 1) := by decide +kernel
theorem dX6_add_24 : decode cX6_add 24 = .ok (.iconst 1, 1) := by decide +kernel
theorem dX6_add_25 : decode cX6_add 25 = .ok (.isub, 1) := by decide +kernel
theorem dX6_add_26 : decode cX6_add 26 = .ok (.iaload, 1) := by decide +kernel
theorem dX6_add_27 : decode cX6_add 27 = .ok (.iload_n 1, 1) := by decide +kernel
theorem dX6_add_28 : decode cX6_add 28 = .ok (.if_icmp .le 37, 3) := by decide +kernel
theorem dX6_add_31 : decode cX6_add 31 = .ok (.aload_n 0, 1) := by decide +kernel
theorem dX6_add_32 : decode cX6_add 32 = .ok (.getfield 9, 3) := by decide +kernel
theorem dX6_add_35 : decode cX6_add 35 = .ok (.iload_n 3, 1) := by decide +kernel
theorem dX6_add_36 : decode cX6_add 36 = .ok (.aload_n 0, 1) := by decide +kernel
theorem dX6_add_37 : decode cX6_add 37 = .ok (.getfield 9, 3) := by decide +kernel
theorem dX6_add_40 : decode cX6_add 40 = .ok (.iload_n 3, 1) := by decide +kernel
theorem dX6_add_41 : decode cX6_add 41 = .ok (.iconst 1, 1) := by decide +kernel
theorem dX6_add_42 : decode cX6_add 42 = .ok (.isub, 1) := by decide +kernel
theorem dX6_add_43 : decode cX6_add 43 = .ok (.iaload, 1) := by decide +kernel
theorem dX6_add_44 : decode cX6_add 44 = .ok (.iastore, 1) := by decide +kernel
theorem dX6_add_45 : decode cX6_add 45 = .ok (.aload_n 0, 1) := by decide +kernel
theorem dX6_add_46 : decode cX6_add 46 = .ok (.getfield 15, 3) := by decide +kernel
theorem dX6_add_49 : decode cX6_add 49 = .ok (.iload_n 3, 1) := by decide +kernel
theorem dX6_add_50 : decode cX6_add 50 = .ok (.aload_n 0, 1) := by decide +kernel
theorem dX6_add_51 : decode cX6_add 51 = .ok (.getfield 15, 3) := by decide +kernel
theorem dX6_add_54 : decode cX6_add 54 = .ok (.iload_n 3, 1) := by decide +kernel
theorem dX6_add_55 : decode cX6_add 55 = .ok (.iconst 1, 1) := by decide +kernel
theorem dX6_add_56 : decode cX6_add 56 = .ok (.isub, 1) := by decide +kernel
theorem dX6_add_57 : decode cX6_add 57 = .ok (.iaload, 1) := by decide +kernel
theorem dX6_add_58 : decode cX6_add 58 = .ok (.iastore, 1) := by decide +kernel
theorem dX6_add_59 : decode cX6_add 59 = .ok (.iinc 3 (-1), 3) := by decide +kernel
theorem dX6_add_62 : decode cX6_add 62 = .ok (.goto (-47), 3) := by decide +kernel
theorem dX6_add_65 : decode cX6_add 65 = .ok (.aload_n 0, 1) := by decide +kernel
theorem dX6_add_66 : decode cX6_add 66 = .ok (.getfield 9, 3) := by decide +kernel
theorem dX6_add_69 : decode cX6_add 69 = .ok (.iload_n 3, 1) := by decide +kernel
theorem dX6_add_70 : decode cX6_add 70 = .ok (.iload_n 1, 1) := by decide +kernel
theorem dX6_add_71 : decode cX6_add 71 = .ok (.iastore, 1) := by decide +kernel
theorem dX6_add_72 : decode cX6_add 72 = .ok (.aload_n 0, 1) := by decide +kernel
theorem dX6_add_73 : decode cX6_add 73 = .ok (.getfield 15, 3) := by decide +kernel
theorem dX6_add_76 : decode cX6_add 76 = .ok (.iload_n 3, 1) := by decide +kernel
theorem dX6_add_77 : decode cX6_add 77 = .ok (.iload_n 2, 1) := by decide +kernel
theorem dX6_add_78 : decode cX6_add 78 = .ok (.iastore, 1) := by decide +kernel
theorem dX6_add_79 : decode cX6_add 79 = .ok (.aload_n 0, 1) := by decide +kernel
theorem dX6_add_80 : decode cX6_add 80 = .ok (.dup, 1) := by decide +kernel
theorem dX6_add_81 : decode cX6_add 81 = .ok (.getfield 18, 3) := by decide +kernel
theorem dX6_add_84 : decode cX6_add 84 = .ok (.iconst 1, 1) := by decide +kernel
theorem dX6_add_85 : decode cX6_add 85 = .ok (.iadd, 1) := by decide +kernel
theorem dX6_add_86 : decode cX6_add 86 = .ok (.putfield 18, 3) := by decide +kernel
theorem dX6_add_89 : decode cX6_add 89 = .ok (.return_, 1) := by decide +kernel
theorem dX6_alignedUp_0 : decode cX6_alignedUp 0 = .ok (.iload_n 1, 1) := by decide +kernel
theorem dX6_alignedUp_1 : decode cX6_alignedUp 1 = .ok (.iconst 1, 1) := by decide +kernel
theorem dX6_alignedUp_2 : decode cX6_alignedUp 2 = .ok (.if_icmp .ge 7, 3) := by decide +kernel
theorem dX6_alignedUp_5 : decode cX6_alignedUp 5 = .ok (.iload_n 0, 1) := by decide +kernel
theorem dX6_alignedUp_6 : decode cX6_alignedUp 6 = .ok (.goto 12, 3) := by decide +kernel
theorem dX6_alignedUp_9 : decode cX6_alignedUp 9 = .ok (.iload_n 0, 1) := by decide +kernel
theorem dX6_alignedUp_10 : decode cX6_alignedUp 10 = .ok (.iload_n 1, 1) := by decide +kernel
theorem dX6_alignedUp_11 : decode cX6_alignedUp 11 = .ok (.iadd, 1) := by decide +kernel
theorem dX6_alignedUp_12 : decode cX6_alignedUp 12 = .ok (.iconst 1, 1) := by decide +kernel
theorem dX6_alignedUp_13 : decode cX6_alignedUp 13 = .ok (.isub, 1) := by decide +kernel
theorem dX6_alignedUp_14 : decode cX6_alignedUp 14 = .ok (.iload_n 1, 1) := by decide +kernel
theorem dX6_alignedUp_15 : decode cX6_alignedUp 15 = .ok (.idiv, 1) := by decide +kernel
theorem dX6_alignedUp_16 : decode cX6_alignedUp 16 = .ok (.iload_n 1, 1) := by decide +kernel
theorem dX6_alignedUp_17 : decode cX6_alignedUp 17 = .ok (.imul, 1) := by decide +kernel
theorem dX6_alignedUp_18 : decode cX6_alignedUp 18 = .ok (.ireturn, 1) := by decide +kernel
end
section
set_option maxRecDepth 20000 in
theorem ggX7_init_X4_init : GoodIn wsX7_init wsX4_init := goodIn_r _ [31, 32, 2, 3, 16, 33, 34, 35, 65, 66, 67, 68] (by decide +kernel) (by decide +kernel)
set_option maxRecDepth 20000 in
theorem gX7_init_X4_init_n9 : GoodIn wsX7_init (wsX4_init) := ggX7_init_X4_init
set_option maxRecDepth 20000 in
theorem ggX7_init_X5_init : GoodIn wsX7_init wsX5_init := goodIn_r _ [37, 38, 2, 3, 16, 39, 40, 41, 42, 78, 79, 80, 81, 82] (by decide +kernel) (by decide +kernel)
set_option maxRecDepth 20000 in
theorem gX7_init_X5_init_n18 : GoodIn wsX7_init (wsX5_init) := ggX7_init_X5_init
set_option maxRecDepth 20000 in
theorem ggX7_init_X6_init : GoodIn wsX7_init wsX6_init := goodIn_r _ [44, 45, 2, 3, 16, 46, 47, 83, 84, 85] (by decide +kernel) (by decide +kernel)
set_option maxRecDepth 20000 in
theorem gX7_init_X6_init_n25 : GoodIn wsX7_init (wsX6_init) := ggX7_init_X6_init
set_option maxRecDepth 20000 in
theorem ggX7_init_X3_init : GoodIn wsX7_init wsX3_init := goodIn_r _ [49, 50, 2, 3, 16, 51, 52, 53, 54, 86, 87, 88, 89, 90] (by decide +kernel) (by decide +kernel)
set_option maxRecDepth 20000 in
theorem gX7_init_X3_init_n36 : GoodIn wsX7_init (wsX3_init) := ggX7_init_X3_init
set_option maxRecDepth 20000 in
theorem ggX7_init_X2_init : GoodIn wsX7_init wsX2_init := goodIn_r _ [56, 57, 2, 3, 16, 58, 59, 60, 91, 92, 93] (by decide +kernel) (by decide +kernel)
set_option maxRecDepth 20000 in
theorem gX7_init_X2_init_n43 : GoodIn wsX7_init (wsX2_init) := ggX7_init_X2_init
set_option maxRecDepth 20000 in
theorem ggX7_init_X7_isWithin : GoodIn wsX7_init wsX7_isWithin := goodIn_r _ [64] (by decide +kernel) (by decide +kernel)
set_option maxRecDepth 20000 in
theorem gX7_init_X7_isWithin : GoodIn wsX7_init (va_wsS RX7 56 yX7_isWithin wsX7_isWithin) := goodIn_app (goodIn_of _ (by decide +kernel)) ggX7_init_X7_isWithin
theorem dX7_init_0 : decode cX7_init 0 = .ok (.aload_n 0, 1) := by decide +kernel
theorem dX7_init_1 : decode cX7_init 1 = .ok (.invokespecial 1, 3) := by decide +kernel
theorem dX7_init_4 : decode cX7_init 4 = .ok (.aload_n 0, 1) := by decide +kernel
theorem dX7_init_5 : decode cX7_init 5 = .ok (.new 7, 3) := by decide +kernel
theorem dX7_init_8 : decode cX7_init 8 = .ok (.dup, 1) := by decide +kernel
theorem dX7_init_9 : decode cX7_init 9 = .ok (.invokespecial 9, 3) := by decide +kernel
theorem dX7_init_12 : decode cX7_init 12 = .ok (.putfield 10, 3) := by decide +kernel
theorem dX7_init_15 : decode cX7_init 15 = .ok (.aload_n 0, 1) := by decide +kernel
theorem dX7_init_16 : decode cX7_init 16 = .ok (.new 16, 3) := by decide +kernel
theorem dX7_init_19 : decode cX7_init 19 = .ok (.dup, 1) := by decide +kernel
theorem dX7_init_20 : decode cX7_init 20 = .ok (.invokespecial 18, 3) := by decide +kernel
theorem dX7_init_23 : decode cX7_init 23 = .ok (.putfield 19, 3) := by decide +kernel
theorem dX7_init_26 : decode cX7_init 26 = .ok (.aload_n 0, 1) := by decide +kernel
theorem dX7_init_27 : decode cX7_init 27 = .ok (.new 23, 3) := by decide +kernel
theorem dX7_init_30 : decode cX7_init 30 = .ok (.dup, 1) := by decide +kernel
theorem dX7_init_31 : decode cX7_init 31 = .ok (.invokespecial 25, 3) := by decide +kernel
theorem dX7_init_34 : decode cX7_init 34 = .ok (.putfield 26, 3) := by decide +kernel
theorem dX7_init_37 : decode cX7_init 37 = .ok (.aload_n 0, 1) := by decide +kernel
theorem dX7_init_38 : decode cX7_init 38 = .ok (.bipush 40, 2) := by decide +kernel
theorem dX7_init_40 : decode cX7_init 40 = .ok (.newarray .int, 2) := by decide +kernel
theorem dX7_init_42 : decode cX7_init 42 = .ok (.putfield 30, 3) := by decide +kernel
theorem dX7_init_45 : decode cX7_init 45 = .ok (.aload_n 0, 1) := by decide +kernel
theorem dX7_init_46 : decode cX7_init 46 = .ok (.new 34, 3) := by decide +kernel
theorem dX7_init_49 : decode cX7_init 49 = .ok (.dup, 1) := by decide +kernel
theorem dX7_init_50 : decode cX7_init 50 = .ok (.invokespecial 36, 3) := by decide +kernel
theorem dX7_init_53 : decode cX7_init 53 = .ok (.putfield 37, 3) := by decide +kernel
theorem dX7_init_56 : decode cX7_init 56 = .ok (.aload_n 0, 1) := by decide +kernel
theorem dX7_init_57 : decode cX7_init 57 = .ok (.new 41, 3) := by decide +kernel
theorem dX7_init_60 : decode cX7_init 60 = .ok (.dup, 1) := by decide +kernel
theorem dX7_init_61 : decode cX7_init 61 = .ok (.invokespecial 43, 3) := by decide +kernel
theorem dX7_init_64 : decode cX7_init 64 = .ok (.putfield 44, 3) := by decide +kernel
theorem dX7_init_67 : decode cX7_init 67 = .ok (.aload_n 0, 1) := by decide +kernel
theorem dX7_init_68 : decode cX7_init 68 = .ok (.bipush 20, 2) := by decide +kernel
theorem dX7_init_70 : decode cX7_init 70 = .ok (.anewarray 48, 3) := by decide +kernel
theorem dX7_init_73 : decode cX7_init 73 = .ok (.putfield 50, 3) := by decide +kernel
theorem dX7_init_76 : decode cX7_init 76 = .ok (.aload_n 0, 1) := by decide +kernel
theorem dX7_init_77 : decode cX7_init 77 = .ok (.lload_n 1, 1) := by decide +kernel
theorem dX7_init_78 : decode cX7_init 78 = .ok (.lconst 1, 1) := by decide +kernel
theorem dX7_init_79 : decode cX7_init 79 = .ok (.ldc2_w 54, 3) := by decide +kernel
theorem dX7_init_82 : decode cX7_init 82 = .ok (.invokestatic 56, 3) := by decide +kernel
theorem dX7_init_85 : decode cX7_init 85 = .ok (.ifCond .eq 8, 3) := by decide +kernel
theorem dX7_init_88 : decode cX7_init 88 = .ok (.lload_n 1, 1) := by decide +kernel
theorem dX7_init_89 : decode cX7_init 89 = .ok (.l2i, 1) := by decide +kernel
theorem dX7_init_90 : decode cX7_init 90 = .ok (.goto 6, 3) := by decide +kernel
theorem dX7_init_93 : decode cX7_init 93 = .ok (.sipush 4096, 3) := by decide +kernel
theorem dX7_init_96 : decode cX7_init 96 = .ok (.putfield 60, 3) := by decide +kernel
theorem dX7_init_99 : decode cX7_init 99 = .ok (.return_, 1) := by decide +kernel
set_option maxRecDepth 20000 in
theorem ggX7_region_X7_isWithin : GoodIn wsX7_region wsX7_isWithin := goodIn_r _ [7] (by decide +kernel) (by decide +kernel)
set_option maxRecDepth 20000 in
theorem gX7_region_X7_isWithin : GoodIn wsX7_region (va_wsS RX7 56 yX7_isWithin wsX7_isWithin) := goodIn_app (goodIn_of _ (by decide +kernel)) ggX7_region_X7_isWithin
set_option maxRecDepth 20000 in
theorem ggX7_region_X4_overlap : GoodIn wsX7_region wsX4_overlap := goodIn_r _ [11, 12, 13, 14, 28, 29, 30, 31] (by decide +kernel) (by decide +kernel)
set_option maxRecDepth 20000 in
theorem gX7_region_X4_overlap_n66 : GoodIn wsX7_region (wsX4_overlap) := ggX7_region_X4_overlap
set_option maxRecDepth 20000 in
theorem ggX7_region_X4_add : GoodIn wsX7_region wsX4_add := goodIn_r _ [17, 12, 14, 13, 18, 28, 29, 30, 31] (by decide +kernel) (by decide +kernel)
set_option maxRecDepth 20000 in
theorem gX7_region_X4_add_n70 : GoodIn wsX7_region (wsX4_add) := ggX7_region_X4_add
theorem dX7_region_0 : decode cX7_region 0 = .ok (.lload_n 3, 1) := by decide +kernel
theorem dX7_region_1 : decode cX7_region 1 = .ok (.lconst 1, 1) := by decide +kernel
theorem dX7_region_2 : decode cX7_region 2 = .ok (.lcmp, 1) := by decide +kernel
theorem dX7_region_3 : decode cX7_region 3 = .ok (.ifCond .lt 25, 3) := by decide +kernel
theorem dX7_region_6 : decode cX7_region 6 = .ok (.lload_n 1, 1) := by decide +kernel
theorem dX7_region_7 : decode cX7_region 7 = .ok (.lconst 0, 1) := by decide +kernel
theorem dX7_region_8 : decode cX7_region 8 = .ok (.lcmp, 1) := by decide +kernel
theorem dX7_region_9 : decode cX7_region 9 = .ok (.ifCond .lt 19, 3) := by decide +kernel
theorem dX7_region_12 : decode cX7_region 12 = .ok (.lload_n 1, 1) := by decide +kernel
theorem dX7_region_13 : decode cX7_region 13 = .ok (.aload_n 0, 1) := by decide +kernel
theorem dX7_region_14 : decode cX7_region 14 = .ok (.getfield 60, 3) := by decide +kernel
theorem dX7_region_17 : decode cX7_region 17 = .ok (.i2l, 1) := by decide +kernel
theorem dX7_region_18 : decode cX7_region 18 = .ok (.lload_n 3, 1) := by decide +kernel
theorem dX7_region_19 : decode cX7_region 19 = .ok (.lsub, 1) := by decide +kernel
theorem dX7_region_20 : decode cX7_region 20 = .ok (.lcmp, 1) := by decide +kernel
theorem dX7_region_21 : decode cX7_region 21 = .ok (.ifCond .gt 7, 3) := by decide +kernel
theorem dX7_region_24 : decode cX7_region 24 = .ok (.iconst 1, 1) := by decide +kernel
theorem dX7_region_25 : decode cX7_region 25 = .ok (.goto 4, 3) := by decide +kernel
theorem dX7_region_28 : decode cX7_region 28 = .ok (.iconst 0, 1) := by decide +kernel
theorem dX7_region_29 : decode cX7_region 29 = .ok (.istore 6, 2) := by decide +kernel
theorem dX7_region_31 : decode cX7_region 31 = .ok (.iload 6, 2) := by decide +kernel
theorem dX7_region_33 : decode cX7_region 33 = .ok (.ifCond .eq 16, 3) := by decide +kernel
theorem dX7_region_36 : decode cX7_region 36 = .ok (.iload 5, 2) := by decide +kernel
theorem dX7_region_38 : decode cX7_region 38 = .ok (.i2l, 1) := by decide +kernel
theorem dX7_region_39 : decode cX7_region 39 = .ok (.lconst 0, 1) := by decide +kernel
theorem dX7_region_40 : decode cX7_region 40 = .ok (.ldc2_w 64, 3) := by decide +kernel
theorem dX7_region_43 : decode cX7_region 43 = .ok (.invokestatic 56, 3) := by decide +kernel
theorem dX7_region_46 : decode cX7_region 46 = .ok (.ifCond .ne 6, 3) := by decide +kernel
theorem dX7_region_49 : decode cX7_region 49 = .ok (.bipush (-2), 2) := by decide +kernel
theorem dX7_region_51 : decode cX7_region 51 = .ok (.ireturn, 1) := by decide +kernel
theorem dX7_region_52 : decode cX7_region 52 = .ok (.lload_n 1, 1) := by decide +kernel
theorem dX7_region_53 : decode cX7_region 53 = .ok (.l2i, 1) := by decide +kernel
theorem dX7_region_54 : decode cX7_region 54 = .ok (.istore 7, 2) := by decide +kernel
theorem dX7_region_56 : decode cX7_region 56 = .ok (.iload 7, 2) := by decide +kernel
theorem dX7_region_58 : decode cX7_region 58 = .ok (.lload_n 3, 1) := by decide +kernel
theorem dX7_region_59 : decode cX7_region 59 = .ok (.l2i, 1) := by decide +kernel
theorem dX7_region_60 : decode cX7_region 60 = .ok (.iadd, 1) := by decide +kernel
theorem dX7_region_61 : decode cX7_region 61 = .ok (.istore 8, 2) := by decide +kernel
theorem dX7_region_63 : decode cX7_region 63 = .ok (.aload_n 0, 1) := by decide +kernel
theorem dX7_region_64 : decode cX7_region 64 = .ok (.getfield 10, 3) := by decide +kernel
theorem dX7_region_67 : decode cX7_region 67 = .ok (.iload 7, 2) := by decide +kernel
theorem dX7_region_69 : decode cX7_region 69 = .ok (.iload 8, 2) := by decide +kernel
theorem dX7_region_71 : decode cX7_region 71 = .ok (.invokevirtual 66, 3) := by decide +kernel
theorem dX7_region_74 : decode cX7_region 74 = .ok (.ifCond .eq 6, 3) := by decide +kernel
theorem dX7_region_77 : decode cX7_region 77 = .ok (.bipush (-3), 2) := by decide +kernel
theorem dX7_region_79 : decode cX7_region 79 = .ok (.ireturn, 1) := by decide +kernel
theorem dX7_region_80 : decode cX7_region 80 = .ok (.aload_n 0, 1) := by decide +kernel
theorem dX7_region_81 : decode cX7_region 81 = .ok (.getfield 10, 3) := by decide +kernel
theorem dX7_region_84 : decode cX7_region 84 = .ok (.iload 7, 2) := by decide +kernel
theorem dX7_region_86 : decode cX7_region 86 = .ok (.iload 8, 2) := by decide +kernel
theorem dX7_region_88 : decode cX7_region 88 = .ok (.iload 5, 2) := by decide +kernel
theorem dX7_region_90 : decode cX7_region 90 = .ok (.invokevirtual 70, 3) := by decide +kernel
theorem dX7_region_93 : decode cX7_region 93 = .ok (.ireturn, 1) := by decide +kernel
set_option maxRecDepth 20000 in
theorem ggX7_section_X7_isWithin : GoodIn wsX7_section wsX7_isWithin := goodIn_r _ [9] (by decide +kernel) (by decide +kernel)
set_option maxRecDepth 20000 in
theorem gX7_section_X7_isWithin : GoodIn wsX7_section (va_wsS RX7 56 yX7_isWithin wsX7_isWithin) := goodIn_app (goodIn_of _ (by decide +kernel)) ggX7_section_X7_isWithin
set_option maxRecDepth 20000 in
theorem ggX7_section_X5_add : GoodIn wsX7_section wsX5_add := goodIn_r _ [13, 14, 15, 16, 17, 18, 19, 20, 11, 21, 22, 32, 33, 34, 35, 36] (by decide +kernel) (by decide +kernel)
set_option maxRecDepth 20000 in
theorem gX7_section_X5_add_n84 : GoodIn wsX7_section (wsX5_add) := ggX7_section_X5_add
theorem dX7_section_0 : decode cX7_section 0 = .ok (.lload_n 1, 1) := by decide +kernel
theorem dX7_section_1 : decode cX7_section 1 = .ok (.lconst 0, 1) := by decide +kernel
theorem dX7_section_2 : decode cX7_section 2 = .ok (.ldc2_w 54, 3) := by decide +kernel
theorem dX7_section_5 : decode cX7_section 5 = .ok (.invokestatic 56, 3) := by decide +kernel
theorem dX7_section_8 : decode cX7_section 8 = .ok (.ifCond .eq 27, 3) := by decide +kernel
theorem dX7_section_11 : decode cX7_section 11 = .ok (.lload_n 3, 1) := by decide +kernel
theorem dX7_section_12 : decode cX7_section 12 = .ok (.lconst 0, 1) := by decide +kernel
theorem dX7_section_13 : decode cX7_section 13 = .ok (.ldc2_w 54, 3) := by decide +kernel
theorem dX7_section_16 : decode cX7_section 16 = .ok (.invokestatic 56, 3) := by decide +kernel
theorem dX7_section_19 : decode cX7_section 19 = .ok (.ifCond .eq 16, 3) := by decide +kernel
theorem dX7_section_22 : decode cX7_section 22 = .ok (.iload 5, 2) := by decide +kernel
theorem dX7_section_24 : decode cX7_section 24 = .ok (.i2l, 1) := by decide +kernel
theorem dX7_section_25 : decode cX7_section 25 = .ok (.lconst 0, 1) := by decide +kernel
theorem dX7_section_26 : decode cX7_section 26 = .ok (.ldc2_w 64, 3) := by decide +kernel
theorem dX7_section_29 : decode cX7_section 29 = .ok (.invokestatic 56, 3) := by decide +kernel
theorem dX7_section_32 : decode cX7_section 32 = .ok (.ifCond .ne 6, 3) := by decide +kernel
theorem dX7_section_35 : decode cX7_section 35 = .ok (.bipush (-2), 2) := by decide +kernel
theorem dX7_section_37 : decode cX7_section 37 = .ok (.ireturn, 1) := by decide +kernel
theorem dX7_section_38 : decode cX7_section 38 = .ok (.aload_n 0, 1) := by decide +kernel
theorem dX7_section_39 : decode cX7_section 39 = .ok (.getfield 19, 3) := by decide +kernel
theorem dX7_section_42 : decode cX7_section 42 = .ok (.getfield 74, 3) := by decide +kernel
theorem dX7_section_45 : decode cX7_section 45 = .ok (.bipush 40, 2) := by decide +kernel
theorem dX7_section_47 : decode cX7_section 47 = .ok (.if_icmp .lt 6, 3) := by decide +kernel
theorem dX7_section_50 : decode cX7_section 50 = .ok (.bipush (-4), 2) := by decide +kernel
theorem dX7_section_52 : decode cX7_section 52 = .ok (.ireturn, 1) := by decide +kernel
theorem dX7_section_53 : decode cX7_section 53 = .ok (.lload_n 3, 1) := by decide +kernel
theorem dX7_section_54 : decode cX7_section 54 = .ok (.lconst 0, 1) := by decide +kernel
theorem dX7_section_55 : decode cX7_section 55 = .ok (.lcmp, 1) := by decide +kernel
theorem dX7_section_56 : decode cX7_section 56 = .ok (.ifCond .ne 13, 3) := by decide +kernel
theorem dX7_section_59 : decode cX7_section 59 = .ok (.new 77, 3) := by decide +kernel
theorem dX7_section_62 : decode cX7_section 62 = .ok (.dup, 1) := by decide +kernel
theorem dX7_section_63 : decode cX7_section 63 = .ok (.ldc 79, 2) := by decide +kernel
theorem dX7_section_65 : decode cX7_section 65 = .ok (.invokespecial 81, 3) := by decide +kernel
theorem dX7_section_68 : decode cX7_section 68 = .ok (.athrow, 1) := by decide +kernel
theorem dX7_section_69 : decode cX7_section 69 = .ok (.aload_n 0, 1) := by decide +kernel
theorem dX7_section_70 : decode cX7_section 70 = .ok (.getfield 19, 3) := by decide +kernel
theorem dX7_section_73 : decode cX7_section 73 = .ok (.lload_n 1, 1) := by decide +kernel
theorem dX7_section_74 : decode cX7_section 74 = .ok (.l2i, 1) := by decide +kernel
theorem dX7_section_75 : decode cX7_section 75 = .ok (.lload_n 3, 1) := by decide +kernel
theorem dX7_section_76 : decode cX7_section 76 = .ok (.l2i, 1) := by decide +kernel
theorem dX7_section_77 : decode cX7_section 77 = .ok (.iload 5, 2) := by decide +kernel
theorem dX7_section_79 : decode cX7_section 79 = .ok (.invokevirtual 84, 3) := by decide +kernel
theorem dX7_section_82 : decode cX7_section 82 = .ok (.ireturn, 1) := by decide +kernel
set_option maxRecDepth 20000 in
theorem ggX7_place_X6_clear : GoodIn wsX7_place wsX6_clear := goodIn_r _ [8, 9, 59, 60, 61] (by decide +kernel) (by decide +kernel)
set_option maxRecDepth 20000 in
theorem gX7_place_X6_clear_n85 : GoodIn wsX7_place (wsX6_clear) := ggX7_place_X6_clear
set_option maxRecDepth 20000 in
theorem ggX7_place_X7_takeSpaceFor : GoodIn wsX7_place wsX7_takeSpaceFor := goodIn_r _ [14, 2, 15, 1, 16, 17, 18, 19, 20, 21, 6, 22, 23, 9, 24, 25, 26, 27, 28, 29, 30, 31, 45, 46, 47, 48, 49, 50, 51, 52, 53, 54, 55, 56, 57, 58, 62, 63, 64, 65, 59, 60, 61] (by decide +kernel) (by decide +kernel)
set_option maxRecDepth 20000 in
theorem gX7_place_X7_takeSpaceFor : GoodIn wsX7_place (wsV RX7 91 RX7 yX7_takeSpaceFor wsX7_takeSpaceFor) := goodIn_app (goodIn_of _ (by decide +kernel)) ggX7_place_X7_takeSpaceFor
set_option maxRecDepth 20000 in
theorem ggX7_place_X3_add : GoodIn wsX7_place wsX3_add := goodIn_r _ [35, 36, 37, 38, 39, 40, 41, 42, 43, 44, 66, 67, 68, 69, 70] (by decide +kernel) (by decide +kernel)
set_option maxRecDepth 20000 in
theorem gX7_place_X3_add_n95 : GoodIn wsX7_place (wsX3_add) := ggX7_place_X3_add
theorem dX7_place_0 : decode cX7_place 0 = .ok (.aload_n 0, 1) := by decide +kernel
theorem dX7_place_1 : decode cX7_place 1 = .ok (.getfield 26, 3) := by decide +kernel
theorem dX7_place_4 : decode cX7_place 4 = .ok (.invokevirtual 85, 3) := by decide +kernel
theorem dX7_place_7 : decode cX7_place 7 = .ok (.iconst 0, 1) := by decide +kernel
theorem dX7_place_8 : decode cX7_place 8 = .ok (.istore_n 1, 1) := by decide +kernel
theorem dX7_place_9 : decode cX7_place 9 = .ok (.iload_n 1, 1) := by decide +kernel
theorem dX7_place_10 : decode cX7_place 10 = .ok (.aload_n 0, 1) := by decide +kernel
theorem dX7_place_11 : decode cX7_place 11 = .ok (.getfield 19, 3) := by decide +kernel
theorem dX7_place_14 : decode cX7_place 14 = .ok (.getfield 74, 3) := by decide +kernel
theorem dX7_place_17 : decode cX7_place 17 = .ok (.if_icmp .ge 42, 3) := by decide +kernel
theorem dX7_place_20 : decode cX7_place 20 = .ok (.aload_n 0, 1) := by decide +kernel
theorem dX7_place_21 : decode cX7_place 21 = .ok (.getfield 19, 3) := by decide +kernel
theorem dX7_place_24 : decode cX7_place 24 = .ok (.getfield 88, 3) := by decide +kernel
theorem dX7_place_27 : decode cX7_place 27 = .ok (.iload_n 1, 1) := by decide +kernel
theorem dX7_place_28 : decode cX7_place 28 = .ok (.iaload, 1) := by decide +kernel
theorem dX7_place_29 : decode cX7_place 29 = .ok (.istore_n 2, 1) := by decide +kernel
theorem dX7_place_30 : decode cX7_place 30 = .ok (.aload_n 0, 1) := by decide +kernel
theorem dX7_place_31 : decode cX7_place 31 = .ok (.iload_n 2, 1) := by decide +kernel
theorem dX7_place_32 : decode cX7_place 32 = .ok (.invokevirtual 91, 3) := by decide +kernel
theorem dX7_place_35 : decode cX7_place 35 = .ok (.istore_n 3, 1) := by decide +kernel
theorem dX7_place_36 : decode cX7_place 36 = .ok (.iload_n 3, 1) := by decide +kernel
theorem dX7_place_37 : decode cX7_place 37 = .ok (.iconst (-1), 1) := by decide +kernel
theorem dX7_place_38 : decode cX7_place 38 = .ok (.if_icmp .ne 8, 3) := by decide +kernel
theorem dX7_place_41 : decode cX7_place 41 = .ok (.iload_n 2, 1) := by decide +kernel
theorem dX7_place_42 : decode cX7_place 42 = .ok (.iconst 1, 1) := by decide +kernel
theorem dX7_place_43 : decode cX7_place 43 = .ok (.iadd, 1) := by decide +kernel
theorem dX7_place_44 : decode cX7_place 44 = .ok (.ineg, 1) := by decide +kernel
theorem dX7_place_45 : decode cX7_place 45 = .ok (.ireturn, 1) := by decide +kernel
theorem dX7_place_46 : decode cX7_place 46 = .ok (.aload_n 0, 1) := by decide +kernel
theorem dX7_place_47 : decode cX7_place 47 = .ok (.getfield 30, 3) := by decide +kernel
theorem dX7_place_50 : decode cX7_place 50 = .ok (.iload_n 2, 1) := by decide +kernel
theorem dX7_place_51 : decode cX7_place 51 = .ok (.iload_n 3, 1) := by decide +kernel
theorem dX7_place_52 : decode cX7_place 52 = .ok (.iastore, 1) := by decide +kernel
theorem dX7_place_53 : decode cX7_place 53 = .ok (.iinc 1 1, 3) := by decide +kernel
theorem dX7_place_56 : decode cX7_place 56 = .ok (.goto (-47), 3) := by decide +kernel
theorem dX7_place_59 : decode cX7_place 59 = .ok (.aload_n 0, 1) := by decide +kernel
theorem dX7_place_60 : decode cX7_place 60 = .ok (.getfield 37, 3) := by decide +kernel
theorem dX7_place_63 : decode cX7_place 63 = .ok (.aload_n 0, 1) := by decide +kernel
theorem dX7_place_64 : decode cX7_place 64 = .ok (.getfield 30, 3) := by decide +kernel
theorem dX7_place_67 : decode cX7_place 67 = .ok (.aload_n 0, 1) := by decide +kernel
theorem dX7_place_68 : decode cX7_place 68 = .ok (.getfield 19, 3) := by decide +kernel
theorem dX7_place_71 : decode cX7_place 71 = .ok (.getfield 74, 3) := by decide +kernel
theorem dX7_place_74 : decode cX7_place 74 = .ok (.invokevirtual 95, 3) := by decide +kernel
theorem dX7_place_77 : decode cX7_place 77 = .ok (.iconst 1, 1) := by decide +kernel
theorem dX7_place_78 : decode cX7_place 78 = .ok (.ireturn, 1) := by decide +kernel
set_option maxRecDepth 20000 in
theorem ggX7_at_X7_isWithin : GoodIn wsX7_at wsX7_isWithin := goodIn_r _ [8] (by decide +kernel) (by decide +kernel)
set_option maxRecDepth 20000 in
theorem gX7_at_X7_isWithin : GoodIn wsX7_at (va_wsS RX7 56 yX7_isWithin wsX7_isWithin) := goodIn_app (goodIn_of _ (by decide +kernel)) ggX7_at_X7_isWithin
theorem dX7_at_0 : decode cX7_at 0 = .ok (.iload_n 1, 1) := by decide +kernel
theorem dX7_at_1 : decode cX7_at 1 = .ok (.i2l, 1) := by decide +kernel
theorem dX7_at_2 : decode cX7_at 2 = .ok (.lconst 1, 1) := by decide +kernel
theorem dX7_at_3 : decode cX7_at 3 = .ok (.aload_n 0, 1) := by decide +kernel
theorem dX7_at_4 : decode cX7_at 4 = .ok (.getfield 19, 3) := by decide +kernel
theorem dX7_at_7 : decode cX7_at 7 = .ok (.getfield 74, 3) := by decide +kernel
theorem dX7_at_10 : decode cX7_at 10 = .ok (.i2l, 1) := by decide +kernel
theorem dX7_at_11 : decode cX7_at 11 = .ok (.invokestatic 56, 3) := by decide +kernel
theorem dX7_at_14 : decode cX7_at 14 = .ok (.ifCond .ne 7, 3) := by decide +kernel
theorem dX7_at_17 : decode cX7_at 17 = .ok (.ldc2_w 98, 3) := by decide +kernel
theorem dX7_at_20 : decode cX7_at 20 = .ok (.lreturn, 1) := by decide +kernel
theorem dX7_at_21 : decode cX7_at 21 = .ok (.iload_n 1, 1) := by decide +kernel
theorem dX7_at_22 : decode cX7_at 22 = .ok (.aload_n 0, 1) := by decide +kernel
theorem dX7_at_23 : decode cX7_at 23 = .ok (.getfield 37, 3) := by decide +kernel
theorem dX7_at_26 : decode cX7_at 26 = .ok (.getfield 100, 3) := by decide +kernel
theorem dX7_at_29 : decode cX7_at 29 = .ok (.if_icmp .le 7, 3) := by decide +kernel
theorem dX7_at_32 : decode cX7_at 32 = .ok (.ldc2_w 103, 3) := by decide +kernel
theorem dX7_at_35 : decode cX7_at 35 = .ok (.lreturn, 1) := by decide +kernel
theorem dX7_at_36 : decode cX7_at 36 = .ok (.aload_n 0, 1) := by decide +kernel
theorem dX7_at_37 : decode cX7_at 37 = .ok (.getfield 37, 3) := by decide +kernel
theorem dX7_at_40 : decode cX7_at 40 = .ok (.getfield 105, 3) := by decide +kernel
theorem dX7_at_43 : decode cX7_at 43 = .ok (.iload_n 1, 1) := by decide +kernel
theorem dX7_at_44 : decode cX7_at 44 = .ok (.iconst 1, 1) := by decide +kernel
theorem dX7_at_45 : decode cX7_at 45 = .ok (.isub, 1) := by decide +kernel
theorem dX7_at_46 : decode cX7_at 46 = .ok (.iaload, 1) := by decide +kernel
theorem dX7_at_47 : decode cX7_at 47 = .ok (.i2l, 1) := by decide +kernel
theorem dX7_at_48 : decode cX7_at 48 = .ok (.lreturn, 1) := by decide +kernel
set_option maxRecDepth 20000 in
theorem ggX7_call_X7_isWithin : GoodIn wsX7_call wsX7_isWithin := goodIn_r _ [7] (by decide +kernel) (by decide +kernel)
set_option maxRecDepth 20000 in
theorem gX7_call_X7_isWithin : GoodIn wsX7_call (va_wsS RX7 56 yX7_isWithin wsX7_isWithin) := goodIn_app (goodIn_of _ (by decide +kernel)) ggX7_call_X7_isWithin
set_option maxRecDepth 20000 in
theorem ggX7_call_X2_addCall : GoodIn wsX7_call wsX2_addCall := goodIn_r _ [11, 12, 32, 33, 34] (by decide +kernel) (by decide +kernel)
set_option maxRecDepth 20000 in
theorem gX7_call_X2_addCall_n115 : GoodIn wsX7_call (wsX2_addCall) := ggX7_call_X2_addCall
set_option maxRecDepth 20000 in
theorem ggX7_call_X2_countCalls : GoodIn wsX7_call wsX2_countCalls := goodIn_r _ [15, 12, 16, 17, 18, 19, 20, 21, 22, 32, 33, 34] (by decide +kernel) (by decide +kernel)
set_option maxRecDepth 20000 in
theorem gX7_call_X2_countCalls_n119 : GoodIn wsX7_call (wsX2_countCalls) := ggX7_call_X2_countCalls
theorem dX7_call_0 : decode cX7_call 0 = .ok (.iload_n 1, 1) := by decide +kernel
theorem dX7_call_1 : decode cX7_call 1 = .ok (.i2l, 1) := by decide +kernel
theorem dX7_call_2 : decode cX7_call 2 = .ok (.lconst 1, 1) := by decide +kernel
theorem dX7_call_3 : decode cX7_call 3 = .ok (.ldc2_w 108, 3) := by decide +kernel
theorem dX7_call_6 : decode cX7_call 6 = .ok (.invokestatic 56, 3) := by decide +kernel
theorem dX7_call_9 : decode cX7_call 9 = .ok (.ifCond .eq 15, 3) := by decide +kernel
theorem dX7_call_12 : decode cX7_call 12 = .ok (.iload_n 2, 1) := by decide +kernel
theorem dX7_call_13 : decode cX7_call 13 = .ok (.i2l, 1) := by decide +kernel
theorem dX7_call_14 : decode cX7_call 14 = .ok (.lconst 0, 1) := by decide +kernel
theorem dX7_call_15 : decode cX7_call 15 = .ok (.ldc2_w 108, 3) := by decide +kernel
theorem dX7_call_18 : decode cX7_call 18 = .ok (.invokestatic 56, 3) := by decide +kernel
theorem dX7_call_21 : decode cX7_call 21 = .ok (.ifCond .ne 5, 3) := by decide +kernel
theorem dX7_call_24 : decode cX7_call 24 = .ok (.iconst (-1), 1) := by decide +kernel
theorem dX7_call_25 : decode cX7_call 25 = .ok (.ireturn, 1) := by decide +kernel
theorem dX7_call_26 : decode cX7_call 26 = .ok (.lload_n 3, 1) := by decide +kernel
theorem dX7_call_27 : decode cX7_call 27 = .ok (.lconst 0, 1) := by decide +kernel
theorem dX7_call_28 : decode cX7_call 28 = .ok (.ldc2_w 110, 3) := by decide +kernel
theorem dX7_call_31 : decode cX7_call 31 = .ok (.invokestatic 56, 3) := by decide +kernel
theorem dX7_call_34 : decode cX7_call 34 = .ok (.ifCond .ne 6, 3) := by decide +kernel
theorem dX7_call_37 : decode cX7_call 37 = .ok (.bipush (-2), 2) := by decide +kernel
theorem dX7_call_39 : decode cX7_call 39 = .ok (.ireturn, 1) := by decide +kernel
theorem dX7_call_40 : decode cX7_call 40 = .ok (.aload_n 0, 1) := by decide +kernel
theorem dX7_call_41 : decode cX7_call 41 = .ok (.getfield 44, 3) := by decide +kernel
theorem dX7_call_44 : decode cX7_call 44 = .ok (.getfield 112, 3) := by decide +kernel
theorem dX7_call_47 : decode cX7_call 47 = .ok (.iload_n 1, 1) := by decide +kernel
theorem dX7_call_48 : decode cX7_call 48 = .ok (.lload_n 3, 1) := by decide +kernel
theorem dX7_call_49 : decode cX7_call 49 = .ok (.l2i, 1) := by decide +kernel
theorem dX7_call_50 : decode cX7_call 50 = .ok (.iastore, 1) := by decide +kernel
theorem dX7_call_51 : decode cX7_call 51 = .ok (.iload_n 2, 1) := by decide +kernel
theorem dX7_call_52 : decode cX7_call 52 = .ok (.ifCond .eq 12, 3) := by decide +kernel
theorem dX7_call_55 : decode cX7_call 55 = .ok (.aload_n 0, 1) := by decide +kernel
theorem dX7_call_56 : decode cX7_call 56 = .ok (.getfield 44, 3) := by decide +kernel
theorem dX7_call_59 : decode cX7_call 59 = .ok (.iload_n 1, 1) := by decide +kernel
theorem dX7_call_60 : decode cX7_call 60 = .ok (.iload_n 2, 1) := by decide +kernel
theorem dX7_call_61 : decode cX7_call 61 = .ok (.invokevirtual 115, 3) := by decide +kernel
theorem dX7_call_64 : decode cX7_call 64 = .ok (.aload_n 0, 1) := by decide +kernel
theorem dX7_call_65 : decode cX7_call 65 = .ok (.getfield 44, 3) := by decide +kernel
theorem dX7_call_68 : decode cX7_call 68 = .ok (.iload_n 1, 1) := by decide +kernel
theorem dX7_call_69 : decode cX7_call 69 = .ok (.invokevirtual 119, 3) := by decide +kernel
theorem dX7_call_72 : decode cX7_call 72 = .ok (.ireturn, 1) := by decide +kernel
set_option maxRecDepth 20000 in
theorem ggX7_depth_X7_isWithin : GoodIn wsX7_depth wsX7_isWithin := goodIn_r _ [7] (by decide +kernel) (by decide +kernel)
set_option maxRecDepth 20000 in
theorem gX7_depth_X7_isWithin : GoodIn wsX7_depth (va_wsS RX7 56 yX7_isWithin wsX7_isWithin) := goodIn_app (goodIn_of _ (by decide +kernel)) ggX7_depth_X7_isWithin
set_option maxRecDepth 20000 in
theorem ggX7_depth_X2_depthFrom : GoodIn wsX7_depth wsX2_depthFrom := goodIn_r _ [11, 12, 13, 14, 9, 15, 16, 17, 18, 19, 20, 21, 22, 23, 24, 25, 26, 27, 28, 29, 39, 40, 41] (by decide +kernel) (by decide +kernel)
set_option maxRecDepth 20000 in
theorem gX7_depth_X2_depthFrom_n124 : GoodIn wsX7_depth (wsX2_depthFrom) := ggX7_depth_X2_depthFrom
theorem dX7_depth_0 : decode cX7_depth 0 = .ok (.iload_n 1, 1) := by decide +kernel
theorem dX7_depth_1 : decode cX7_depth 1 = .ok (.i2l, 1) := by decide +kernel
theorem dX7_depth_2 : decode cX7_depth 2 = .ok (.lconst 1, 1) := by decide +kernel
theorem dX7_depth_3 : decode cX7_depth 3 = .ok (.ldc2_w 108, 3) := by decide +kernel
theorem dX7_depth_6 : decode cX7_depth 6 = .ok (.invokestatic 56, 3) := by decide +kernel
theorem dX7_depth_9 : decode cX7_depth 9 = .ok (.ifCond .ne 7, 3) := by decide +kernel
theorem dX7_depth_12 : decode cX7_depth 12 = .ok (.ldc2_w 122, 3) := by decide +kernel
theorem dX7_depth_15 : decode cX7_depth 15 = .ok (.lreturn, 1) := by decide +kernel
theorem dX7_depth_16 : decode cX7_depth 16 = .ok (.aload_n 0, 1) := by decide +kernel
theorem dX7_depth_17 : decode cX7_depth 17 = .ok (.getfield 44, 3) := by decide +kernel
theorem dX7_depth_20 : decode cX7_depth 20 = .ok (.iload_n 1, 1) := by decide +kernel
theorem dX7_depth_21 : decode cX7_depth 21 = .ok (.invokevirtual 124, 3) := by decide +kernel
theorem dX7_depth_24 : decode cX7_depth 24 = .ok (.i2l, 1) := by decide +kernel
theorem dX7_depth_25 : decode cX7_depth 25 = .ok (.lreturn, 1) := by decide +kernel
set_option maxRecDepth 20000 in
theorem ggX7_block_X7_isWithin : GoodIn wsX7_block wsX7_isWithin := goodIn_r _ [10] (by decide +kernel) (by decide +kernel)
set_option maxRecDepth 20000 in
theorem gX7_block_X7_isWithin : GoodIn wsX7_block (va_wsS RX7 56 yX7_isWithin wsX7_isWithin) := goodIn_app (goodIn_of _ (by decide +kernel)) ggX7_block_X7_isWithin
set_option maxRecDepth 20000 in
theorem ggX7_block_X0_init : GoodIn wsX7_block wsX0_init := goodIn_r _ [12, 13, 14, 15, 16, 17, 18, 19, 20, 21, 22, 23, 24, 25, 26, 27, 28, 29, 30, 31, 41, 42, 43, 44, 45] (by decide +kernel) (by decide +kernel)
set_option maxRecDepth 20000 in
theorem gX7_block_X0_init_n132 : GoodIn wsX7_block (wsX0_init) := ggX7_block_X0_init
theorem dX7_block_0 : decode cX7_block 0 = .ok (.lload_n 1, 1) := by decide +kernel
theorem dX7_block_1 : decode cX7_block 1 = .ok (.lconst 1, 1) := by decide +kernel
theorem dX7_block_2 : decode cX7_block 2 = .ok (.ldc2_w 127, 3) := by decide +kernel
theorem dX7_block_5 : decode cX7_block 5 = .ok (.invokestatic 56, 3) := by decide +kernel
theorem dX7_block_8 : decode cX7_block 8 = .ok (.ifCond .ne 6, 3) := by decide +kernel
theorem dX7_block_11 : decode cX7_block 11 = .ok (.bipush (-2), 2) := by decide +kernel
theorem dX7_block_13 : decode cX7_block 13 = .ok (.ireturn, 1) := by decide +kernel
theorem dX7_block_14 : decode cX7_block 14 = .ok (.aload_n 0, 1) := by decide +kernel
theorem dX7_block_15 : decode cX7_block 15 = .ok (.getfield 129, 3) := by decide +kernel
theorem dX7_block_18 : decode cX7_block 18 = .ok (.bipush 20, 2) := by decide +kernel
theorem dX7_block_20 : decode cX7_block 20 = .ok (.if_icmp .lt 6, 3) := by decide +kernel
theorem dX7_block_23 : decode cX7_block 23 = .ok (.bipush (-4), 2) := by decide +kernel
theorem dX7_block_25 : decode cX7_block 25 = .ok (.ireturn, 1) := by decide +kernel
theorem dX7_block_26 : decode cX7_block 26 = .ok (.aload_n 0, 1) := by decide +kernel
theorem dX7_block_27 : decode cX7_block 27 = .ok (.getfield 50, 3) := by decide +kernel
theorem dX7_block_30 : decode cX7_block 30 = .ok (.aload_n 0, 1) := by decide +kernel
theorem dX7_block_31 : decode cX7_block 31 = .ok (.getfield 129, 3) := by decide +kernel
theorem dX7_block_34 : decode cX7_block 34 = .ok (.new 48, 3) := by decide +kernel
theorem dX7_block_37 : decode cX7_block 37 = .ok (.dup, 1) := by decide +kernel
theorem dX7_block_38 : decode cX7_block 38 = .ok (.lload_n 1, 1) := by decide +kernel
theorem dX7_block_39 : decode cX7_block 39 = .ok (.l2i, 1) := by decide +kernel
theorem dX7_block_40 : decode cX7_block 40 = .ok (.invokespecial 132, 3) := by decide +kernel
theorem dX7_block_43 : decode cX7_block 43 = .ok (.aastore, 1) := by decide +kernel
theorem dX7_block_44 : decode cX7_block 44 = .ok (.aload_n 0, 1) := by decide +kernel
theorem dX7_block_45 : decode cX7_block 45 = .ok (.dup, 1) := by decide +kernel
theorem dX7_block_46 : decode cX7_block 46 = .ok (.getfield 129, 3) := by decide +kernel
theorem dX7_block_49 : decode cX7_block 49 = .ok (.iconst 1, 1) := by decide +kernel
theorem dX7_block_50 : decode cX7_block 50 = .ok (.iadd, 1) := by decide +kernel
theorem dX7_block_51 : decode cX7_block 51 = .ok (.putfield 129, 3) := by decide +kernel
theorem dX7_block_54 : decode cX7_block 54 = .ok (.aload_n 0, 1) := by decide +kernel
theorem dX7_block_55 : decode cX7_block 55 = .ok (.getfield 129, 3) := by decide +kernel
theorem dX7_block_58 : decode cX7_block 58 = .ok (.ireturn, 1) := by decide +kernel
set_option maxRecDepth 20000 in
theorem ggX7_write_X7_blockNumbered : GoodIn wsX7_write wsX7_blockNumbered := goodIn_r _ [5, 6, 7, 8, 9, 4, 10, 29, 30, 31, 32, 33, 34, 35, 36, 37] (by decide +kernel) (by decide +kernel)
set_option maxRecDepth 20000 in
theorem gX7_write_X7_blockNumbered : GoodIn wsX7_write (wsV RX7 135 RX7 yX7_blockNumbered wsX7_blockNumbered) := goodIn_app (goodIn_of _ (by decide +kernel)) ggX7_write_X7_blockNumbered
set_option maxRecDepth 20000 in
theorem ggX7_write_X0_hasOctet : GoodIn wsX7_write wsX0_hasOctet := goodIn_r _ [14, 15, 9, 4, 10, 26, 27, 28] (by decide +kernel) (by decide +kernel)
set_option maxRecDepth 20000 in
theorem gX7_write_X0_hasOctet_n139 : GoodIn wsX7_write (wsX0_hasOctet) := ggX7_write_X0_hasOctet
set_option maxRecDepth 20000 in
theorem ggX7_write_X1_setOctet : GoodIn wsX7_write wsX1_setOctet := goodIn_r _ [19, 20, 21, 22, 23, 17, 24, 25, 38, 39] (by decide +kernel) (by decide +kernel)
set_option maxRecDepth 20000 in
theorem gX7_write_X1_setOctet_n147 : GoodIn wsX7_write (wsX1_setOctet) := ggX7_write_X1_setOctet
theorem dX7_write_0 : decode cX7_write 0 = .ok (.aload_n 0, 1) := by decide +kernel
theorem dX7_write_1 : decode cX7_write 1 = .ok (.iload_n 1, 1) := by decide +kernel
theorem dX7_write_2 : decode cX7_write 2 = .ok (.invokevirtual 135, 3) := by decide +kernel
theorem dX7_write_5 : decode cX7_write 5 = .ok (.astore 4, 2) := by decide +kernel
theorem dX7_write_7 : decode cX7_write 7 = .ok (.aload 4, 2) := by decide +kernel
theorem dX7_write_9 : decode cX7_write 9 = .ok (.ifnonnull 5, 3) := by decide +kernel
theorem dX7_write_12 : decode cX7_write 12 = .ok (.iconst (-1), 1) := by decide +kernel
theorem dX7_write_13 : decode cX7_write 13 = .ok (.ireturn, 1) := by decide +kernel
theorem dX7_write_14 : decode cX7_write 14 = .ok (.aload 4, 2) := by decide +kernel
theorem dX7_write_16 : decode cX7_write 16 = .ok (.iload_n 2, 1) := by decide +kernel
theorem dX7_write_17 : decode cX7_write 17 = .ok (.invokevirtual 139, 3) := by decide +kernel
theorem dX7_write_20 : decode cX7_write 20 = .ok (.ifCond .ne 6, 3) := by decide +kernel
theorem dX7_write_23 : decode cX7_write 23 = .ok (.bipush (-2), 2) := by decide +kernel
theorem dX7_write_25 : decode cX7_write 25 = .ok (.ireturn, 1) := by decide +kernel
theorem dX7_write_26 : decode cX7_write 26 = .ok (.aload 4, 2) := by decide +kernel
theorem dX7_write_28 : decode cX7_write 28 = .ok (.getfield 143, 3) := by decide +kernel
theorem dX7_write_31 : decode cX7_write 31 = .ok (.iload_n 2, 1) := by decide +kernel
theorem dX7_write_32 : decode cX7_write 32 = .ok (.iload_n 3, 1) := by decide +kernel
theorem dX7_write_33 : decode cX7_write 33 = .ok (.invokevirtual 147, 3) := by decide +kernel
theorem dX7_write_36 : decode cX7_write 36 = .ok (.aload 4, 2) := by decide +kernel
theorem dX7_write_38 : decode cX7_write 38 = .ok (.getfield 153, 3) := by decide +kernel
theorem dX7_write_41 : decode cX7_write 41 = .ok (.iload_n 2, 1) := by decide +kernel
theorem dX7_write_42 : decode cX7_write 42 = .ok (.iload_n 3, 1) := by decide +kernel
theorem dX7_write_43 : decode cX7_write 43 = .ok (.invokevirtual 147, 3) := by decide +kernel
theorem dX7_write_46 : decode cX7_write 46 = .ok (.iconst 1, 1) := by decide +kernel
theorem dX7_write_47 : decode cX7_write 47 = .ok (.ireturn, 1) := by decide +kernel
set_option maxRecDepth 20000 in
theorem ggX7_poke_X7_blockNumbered : GoodIn wsX7_poke wsX7_blockNumbered := goodIn_r _ [6, 7, 8, 9, 10, 5, 11, 25, 26, 27, 28, 29, 30, 31, 32, 33] (by decide +kernel) (by decide +kernel)
set_option maxRecDepth 20000 in
theorem gX7_poke_X7_blockNumbered : GoodIn wsX7_poke (wsV RX7 135 RX7 yX7_blockNumbered wsX7_blockNumbered) := goodIn_app (goodIn_of _ (by decide +kernel)) ggX7_poke_X7_blockNumbered
set_option maxRecDepth 20000 in
theorem ggX7_poke_X7_isWithin : GoodIn wsX7_poke wsX7_isWithin := goodIn_r _ [11] (by decide +kernel) (by decide +kernel)
set_option maxRecDepth 20000 in
theorem gX7_poke_X7_isWithin : GoodIn wsX7_poke (va_wsS RX7 56 yX7_isWithin wsX7_isWithin) := goodIn_app (goodIn_of _ (by decide +kernel)) ggX7_poke_X7_isWithin
set_option maxRecDepth 20000 in
theorem ggX7_poke_X0_hasOctet : GoodIn wsX7_poke wsX0_hasOctet := goodIn_r _ [15, 16, 10, 5, 11, 22, 23, 24] (by decide +kernel) (by decide +kernel)
set_option maxRecDepth 20000 in
theorem gX7_poke_X0_hasOctet_n139 : GoodIn wsX7_poke (wsX0_hasOctet) := ggX7_poke_X0_hasOctet
set_option maxRecDepth 20000 in
theorem ggX7_poke_X1_flip : GoodIn wsX7_poke wsX1_flip := goodIn_r _ [20, 21, 34, 35] (by decide +kernel) (by decide +kernel)
set_option maxRecDepth 20000 in
theorem gX7_poke_X1_flip_n158 : GoodIn wsX7_poke (wsX1_flip) := ggX7_poke_X1_flip
theorem dX7_poke_0 : decode cX7_poke 0 = .ok (.aload_n 0, 1) := by decide +kernel
theorem dX7_poke_1 : decode cX7_poke 1 = .ok (.iload_n 1, 1) := by decide +kernel
theorem dX7_poke_2 : decode cX7_poke 2 = .ok (.invokevirtual 135, 3) := by decide +kernel
theorem dX7_poke_5 : decode cX7_poke 5 = .ok (.astore 5, 2) := by decide +kernel
theorem dX7_poke_7 : decode cX7_poke 7 = .ok (.aload 5, 2) := by decide +kernel
theorem dX7_poke_9 : decode cX7_poke 9 = .ok (.ifnull 15, 3) := by decide +kernel
theorem dX7_poke_12 : decode cX7_poke 12 = .ok (.iload_n 2, 1) := by decide +kernel
theorem dX7_poke_13 : decode cX7_poke 13 = .ok (.i2l, 1) := by decide +kernel
theorem dX7_poke_14 : decode cX7_poke 14 = .ok (.lconst 1, 1) := by decide +kernel
theorem dX7_poke_15 : decode cX7_poke 15 = .ok (.ldc2_w 156, 3) := by decide +kernel
theorem dX7_poke_18 : decode cX7_poke 18 = .ok (.invokestatic 56, 3) := by decide +kernel
theorem dX7_poke_21 : decode cX7_poke 21 = .ok (.ifCond .ne 5, 3) := by decide +kernel
theorem dX7_poke_24 : decode cX7_poke 24 = .ok (.iconst (-1), 1) := by decide +kernel
theorem dX7_poke_25 : decode cX7_poke 25 = .ok (.ireturn, 1) := by decide +kernel
theorem dX7_poke_26 : decode cX7_poke 26 = .ok (.aload 5, 2) := by decide +kernel
theorem dX7_poke_28 : decode cX7_poke 28 = .ok (.iload_n 3, 1) := by decide +kernel
theorem dX7_poke_29 : decode cX7_poke 29 = .ok (.invokevirtual 139, 3) := by decide +kernel
theorem dX7_poke_32 : decode cX7_poke 32 = .ok (.ifCond .ne 6, 3) := by decide +kernel
theorem dX7_poke_35 : decode cX7_poke 35 = .ok (.bipush (-2), 2) := by decide +kernel
theorem dX7_poke_37 : decode cX7_poke 37 = .ok (.ireturn, 1) := by decide +kernel
theorem dX7_poke_38 : decode cX7_poke 38 = .ok (.iload_n 2, 1) := by decide +kernel
theorem dX7_poke_39 : decode cX7_poke 39 = .ok (.iconst 1, 1) := by decide +kernel
theorem dX7_poke_40 : decode cX7_poke 40 = .ok (.if_icmp .ne 17, 3) := by decide +kernel
theorem dX7_poke_43 : decode cX7_poke 43 = .ok (.aload 5, 2) := by decide +kernel
theorem dX7_poke_45 : decode cX7_poke 45 = .ok (.getfield 143, 3) := by decide +kernel
theorem dX7_poke_48 : decode cX7_poke 48 = .ok (.iload_n 3, 1) := by decide +kernel
theorem dX7_poke_49 : decode cX7_poke 49 = .ok (.iload 4, 2) := by decide +kernel
theorem dX7_poke_51 : decode cX7_poke 51 = .ok (.invokevirtual 158, 3) := by decide +kernel
theorem dX7_poke_54 : decode cX7_poke 54 = .ok (.goto 14, 3) := by decide +kernel
theorem dX7_poke_57 : decode cX7_poke 57 = .ok (.aload 5, 2) := by decide +kernel
theorem dX7_poke_59 : decode cX7_poke 59 = .ok (.getfield 153, 3) := by decide +kernel
theorem dX7_poke_62 : decode cX7_poke 62 = .ok (.iload_n 3, 1) := by decide +kernel
theorem dX7_poke_63 : decode cX7_poke 63 = .ok (.iload 4, 2) := by decide +kernel
theorem dX7_poke_65 : decode cX7_poke 65 = .ok (.invokevirtual 158, 3) := by decide +kernel
theorem dX7_poke_68 : decode cX7_poke 68 = .ok (.ireturn, 1) := by decide +kernel
set_option maxRecDepth 20000 in
theorem ggX7_read_X7_blockNumbered : GoodIn wsX7_read wsX7_blockNumbered := goodIn_r _ [5, 6, 7, 8, 9, 4, 10, 41, 42, 43, 44, 45, 46, 47, 48, 49] (by decide +kernel) (by decide +kernel)
set_option maxRecDepth 20000 in
theorem gX7_read_X7_blockNumbered : GoodIn wsX7_read (wsV RX7 135 RX7 yX7_blockNumbered wsX7_blockNumbered) := goodIn_app (goodIn_of _ (by decide +kernel)) ggX7_read_X7_blockNumbered
set_option maxRecDepth 20000 in
theorem ggX7_read_X0_repair : GoodIn wsX7_read wsX0_repair := goodIn_r _ [14, 15, 16, 17, 18, 19, 20, 21, 22, 23, 24, 25, 26, 27, 28, 29, 30, 31, 32, 33, 34, 35, 36, 37, 38, 39, 40, 50, 51, 52, 53, 54] (by decide +kernel) (by decide +kernel)
set_option maxRecDepth 20000 in
theorem gX7_read_X0_repair_n162 : GoodIn wsX7_read (wsX0_repair) := ggX7_read_X0_repair
theorem dX7_read_0 : decode cX7_read 0 = .ok (.aload_n 0, 1) := by decide +kernel
theorem dX7_read_1 : decode cX7_read 1 = .ok (.iload_n 1, 1) := by decide +kernel
theorem dX7_read_2 : decode cX7_read 2 = .ok (.invokevirtual 135, 3) := by decide +kernel
theorem dX7_read_5 : decode cX7_read 5 = .ok (.astore_n 2, 1) := by decide +kernel
theorem dX7_read_6 : decode cX7_read 6 = .ok (.aload_n 2, 1) := by decide +kernel
theorem dX7_read_7 : decode cX7_read 7 = .ok (.ifnonnull 5, 3) := by decide +kernel
theorem dX7_read_10 : decode cX7_read 10 = .ok (.iconst (-1), 1) := by decide +kernel
theorem dX7_read_11 : decode cX7_read 11 = .ok (.ireturn, 1) := by decide +kernel
theorem dX7_read_12 : decode cX7_read 12 = .ok (.aload_n 2, 1) := by decide +kernel
theorem dX7_read_13 : decode cX7_read 13 = .ok (.invokevirtual 162, 3) := by decide +kernel
theorem dX7_read_16 : decode cX7_read 16 = .ok (.ireturn, 1) := by decide +kernel
theorem dX7_cell_0 : decode cX7_cell 0 = .ok (.lload_n 1, 1) := by decide +kernel
theorem dX7_cell_1 : decode cX7_cell 1 = .ok (.lconst 0, 1) := by decide +kernel
theorem dX7_cell_2 : decode cX7_cell 2 = .ok (.lcmp, 1) := by decide +kernel
theorem dX7_cell_3 : decode cX7_cell 3 = .ok (.ifCond .lt 13, 3) := by decide +kernel
theorem dX7_cell_6 : decode cX7_cell 6 = .ok (.lload_n 1, 1) := by decide +kernel
theorem dX7_cell_7 : decode cX7_cell 7 = .ok (.aload_n 0, 1) := by decide +kernel
theorem dX7_cell_8 : decode cX7_cell 8 = .ok (.getfield 60, 3) := by decide +kernel
theorem dX7_cell_11 : decode cX7_cell 11 = .ok (.i2l, 1) := by decide +kernel
theorem dX7_cell_12 : decode cX7_cell 12 = .ok (.lcmp, 1) := by decide +kernel
theorem dX7_cell_13 : decode cX7_cell 13 = .ok (.ifCond .lt 13, 3) := by decide +kernel
theorem dX7_cell_16 : decode cX7_cell 16 = .ok (.new 166, 3) := by decide +kernel
theorem dX7_cell_19 : decode cX7_cell 19 = .ok (.dup, 1) := by decide +kernel
theorem dX7_cell_20 : decode cX7_cell 20 = .ok (.ldc 168, 2) := by decide +kernel
theorem dX7_cell_22 : decode cX7_cell 22 = .ok (.invokespecial 170, 3) := by decide +kernel
theorem dX7_cell_25 : decode cX7_cell 25 = .ok (.athrow, 1) := by decide +kernel
theorem dX7_cell_26 : decode cX7_cell 26 = .ok (.iconst 0, 1) := by decide +kernel
theorem dX7_cell_27 : decode cX7_cell 27 = .ok (.istore_n 3, 1) := by decide +kernel
theorem dX7_cell_28 : decode cX7_cell 28 = .ok (.iload_n 3, 1) := by decide +kernel
theorem dX7_cell_29 : decode cX7_cell 29 = .ok (.aload_n 0, 1) := by decide +kernel
theorem dX7_cell_30 : decode cX7_cell 30 = .ok (.getfield 37, 3) := by decide +kernel
theorem dX7_cell_33 : decode cX7_cell 33 = .ok (.getfield 100, 3) := by decide +kernel
theorem dX7_cell_36 : decode cX7_cell 36 = .ok (.if_icmp .ge 51, 3) := by decide +kernel
theorem dX7_cell_39 : decode cX7_cell 39 = .ok (.aload_n 0, 1) := by decide +kernel
theorem dX7_cell_40 : decode cX7_cell 40 = .ok (.getfield 37, 3) := by decide +kernel
theorem dX7_cell_43 : decode cX7_cell 43 = .ok (.getfield 105, 3) := by decide +kernel
theorem dX7_cell_46 : decode cX7_cell 46 = .ok (.iload_n 3, 1) := by decide +kernel
theorem dX7_cell_47 : decode cX7_cell 47 = .ok (.iaload, 1) := by decide +kernel
theorem dX7_cell_48 : decode cX7_cell 48 = .ok (.istore 4, 2) := by decide +kernel
theorem dX7_cell_50 : decode cX7_cell 50 = .ok (.lload_n 1, 1) := by decide +kernel
theorem dX7_cell_51 : decode cX7_cell 51 = .ok (.iload 4, 2) := by decide +kernel
theorem dX7_cell_53 : decode cX7_cell 53 = .ok (.i2l, 1) := by decide +kernel
theorem dX7_cell_54 : decode cX7_cell 54 = .ok (.lcmp, 1) := by decide +kernel
theorem dX7_cell_55 : decode cX7_cell 55 = .ok (.ifCond .lt 26, 3) := by decide +kernel
theorem dX7_cell_58 : decode cX7_cell 58 = .ok (.lload_n 1, 1) := by decide +kernel
theorem dX7_cell_59 : decode cX7_cell 59 = .ok (.iload 4, 2) := by decide +kernel
theorem dX7_cell_61 : decode cX7_cell 61 = .ok (.aload_n 0, 1) := by decide +kernel
theorem dX7_cell_62 : decode cX7_cell 62 = .ok (.getfield 19, 3) := by decide +kernel
theorem dX7_cell_65 : decode cX7_cell 65 = .ok (.getfield 171, 3) := by decide +kernel
theorem dX7_cell_68 : decode cX7_cell 68 = .ok (.iload_n 3, 1) := by decide +kernel
theorem dX7_cell_69 : decode cX7_cell 69 = .ok (.iaload, 1) := by decide +kernel
theorem dX7_cell_70 : decode cX7_cell 70 = .ok (.iadd, 1) := by decide +kernel
theorem dX7_cell_71 : decode cX7_cell 71 = .ok (.i2l, 1) := by decide +kernel
theorem dX7_cell_72 : decode cX7_cell 72 = .ok (.lcmp, 1) := by decide +kernel
theorem dX7_cell_73 : decode cX7_cell 73 = .ok (.ifCond .ge 8, 3) := by decide +kernel
theorem dX7_cell_76 : decode cX7_cell 76 = .ok (.iload_n 3, 1) := by decide +kernel
theorem dX7_cell_77 : decode cX7_cell 77 = .ok (.iconst 1, 1) := by decide +kernel
theorem dX7_cell_78 : decode cX7_cell 78 = .ok (.iadd, 1) := by decide +kernel
theorem dX7_cell_79 : decode cX7_cell 79 = .ok (.i2b, 1) := by decide +kernel
theorem dX7_cell_80 : decode cX7_cell 80 = .ok (.ireturn, 1) := by decide +kernel
theorem dX7_cell_81 : decode cX7_cell 81 = .ok (.iinc 3 1, 3) := by decide +kernel
theorem dX7_cell_84 : decode cX7_cell 84 = .ok (.goto (-56), 3) := by decide +kernel
theorem dX7_cell_87 : decode cX7_cell 87 = .ok (.iconst (-1), 1) := by decide +kernel
theorem dX7_cell_88 : decode cX7_cell 88 = .ok (.ireturn, 1) := by decide +kernel
set_option maxRecDepth 20000 in
theorem ggX7_moved_X7_isWithin : GoodIn wsX7_moved wsX7_isWithin := goodIn_r _ [5] (by decide +kernel) (by decide +kernel)
set_option maxRecDepth 20000 in
theorem gX7_moved_X7_isWithin : GoodIn wsX7_moved (va_wsS RX7 56 yX7_isWithin wsX7_isWithin) := goodIn_app (goodIn_of _ (by decide +kernel)) ggX7_moved_X7_isWithin
set_option maxRecDepth 20000 in
theorem ggX7_moved_X3_countMovedSince : GoodIn wsX7_moved wsX3_countMovedSince := goodIn_r _ [9, 10, 11, 12, 22, 23, 24, 25, 26] (by decide +kernel) (by decide +kernel)
set_option maxRecDepth 20000 in
theorem gX7_moved_X3_countMovedSince_n177 : GoodIn wsX7_moved (wsX3_countMovedSince) := ggX7_moved_X3_countMovedSince
theorem dX7_moved_0 : decode cX7_moved 0 = .ok (.iload_n 1, 1) := by decide +kernel
theorem dX7_moved_1 : decode cX7_moved 1 = .ok (.i2l, 1) := by decide +kernel
theorem dX7_moved_2 : decode cX7_moved 2 = .ok (.lconst 1, 1) := by decide +kernel
theorem dX7_moved_3 : decode cX7_moved 3 = .ok (.aload_n 0, 1) := by decide +kernel
theorem dX7_moved_4 : decode cX7_moved 4 = .ok (.getfield 37, 3) := by decide +kernel
theorem dX7_moved_7 : decode cX7_moved 7 = .ok (.getfield 174, 3) := by decide +kernel
theorem dX7_moved_10 : decode cX7_moved 10 = .ok (.i2l, 1) := by decide +kernel
theorem dX7_moved_11 : decode cX7_moved 11 = .ok (.invokestatic 56, 3) := by decide +kernel
theorem dX7_moved_14 : decode cX7_moved 14 = .ok (.ifCond .ne 5, 3) := by decide +kernel
theorem dX7_moved_17 : decode cX7_moved 17 = .ok (.iconst (-1), 1) := by decide +kernel
theorem dX7_moved_18 : decode cX7_moved 18 = .ok (.ireturn, 1) := by decide +kernel
theorem dX7_moved_19 : decode cX7_moved 19 = .ok (.aload_n 0, 1) := by decide +kernel
theorem dX7_moved_20 : decode cX7_moved 20 = .ok (.getfield 37, 3) := by decide +kernel
theorem dX7_moved_23 : decode cX7_moved 23 = .ok (.iload_n 1, 1) := by decide +kernel
theorem dX7_moved_24 : decode cX7_moved 24 = .ok (.iconst 1, 1) := by decide +kernel
theorem dX7_moved_25 : decode cX7_moved 25 = .ok (.isub, 1) := by decide +kernel
theorem dX7_moved_26 : decode cX7_moved 26 = .ok (.invokevirtual 177, 3) := by decide +kernel
theorem dX7_moved_29 : decode cX7_moved 29 = .ok (.ireturn, 1) := by decide +kernel
set_option maxRecDepth 20000 in
theorem ggX7_takeSpaceFor_X4_allow : GoodIn wsX7_takeSpaceFor wsX4_allow := goodIn_r _ [7, 8, 36, 37, 38, 39] (by decide +kernel) (by decide +kernel)
set_option maxRecDepth 20000 in
theorem gX7_takeSpaceFor_X4_allow_n184 : GoodIn wsX7_takeSpaceFor (wsX4_allow) := ggX7_takeSpaceFor_X4_allow
set_option maxRecDepth 20000 in
theorem ggX7_takeSpaceFor_X6_leastFree : GoodIn wsX7_takeSpaceFor wsX6_leastFree := goodIn_r _ [12, 13, 14, 15, 16, 17, 10, 18, 40, 41, 42] (by decide +kernel) (by decide +kernel)
set_option maxRecDepth 20000 in
theorem gX7_takeSpaceFor_X6_leastFree_n193 : GoodIn wsX7_takeSpaceFor (wsX6_leastFree) := ggX7_takeSpaceFor_X6_leastFree
set_option maxRecDepth 20000 in
theorem ggX7_takeSpaceFor_X6_add : GoodIn wsX7_takeSpaceFor wsX6_add := goodIn_r _ [21, 13, 14, 15, 40, 41, 42] (by decide +kernel) (by decide +kernel)
set_option maxRecDepth 20000 in
theorem gX7_takeSpaceFor_X6_add_n199 : GoodIn wsX7_takeSpaceFor (wsX6_add) := ggX7_takeSpaceFor_X6_add
theorem dX7_takeSpaceFor_0 : decode cX7_takeSpaceFor 0 = .ok (.aload_n 0, 1) := by decide +kernel
theorem dX7_takeSpaceFor_1 : decode cX7_takeSpaceFor 1 = .ok (.getfield 19, 3) := by decide +kernel
theorem dX7_takeSpaceFor_4 : decode cX7_takeSpaceFor 4 = .ok (.getfield 171, 3) := by decide +kernel
theorem dX7_takeSpaceFor_7 : decode cX7_takeSpaceFor 7 = .ok (.iload_n 1, 1) := by decide +kernel
theorem dX7_takeSpaceFor_8 : decode cX7_takeSpaceFor 8 = .ok (.iaload, 1) := by decide +kernel
theorem dX7_takeSpaceFor_9 : decode cX7_takeSpaceFor 9 = .ok (.istore_n 2, 1) := by decide +kernel
theorem dX7_takeSpaceFor_10 : decode cX7_takeSpaceFor 10 = .ok (.iload_n 2, 1) := by decide +kernel
theorem dX7_takeSpaceFor_11 : decode cX7_takeSpaceFor 11 = .ok (.ifCond .ne 5, 3) := by decide +kernel
theorem dX7_takeSpaceFor_14 : decode cX7_takeSpaceFor 14 = .ok (.iconst 0, 1) := by decide +kernel
theorem dX7_takeSpaceFor_15 : decode cX7_takeSpaceFor 15 = .ok (.ireturn, 1) := by decide +kernel
theorem dX7_takeSpaceFor_16 : decode cX7_takeSpaceFor 16 = .ok (.iconst 0, 1) := by decide +kernel
theorem dX7_takeSpaceFor_17 : decode cX7_takeSpaceFor 17 = .ok (.istore_n 3, 1) := by decide +kernel
theorem dX7_takeSpaceFor_18 : decode cX7_takeSpaceFor 18 = .ok (.iload_n 3, 1) := by decide +kernel
theorem dX7_takeSpaceFor_19 : decode cX7_takeSpaceFor 19 = .ok (.aload_n 0, 1) := by decide +kernel
theorem dX7_takeSpaceFor_20 : decode cX7_takeSpaceFor 20 = .ok (.getfield 10, 3) := by decide +kernel
theorem dX7_takeSpaceFor_23 : decode cX7_takeSpaceFor 23 = .ok (.getfield 180, 3) := by decide +kernel
theorem dX7_takeSpaceFor_26 : decode cX7_takeSpaceFor 26 = .ok (.if_icmp .ge 89, 3) := by decide +kernel
theorem dX7_takeSpaceFor_29 : decode cX7_takeSpaceFor 29 = .ok (.aload_n 0, 1) := by decide +kernel
theorem dX7_takeSpaceFor_30 : decode cX7_takeSpaceFor 30 = .ok (.getfield 10, 3) := by decide +kernel
theorem dX7_takeSpaceFor_33 : decode cX7_takeSpaceFor 33 = .ok (.iload_n 3, 1) := by decide +kernel
theorem dX7_takeSpaceFor_34 : decode cX7_takeSpaceFor 34 = .ok (.aload_n 0, 1) := by decide +kernel
theorem dX7_takeSpaceFor_35 : decode cX7_takeSpaceFor 35 = .ok (.getfield 19, 3) := by decide +kernel
theorem dX7_takeSpaceFor_38 : decode cX7_takeSpaceFor 38 = .ok (.getfield 181, 3) := by decide +kernel
theorem dX7_takeSpaceFor_41 : decode cX7_takeSpaceFor 41 = .ok (.iload_n 1, 1) := by decide +kernel
theorem dX7_takeSpaceFor_42 : decode cX7_takeSpaceFor 42 = .ok (.iaload, 1) := by decide +kernel
theorem dX7_takeSpaceFor_43 : decode cX7_takeSpaceFor 43 = .ok (.invokevirtual 184, 3) := by decide +kernel
theorem dX7_takeSpaceFor_46 : decode cX7_takeSpaceFor 46 = .ok (.ifCond .eq 63, 3) := by decide +kernel
theorem dX7_takeSpaceFor_49 : decode cX7_takeSpaceFor 49 = .ok (.aload_n 0, 1) := by decide +kernel
theorem dX7_takeSpaceFor_50 : decode cX7_takeSpaceFor 50 = .ok (.getfield 26, 3) := by decide +kernel
theorem dX7_takeSpaceFor_53 : decode cX7_takeSpaceFor 53 = .ok (.aload_n 0, 1) := by decide +kernel
theorem dX7_takeSpaceFor_54 : decode cX7_takeSpaceFor 54 = .ok (.getfield 10, 3) := by decide +kernel
theorem dX7_takeSpaceFor_57 : decode cX7_takeSpaceFor 57 = .ok (.getfield 187, 3) := by decide +kernel
theorem dX7_takeSpaceFor_60 : decode cX7_takeSpaceFor 60 = .ok (.iload_n 3, 1) := by decide +kernel
theorem dX7_takeSpaceFor_61 : decode cX7_takeSpaceFor 61 = .ok (.iaload, 1) := by decide +kernel
theorem dX7_takeSpaceFor_62 : decode cX7_takeSpaceFor 62 = .ok (.iload_n 2, 1) := by decide +kernel
theorem dX7_takeSpaceFor_63 : decode cX7_takeSpaceFor 63 = .ok (.aload_n 0, 1) := by decide +kernel
theorem dX7_takeSpaceFor_64 : decode cX7_takeSpaceFor 64 = .ok (.getfield 19, 3) := by decide +kernel
theorem dX7_takeSpaceFor_67 : decode cX7_takeSpaceFor 67 = .ok (.getfield 190, 3) := by decide +kernel
theorem dX7_takeSpaceFor_70 : decode cX7_takeSpaceFor 70 = .ok (.iload_n 1, 1) := by decide +kernel
theorem dX7_takeSpaceFor_71 : decode cX7_takeSpaceFor 71 = .ok (.iaload, 1) := by decide +kernel
theorem dX7_takeSpaceFor_72 : decode cX7_takeSpaceFor 72 = .ok (.invokevirtual 193, 3) := by decide +kernel
theorem dX7_takeSpaceFor_75 : decode cX7_takeSpaceFor 75 = .ok (.istore 4, 2) := by decide +kernel
theorem dX7_takeSpaceFor_77 : decode cX7_takeSpaceFor 77 = .ok (.iload 4, 2) := by decide +kernel
theorem dX7_takeSpaceFor_79 : decode cX7_takeSpaceFor 79 = .ok (.iload_n 2, 1) := by decide +kernel
theorem dX7_takeSpaceFor_80 : decode cX7_takeSpaceFor 80 = .ok (.iadd, 1) := by decide +kernel
theorem dX7_takeSpaceFor_81 : decode cX7_takeSpaceFor 81 = .ok (.aload_n 0, 1) := by decide +kernel
theorem dX7_takeSpaceFor_82 : decode cX7_takeSpaceFor 82 = .ok (.getfield 10, 3) := by decide +kernel
theorem dX7_takeSpaceFor_85 : decode cX7_takeSpaceFor 85 = .ok (.getfield 196, 3) := by decide +kernel
theorem dX7_takeSpaceFor_88 : decode cX7_takeSpaceFor 88 = .ok (.iload_n 3, 1) := by decide +kernel
theorem dX7_takeSpaceFor_89 : decode cX7_takeSpaceFor 89 = .ok (.iaload, 1) := by decide +kernel
theorem dX7_takeSpaceFor_90 : decode cX7_takeSpaceFor 90 = .ok (.if_icmp .gt 19, 3) := by decide +kernel
theorem dX7_takeSpaceFor_93 : decode cX7_takeSpaceFor 93 = .ok (.aload_n 0, 1) := by decide +kernel
theorem dX7_takeSpaceFor_94 : decode cX7_takeSpaceFor 94 = .ok (.getfield 26, 3) := by decide +kernel
theorem dX7_takeSpaceFor_97 : decode cX7_takeSpaceFor 97 = .ok (.iload 4, 2) := by decide +kernel
theorem dX7_takeSpaceFor_99 : decode cX7_takeSpaceFor 99 = .ok (.iload 4, 2) := by decide +kernel
theorem dX7_takeSpaceFor_101 : decode cX7_takeSpaceFor 101 = .ok (.iload_n 2, 1) := by decide +kernel
theorem dX7_takeSpaceFor_102 : decode cX7_takeSpaceFor 102 = .ok (.iadd, 1) := by decide +kernel
theorem dX7_takeSpaceFor_103 : decode cX7_takeSpaceFor 103 = .ok (.invokevirtual 199, 3) := by decide +kernel
theorem dX7_takeSpaceFor_106 : decode cX7_takeSpaceFor 106 = .ok (.iload 4, 2) := by decide +kernel
theorem dX7_takeSpaceFor_108 : decode cX7_takeSpaceFor 108 = .ok (.ireturn, 1) := by decide +kernel
theorem dX7_takeSpaceFor_109 : decode cX7_takeSpaceFor 109 = .ok (.iinc 3 1, 3) := by decide +kernel
theorem dX7_takeSpaceFor_112 : decode cX7_takeSpaceFor 112 = .ok (.goto (-94), 3) := by decide +kernel
theorem dX7_takeSpaceFor_115 : decode cX7_takeSpaceFor 115 = .ok (.iconst (-1), 1) := by decide +kernel
theorem dX7_takeSpaceFor_116 : decode cX7_takeSpaceFor 116 = .ok (.ireturn, 1) := by decide +kernel
set_option maxRecDepth 20000 in
theorem ggX7_blockNumbered_X7_isWithin : GoodIn wsX7_blockNumbered wsX7_isWithin := goodIn_r _ [6] (by decide +kernel) (by decide +kernel)
set_option maxRecDepth 20000 in
theorem gX7_blockNumbered_X7_isWithin : GoodIn wsX7_blockNumbered (va_wsS RX7 56 yX7_isWithin wsX7_isWithin) := goodIn_app (goodIn_of _ (by decide +kernel)) ggX7_blockNumbered_X7_isWithin
theorem dX7_blockNumbered_0 : decode cX7_blockNumbered 0 = .ok (.iload_n 1, 1) := by decide +kernel
theorem dX7_blockNumbered_1 : decode cX7_blockNumbered 1 = .ok (.i2l, 1) := by decide +kernel
theorem dX7_blockNumbered_2 : decode cX7_blockNumbered 2 = .ok (.lconst 1, 1) := by decide +kernel
theorem dX7_blockNumbered_3 : decode cX7_blockNumbered 3 = .ok (.aload_n 0, 1) := by decide +kernel
theorem dX7_blockNumbered_4 : decode cX7_blockNumbered 4 = .ok (.getfield 129, 3) := by decide +kernel
theorem dX7_blockNumbered_7 : decode cX7_blockNumbered 7 = .ok (.i2l, 1) := by decide +kernel
theorem dX7_blockNumbered_8 : decode cX7_blockNumbered 8 = .ok (.invokestatic 56, 3) := by decide +kernel
theorem dX7_blockNumbered_11 : decode cX7_blockNumbered 11 = .ok (.ifCond .eq 14, 3) := by decide +kernel
theorem dX7_blockNumbered_14 : decode cX7_blockNumbered 14 = .ok (.aload_n 0, 1) := by decide +kernel
theorem dX7_blockNumbered_15 : decode cX7_blockNumbered 15 = .ok (.getfield 50, 3) := by decide +kernel
theorem dX7_blockNumbered_18 : decode cX7_blockNumbered 18 = .ok (.iload_n 1, 1) := by decide +kernel
theorem dX7_blockNumbered_19 : decode cX7_blockNumbered 19 = .ok (.iconst 1, 1) := by decide +kernel
theorem dX7_blockNumbered_20 : decode cX7_blockNumbered 20 = .ok (.isub, 1) := by decide +kernel
theorem dX7_blockNumbered_21 : decode cX7_blockNumbered 21 = .ok (.aaload, 1) := by decide +kernel
theorem dX7_blockNumbered_22 : decode cX7_blockNumbered 22 = .ok (.goto 4, 3) := by decide +kernel
theorem dX7_blockNumbered_25 : decode cX7_blockNumbered 25 = .ok (.aconst_null, 1) := by decide +kernel
theorem dX7_blockNumbered_26 : decode cX7_blockNumbered 26 = .ok (.areturn, 1) := by decide +kernel
theorem dX7_isWithin_0 : decode cX7_isWithin 0 = .ok (.lload_n 0, 1) := by decide +kernel
theorem dX7_isWithin_1 : decode cX7_isWithin 1 = .ok (.lload_n 2, 1) := by decide +kernel
theorem dX7_isWithin_2 : decode cX7_isWithin 2 = .ok (.lcmp, 1) := by decide +kernel
theorem dX7_isWithin_3 : decode cX7_isWithin 3 = .ok (.ifCond .lt 14, 3) := by decide +kernel
theorem dX7_isWithin_6 : decode cX7_isWithin 6 = .ok (.lload_n 0, 1) := by decide +kernel
theorem dX7_isWithin_7 : decode cX7_isWithin 7 = .ok (.lload 4, 2) := by decide +kernel
theorem dX7_isWithin_9 : decode cX7_isWithin 9 = .ok (.lcmp, 1) := by decide +kernel
theorem dX7_isWithin_10 : decode cX7_isWithin 10 = .ok (.ifCond .gt 7, 3) := by decide +kernel
theorem dX7_isWithin_13 : decode cX7_isWithin 13 = .ok (.iconst 1, 1) := by decide +kernel
theorem dX7_isWithin_14 : decode cX7_isWithin 14 = .ok (.goto 4, 3) := by decide +kernel
theorem dX7_isWithin_17 : decode cX7_isWithin 17 = .ok (.iconst 0, 1) := by decide +kernel
theorem dX7_isWithin_18 : decode cX7_isWithin 18 = .ok (.ireturn, 1) := by decide +kernel
theorem dJx00060_init_a7421_0 : decode cJx00060_init_a7421 0 = .ok (.aload_n 0, 1) := by decide +kernel
theorem dJx00060_init_a7421_1 : decode cJx00060_init_a7421 1 = .ok (.aload_n 1, 1) := by decide +kernel
theorem dJx00060_init_a7421_2 : decode cJx00060_init_a7421 2 = .ok (.invokespecial 7, 3) := by decide +kernel
theorem dJx00060_init_a7421_5 : decode cJx00060_init_a7421 5 = .ok (.return_, 1) := by decide +kernel
theorem dJ6_bitCount_0f7a4_0 : decode cJ6_bitCount_0f7a4 0 = .ok (.iload_n 0, 1) := by decide +kernel
theorem dJ6_bitCount_0f7a4_1 : decode cJ6_bitCount_0f7a4 1 = .ok (.iload_n 0, 1) := by decide +kernel
theorem dJ6_bitCount_0f7a4_2 : decode cJ6_bitCount_0f7a4 2 = .ok (.iconst 1, 1) := by decide +kernel
theorem dJ6_bitCount_0f7a4_3 : decode cJ6_bitCount_0f7a4 3 = .ok (.iushr, 1) := by decide +kernel
theorem dJ6_bitCount_0f7a4_4 : decode cJ6_bitCount_0f7a4 4 = .ok (.ldc_w 265, 3) := by decide +kernel
theorem dJ6_bitCount_0f7a4_7 : decode cJ6_bitCount_0f7a4 7 = .ok (.iand, 1) := by decide +kernel
theorem dJ6_bitCount_0f7a4_8 : decode cJ6_bitCount_0f7a4 8 = .ok (.isub, 1) := by decide +kernel
theorem dJ6_bitCount_0f7a4_9 : decode cJ6_bitCount_0f7a4 9 = .ok (.istore_n 0, 1) := by decide +kernel
theorem dJ6_bitCount_0f7a4_10 : decode cJ6_bitCount_0f7a4 10 = .ok (.iload_n 0, 1) := by decide +kernel
theorem dJ6_bitCount_0f7a4_11 : decode cJ6_bitCount_0f7a4 11 = .ok (.ldc_w 266, 3) := by decide +kernel
theorem dJ6_bitCount_0f7a4_14 : decode cJ6_bitCount_0f7a4 14 = .ok (.iand, 1) := by decide +kernel
theorem dJ6_bitCount_0f7a4_15 : decode cJ6_bitCount_0f7a4 15 = .ok (.iload_n 0, 1) := by decide +kernel
theorem dJ6_bitCount_0f7a4_16 : decode cJ6_bitCount_0f7a4 16 = .ok (.iconst 2, 1) := by decide +kernel
theorem dJ6_bitCount_0f7a4_17 : decode cJ6_bitCount_0f7a4 17 = .ok (.iushr, 1) := by decide +kernel
theorem dJ6_bitCount_0f7a4_18 : decode cJ6_bitCount_0f7a4 18 = .ok (.ldc_w 266, 3) := by decide +kernel
theorem dJ6_bitCount_0f7a4_21 : decode cJ6_bitCount_0f7a4 21 = .ok (.iand, 1) := by decide +kernel
theorem dJ6_bitCount_0f7a4_22 : decode cJ6_bitCount_0f7a4 22 = .ok (.iadd, 1) := by decide +kernel
theorem dJ6_bitCount_0f7a4_23 : decode cJ6_bitCount_0f7a4 23 = .ok (.istore_n 0, 1) := by decide +kernel
theorem dJ6_bitCount_0f7a4_24 : decode cJ6_bitCount_0f7a4 24 = .ok (.iload_n 0, 1) := by decide +kernel
theorem dJ6_bitCount_0f7a4_25 : decode cJ6_bitCount_0f7a4 25 = .ok (.iload_n 0, 1) := by decide +kernel
theorem dJ6_bitCount_0f7a4_26 : decode cJ6_bitCount_0f7a4 26 = .ok (.iconst 4, 1) := by decide +kernel
theorem dJ6_bitCount_0f7a4_27 : decode cJ6_bitCount_0f7a4 27 = .ok (.iushr, 1) := by decide +kernel
theorem dJ6_bitCount_0f7a4_28 : decode cJ6_bitCount_0f7a4 28 = .ok (.iadd, 1) := by decide +kernel
theorem dJ6_bitCount_0f7a4_29 : decode cJ6_bitCount_0f7a4 29 = .ok (.ldc_w 267, 3) := by decide +kernel
theorem dJ6_bitCount_0f7a4_32 : decode cJ6_bitCount_0f7a4 32 = .ok (.iand, 1) := by decide +kernel
theorem dJ6_bitCount_0f7a4_33 : decode cJ6_bitCount_0f7a4 33 = .ok (.istore_n 0, 1) := by decide +kernel
theorem dJ6_bitCount_0f7a4_34 : decode cJ6_bitCount_0f7a4 34 = .ok (.iload_n 0, 1) := by decide +kernel
theorem dJ6_bitCount_0f7a4_35 : decode cJ6_bitCount_0f7a4 35 = .ok (.iload_n 0, 1) := by decide +kernel
theorem dJ6_bitCount_0f7a4_36 : decode cJ6_bitCount_0f7a4 36 = .ok (.bipush 8, 2) := by decide +kernel
theorem dJ6_bitCount_0f7a4_38 : decode cJ6_bitCount_0f7a4 38 = .ok (.iushr, 1) := by decide +kernel
theorem dJ6_bitCount_0f7a4_39 : decode cJ6_bitCount_0f7a4 39 = .ok (.iadd, 1) := by decide +kernel
theorem dJ6_bitCount_0f7a4_40 : decode cJ6_bitCount_0f7a4 40 = .ok (.istore_n 0, 1) := by decide +kernel
theorem dJ6_bitCount_0f7a4_41 : decode cJ6_bitCount_0f7a4 41 = .ok (.iload_n 0, 1) := by decide +kernel
theorem dJ6_bitCount_0f7a4_42 : decode cJ6_bitCount_0f7a4 42 = .ok (.iload_n 0, 1) := by decide +kernel
theorem dJ6_bitCount_0f7a4_43 : decode cJ6_bitCount_0f7a4 43 = .ok (.bipush 16, 2) := by decide +kernel
theorem dJ6_bitCount_0f7a4_45 : decode cJ6_bitCount_0f7a4 45 = .ok (.iushr, 1) := by decide +kernel
theorem dJ6_bitCount_0f7a4_46 : decode cJ6_bitCount_0f7a4 46 = .ok (.iadd, 1) := by decide +kernel
theorem dJ6_bitCount_0f7a4_47 : decode cJ6_bitCount_0f7a4 47 = .ok (.istore_n 0, 1) := by decide +kernel
theorem dJ6_bitCount_0f7a4_48 : decode cJ6_bitCount_0f7a4 48 = .ok (.iload_n 0, 1) := by decide +kernel
theorem dJ6_bitCount_0f7a4_49 : decode cJ6_bitCount_0f7a4 49 = .ok (.bipush 63, 2) := by decide +kernel
theorem dJ6_bitCount_0f7a4_51 : decode cJ6_bitCount_0f7a4 51 = .ok (.iand, 1) := by decide +kernel
theorem dJ6_bitCount_0f7a4_52 : decode cJ6_bitCount_0f7a4 52 = .ok (.ireturn, 1) := by decide +kernel
theorem dJ9_max_7cf53_0 : decode cJ9_max_7cf53 0 = .ok (.iload_n 0, 1) := by decide +kernel
theorem dJ9_max_7cf53_1 : decode cJ9_max_7cf53 1 = .ok (.iload_n 1, 1) := by decide +kernel
theorem dJ9_max_7cf53_2 : decode cJ9_max_7cf53 2 = .ok (.if_icmp .lt 7, 3) := by decide +kernel
theorem dJ9_max_7cf53_5 : decode cJ9_max_7cf53 5 = .ok (.iload_n 0, 1) := by decide +kernel
theorem dJ9_max_7cf53_6 : decode cJ9_max_7cf53 6 = .ok (.goto 4, 3) := by decide +kernel
theorem dJ9_max_7cf53_9 : decode cJ9_max_7cf53 9 = .ok (.iload_n 1, 1) := by decide +kernel
theorem dJ9_max_7cf53_10 : decode cJ9_max_7cf53 10 = .ok (.ireturn, 1) := by decide +kernel
theorem dJ7_fill_031fb_0 : decode cJ7_fill_031fb 0 = .ok (.iconst 0, 1) := by decide +kernel
theorem dJ7_fill_031fb_1 : decode cJ7_fill_031fb 1 = .ok (.istore_n 2, 1) := by decide +kernel
theorem dJ7_fill_031fb_2 : decode cJ7_fill_031fb 2 = .ok (.aload_n 0, 1) := by decide +kernel
theorem dJ7_fill_031fb_3 : decode cJ7_fill_031fb 3 = .ok (.arraylength, 1) := by decide +kernel
theorem dJ7_fill_031fb_4 : decode cJ7_fill_031fb 4 = .ok (.istore_n 3, 1) := by decide +kernel
theorem dJ7_fill_031fb_5 : decode cJ7_fill_031fb 5 = .ok (.iload_n 2, 1) := by decide +kernel
theorem dJ7_fill_031fb_6 : decode cJ7_fill_031fb 6 = .ok (.iload_n 3, 1) := by decide +kernel
theorem dJ7_fill_031fb_7 : decode cJ7_fill_031fb 7 = .ok (.if_icmp .ge 13, 3) := by decide +kernel
theorem dJ7_fill_031fb_10 : decode cJ7_fill_031fb 10 = .ok (.aload_n 0, 1) := by decide +kernel
theorem dJ7_fill_031fb_11 : decode cJ7_fill_031fb 11 = .ok (.iload_n 2, 1) := by decide +kernel
theorem dJ7_fill_031fb_12 : decode cJ7_fill_031fb 12 = .ok (.iload_n 1, 1) := by decide +kernel
theorem dJ7_fill_031fb_13 : decode cJ7_fill_031fb 13 = .ok (.bastore, 1) := by decide +kernel
theorem dJ7_fill_031fb_14 : decode cJ7_fill_031fb 14 = .ok (.iinc 2 1, 3) := by decide +kernel
theorem dJ7_fill_031fb_17 : decode cJ7_fill_031fb 17 = .ok (.goto (-12), 3) := by decide +kernel
theorem dJ7_fill_031fb_20 : decode cJ7_fill_031fb 20 = .ok (.return_, 1) := by decide +kernel
end
section
theorem dX8_init_0 : decode cX8_init 0 = .ok (.aload_n 0, 1) := by decide +kernel
theorem dX8_init_1 : decode cX8_init 1 = .ok (.invokespecial 1, 3) := by decide +kernel
theorem dX8_init_4 : decode cX8_init 4 = .ok (.aload_n 0, 1) := by decide +kernel
theorem dX8_init_5 : decode cX8_init 5 = .ok (.bipush 17, 2) := by decide +kernel
theorem dX8_init_7 : decode cX8_init 7 = .ok (.newarray .int, 2) := by decide +kernel
theorem dX8_init_9 : decode cX8_init 9 = .ok (.putfield 7, 3) := by decide +kernel
theorem dX8_init_12 : decode cX8_init 12 = .ok (.aload_n 0, 1) := by decide +kernel
theorem dX8_init_13 : decode cX8_init 13 = .ok (.bipush 17, 2) := by decide +kernel
theorem dX8_init_15 : decode cX8_init 15 = .ok (.newarray .int, 2) := by decide +kernel
theorem dX8_init_17 : decode cX8_init 17 = .ok (.putfield 13, 3) := by decide +kernel
theorem dX8_init_20 : decode cX8_init 20 = .ok (.aload_n 0, 1) := by decide +kernel
theorem dX8_init_21 : decode cX8_init 21 = .ok (.bipush 17, 2) := by decide +kernel
theorem dX8_init_23 : decode cX8_init 23 = .ok (.newarray .int, 2) := by decide +kernel
theorem dX8_init_25 : decode cX8_init 25 = .ok (.putfield 16, 3) := by decide +kernel
theorem dX8_init_28 : decode cX8_init 28 = .ok (.aload_n 0, 1) := by decide +kernel
theorem dX8_init_29 : decode cX8_init 29 = .ok (.bipush 41, 2) := by decide +kernel
theorem dX8_init_31 : decode cX8_init 31 = .ok (.newarray .int, 2) := by decide +kernel
theorem dX8_init_33 : decode cX8_init 33 = .ok (.putfield 19, 3) := by decide +kernel
theorem dX8_init_36 : decode cX8_init 36 = .ok (.aload_n 0, 1) := by decide +kernel
theorem dX8_init_37 : decode cX8_init 37 = .ok (.bipush 41, 2) := by decide +kernel
theorem dX8_init_39 : decode cX8_init 39 = .ok (.newarray .int, 2) := by decide +kernel
theorem dX8_init_41 : decode cX8_init 41 = .ok (.putfield 22, 3) := by decide +kernel
theorem dX8_init_44 : decode cX8_init 44 = .ok (.aload_n 0, 1) := by decide +kernel
theorem dX8_init_45 : decode cX8_init 45 = .ok (.bipush 41, 2) := by decide +kernel
theorem dX8_init_47 : decode cX8_init 47 = .ok (.newarray .int, 2) := by decide +kernel
theorem dX8_init_49 : decode cX8_init 49 = .ok (.putfield 25, 3) := by decide +kernel
theorem dX8_init_52 : decode cX8_init 52 = .ok (.aload_n 0, 1) := by decide +kernel
theorem dX8_init_53 : decode cX8_init 53 = .ok (.ldc 28, 2) := by decide +kernel
theorem dX8_init_55 : decode cX8_init 55 = .ok (.newarray .byte, 2) := by decide +kernel
theorem dX8_init_57 : decode cX8_init 57 = .ok (.putfield 29, 3) := by decide +kernel
theorem dX8_init_60 : decode cX8_init 60 = .ok (.aload_n 0, 1) := by decide +kernel
theorem dX8_init_61 : decode cX8_init 61 = .ok (.ldc 28, 2) := by decide +kernel
theorem dX8_init_63 : decode cX8_init 63 = .ok (.newarray .byte, 2) := by decide +kernel
theorem dX8_init_65 : decode cX8_init 65 = .ok (.putfield 33, 3) := by decide +kernel
theorem dX8_init_68 : decode cX8_init 68 = .ok (.aload_n 0, 1) := by decide +kernel
theorem dX8_init_69 : decode cX8_init 69 = .ok (.bipush 41, 2) := by decide +kernel
theorem dX8_init_71 : decode cX8_init 71 = .ok (.newarray .int, 2) := by decide +kernel
theorem dX8_init_73 : decode cX8_init 73 = .ok (.putfield 36, 3) := by decide +kernel
theorem dX8_init_76 : decode cX8_init 76 = .ok (.aload_n 0, 1) := by decide +kernel
theorem dX8_init_77 : decode cX8_init 77 = .ok (.bipush 41, 2) := by decide +kernel
theorem dX8_init_79 : decode cX8_init 79 = .ok (.newarray .int, 2) := by decide +kernel
theorem dX8_init_81 : decode cX8_init 81 = .ok (.putfield 39, 3) := by decide +kernel
theorem dX8_init_84 : decode cX8_init 84 = .ok (.aload_n 0, 1) := by decide +kernel
theorem dX8_init_85 : decode cX8_init 85 = .ok (.sipush 2091, 3) := by decide +kernel
theorem dX8_init_88 : decode cX8_init 88 = .ok (.newarray .int, 2) := by decide +kernel
theorem dX8_init_90 : decode cX8_init 90 = .ok (.putfield 42, 3) := by decide +kernel
theorem dX8_init_93 : decode cX8_init 93 = .ok (.aload_n 0, 1) := by decide +kernel
theorem dX8_init_94 : decode cX8_init 94 = .ok (.bipush 51, 2) := by decide +kernel
theorem dX8_init_96 : decode cX8_init 96 = .ok (.newarray .int, 2) := by decide +kernel
theorem dX8_init_98 : decode cX8_init 98 = .ok (.putfield 45, 3) := by decide +kernel
theorem dX8_init_101 : decode cX8_init 101 = .ok (.aload_n 0, 1) := by decide +kernel
theorem dX8_init_102 : decode cX8_init 102 = .ok (.bipush 31, 2) := by decide +kernel
theorem dX8_init_104 : decode cX8_init 104 = .ok (.newarray .long, 2) := by decide +kernel
theorem dX8_init_106 : decode cX8_init 106 = .ok (.putfield 48, 3) := by decide +kernel
theorem dX8_init_109 : decode cX8_init 109 = .ok (.aload_n 0, 1) := by decide +kernel
theorem dX8_init_110 : decode cX8_init 110 = .ok (.sipush 961, 3) := by decide +kernel
theorem dX8_init_113 : decode cX8_init 113 = .ok (.newarray .boolean, 2) := by decide +kernel
theorem dX8_init_115 : decode cX8_init 115 = .ok (.putfield 52, 3) := by decide +kernel
theorem dX8_init_118 : decode cX8_init 118 = .ok (.aload_n 0, 1) := by decide +kernel
theorem dX8_init_119 : decode cX8_init 119 = .ok (.bipush 31, 2) := by decide +kernel
theorem dX8_init_121 : decode cX8_init 121 = .ok (.newarray .long, 2) := by decide +kernel
theorem dX8_init_123 : decode cX8_init 123 = .ok (.putfield 56, 3) := by decide +kernel
theorem dX8_init_126 : decode cX8_init 126 = .ok (.aload_n 0, 1) := by decide +kernel
theorem dX8_init_127 : decode cX8_init 127 = .ok (.bipush 21, 2) := by decide +kernel
theorem dX8_init_129 : decode cX8_init 129 = .ok (.newarray .int, 2) := by decide +kernel
theorem dX8_init_131 : decode cX8_init 131 = .ok (.putfield 59, 3) := by decide +kernel
theorem dX8_init_134 : decode cX8_init 134 = .ok (.aload_n 0, 1) := by decide +kernel
theorem dX8_init_135 : decode cX8_init 135 = .ok (.sipush 1344, 3) := by decide +kernel
theorem dX8_init_138 : decode cX8_init 138 = .ok (.newarray .byte, 2) := by decide +kernel
theorem dX8_init_140 : decode cX8_init 140 = .ok (.putfield 62, 3) := by decide +kernel
theorem dX8_init_143 : decode cX8_init 143 = .ok (.aload_n 0, 1) := by decide +kernel
theorem dX8_init_144 : decode cX8_init 144 = .ok (.bipush 42, 2) := by decide +kernel
theorem dX8_init_146 : decode cX8_init 146 = .ok (.newarray .int, 2) := by decide +kernel
theorem dX8_init_148 : decode cX8_init 148 = .ok (.putfield 65, 3) := by decide +kernel
theorem dX8_init_151 : decode cX8_init 151 = .ok (.aload_n 0, 1) := by decide +kernel
theorem dX8_init_152 : decode cX8_init 152 = .ok (.lload_n 1, 1) := by decide +kernel
theorem dX8_init_153 : decode cX8_init 153 = .ok (.lconst 1, 1) := by decide +kernel
theorem dX8_init_154 : decode cX8_init 154 = .ok (.lcmp, 1) := by decide +kernel
theorem dX8_init_155 : decode cX8_init 155 = .ok (.ifCond .lt 16, 3) := by decide +kernel
theorem dX8_init_158 : decode cX8_init 158 = .ok (.lload_n 1, 1) := by decide +kernel
theorem dX8_init_159 : decode cX8_init 159 = .ok (.ldc2_w 68, 3) := by decide +kernel
theorem dX8_init_162 : decode cX8_init 162 = .ok (.lcmp, 1) := by decide +kernel
theorem dX8_init_163 : decode cX8_init 163 = .ok (.ifCond .gt 8, 3) := by decide +kernel
theorem dX8_init_166 : decode cX8_init 166 = .ok (.lload_n 1, 1) := by decide +kernel
theorem dX8_init_167 : decode cX8_init 167 = .ok (.l2i, 1) := by decide +kernel
theorem dX8_init_168 : decode cX8_init 168 = .ok (.goto 6, 3) := by decide +kernel
theorem dX8_init_171 : decode cX8_init 171 = .ok (.sipush 4096, 3) := by decide +kernel
theorem dX8_init_174 : decode cX8_init 174 = .ok (.putfield 70, 3) := by decide +kernel
theorem dX8_init_177 : decode cX8_init 177 = .ok (.iconst 0, 1) := by decide +kernel
theorem dX8_init_178 : decode cX8_init 178 = .ok (.istore_n 3, 1) := by decide +kernel
theorem dX8_init_179 : decode cX8_init 179 = .ok (.iload_n 3, 1) := by decide +kernel
theorem dX8_init_180 : decode cX8_init 180 = .ok (.ldc 28, 2) := by decide +kernel
theorem dX8_init_182 : decode cX8_init 182 = .ok (.if_icmp .ge 16, 3) := by decide +kernel
theorem dX8_init_185 : decode cX8_init 185 = .ok (.aload_n 0, 1) := by decide +kernel
theorem dX8_init_186 : decode cX8_init 186 = .ok (.getfield 33, 3) := by decide +kernel
theorem dX8_init_189 : decode cX8_init 189 = .ok (.iload_n 3, 1) := by decide +kernel
theorem dX8_init_190 : decode cX8_init 190 = .ok (.iconst (-1), 1) := by decide +kernel
theorem dX8_init_191 : decode cX8_init 191 = .ok (.bastore, 1) := by decide +kernel
theorem dX8_init_192 : decode cX8_init 192 = .ok (.iinc 3 1, 3) := by decide +kernel
theorem dX8_init_195 : decode cX8_init 195 = .ok (.goto (-16), 3) := by decide +kernel
theorem dX8_init_198 : decode cX8_init 198 = .ok (.return_, 1) := by decide +kernel
theorem dX8_thrown_0 : decode cX8_thrown 0 = .ok (.aload_n 0, 1) := by decide +kernel
theorem dX8_thrown_1 : decode cX8_thrown 1 = .ok (.getfield 74, 3) := by decide +kernel
theorem dX8_thrown_4 : decode cX8_thrown 4 = .ok (.ireturn, 1) := by decide +kernel
theorem dX8_region_0 : decode cX8_region 0 = .ok (.aload_n 0, 1) := by decide +kernel
theorem dX8_region_1 : decode cX8_region 1 = .ok (.iconst 0, 1) := by decide +kernel
theorem dX8_region_2 : decode cX8_region 2 = .ok (.putfield 74, 3) := by decide +kernel
theorem dX8_region_5 : decode cX8_region 5 = .ok (.lload_n 3, 1) := by decide +kernel
theorem dX8_region_6 : decode cX8_region 6 = .ok (.lconst 1, 1) := by decide +kernel
theorem dX8_region_7 : decode cX8_region 7 = .ok (.lcmp, 1) := by decide +kernel
theorem dX8_region_8 : decode cX8_region 8 = .ok (.ifCond .lt 43, 3) := by decide +kernel
theorem dX8_region_11 : decode cX8_region 11 = .ok (.lload_n 3, 1) := by decide +kernel
theorem dX8_region_12 : decode cX8_region 12 = .ok (.aload_n 0, 1) := by decide +kernel
theorem dX8_region_13 : decode cX8_region 13 = .ok (.getfield 70, 3) := by decide +kernel
theorem dX8_region_16 : decode cX8_region 16 = .ok (.i2l, 1) := by decide +kernel
theorem dX8_region_17 : decode cX8_region 17 = .ok (.lcmp, 1) := by decide +kernel
theorem dX8_region_18 : decode cX8_region 18 = .ok (.ifCond .gt 33, 3) := by decide +kernel
theorem dX8_region_21 : decode cX8_region 21 = .ok (.lload_n 1, 1) := by decide +kernel
theorem dX8_region_22 : decode cX8_region 22 = .ok (.lconst 0, 1) := by decide +kernel
theorem dX8_region_23 : decode cX8_region 23 = .ok (.lcmp, 1) := by decide +kernel
theorem dX8_region_24 : decode cX8_region 24 = .ok (.ifCond .lt 27, 3) := by decide +kernel
theorem dX8_region_27 : decode cX8_region 27 = .ok (.lload_n 1, 1) := by decide +kernel
theorem dX8_region_28 : decode cX8_region 28 = .ok (.aload_n 0, 1) := by decide +kernel
theorem dX8_region_29 : decode cX8_region 29 = .ok (.getfield 70, 3) := by decide +kernel
theorem dX8_region_32 : decode cX8_region 32 = .ok (.i2l, 1) := by decide +kernel
theorem dX8_region_33 : decode cX8_region 33 = .ok (.lload_n 3, 1) := by decide +kernel
theorem dX8_region_34 : decode cX8_region 34 = .ok (.lsub, 1) := by decide +kernel
theorem dX8_region_35 : decode cX8_region 35 = .ok (.lcmp, 1) := by decide +kernel
theorem dX8_region_36 : decode cX8_region 36 = .ok (.ifCond .gt 15, 3) := by decide +kernel
theorem dX8_region_39 : decode cX8_region 39 = .ok (.iload 5, 2) := by decide +kernel
theorem dX8_region_41 : decode cX8_region 41 = .ok (.ifCond .lt 10, 3) := by decide +kernel
theorem dX8_region_44 : decode cX8_region 44 = .ok (.iload 5, 2) := by decide +kernel
theorem dX8_region_46 : decode cX8_region 46 = .ok (.bipush 7, 2) := by decide +kernel
theorem dX8_region_48 : decode cX8_region 48 = .ok (.if_icmp .le 6, 3) := by decide +kernel
theorem dX8_region_51 : decode cX8_region 51 = .ok (.bipush (-2), 2) := by decide +kernel
theorem dX8_region_53 : decode cX8_region 53 = .ok (.ireturn, 1) := by decide +kernel
theorem dX8_region_54 : decode cX8_region 54 = .ok (.iconst 1, 1) := by decide +kernel
theorem dX8_region_55 : decode cX8_region 55 = .ok (.istore 6, 2) := by decide +kernel
theorem dX8_region_57 : decode cX8_region 57 = .ok (.iload 6, 2) := by decide +kernel
theorem dX8_region_59 : decode cX8_region 59 = .ok (.aload_n 0, 1) := by decide +kernel
theorem dX8_region_60 : decode cX8_region 60 = .ok (.getfield 77, 3) := by decide +kernel
theorem dX8_region_63 : decode cX8_region 63 = .ok (.if_icmp .gt 40, 3) := by decide +kernel
theorem dX8_region_66 : decode cX8_region 66 = .ok (.lload_n 1, 1) := by decide +kernel
theorem dX8_region_67 : decode cX8_region 67 = .ok (.aload_n 0, 1) := by decide +kernel
theorem dX8_region_68 : decode cX8_region 68 = .ok (.getfield 13, 3) := by decide +kernel
theorem dX8_region_71 : decode cX8_region 71 = .ok (.iload 6, 2) := by decide +kernel
theorem dX8_region_73 : decode cX8_region 73 = .ok (.iaload, 1) := by decide +kernel
theorem dX8_region_74 : decode cX8_region 74 = .ok (.i2l, 1) := by decide +kernel
theorem dX8_region_75 : decode cX8_region 75 = .ok (.lcmp, 1) := by decide +kernel
theorem dX8_region_76 : decode cX8_region 76 = .ok (.ifCond .ge 21, 3) := by decide +kernel
theorem dX8_region_79 : decode cX8_region 79 = .ok (.lload_n 1, 1) := by decide +kernel
theorem dX8_region_80 : decode cX8_region 80 = .ok (.lload_n 3, 1) := by decide +kernel
theorem dX8_region_81 : decode cX8_region 81 = .ok (.ladd, 1) := by decide +kernel
theorem dX8_region_82 : decode cX8_region 82 = .ok (.aload_n 0, 1) := by decide +kernel
theorem dX8_region_83 : decode cX8_region 83 = .ok (.getfield 7, 3) := by decide +kernel
theorem dX8_region_86 : decode cX8_region 86 = .ok (.iload 6, 2) := by decide +kernel
theorem dX8_region_88 : decode cX8_region 88 = .ok (.iaload, 1) := by decide +kernel
theorem dX8_region_89 : decode cX8_region 89 = .ok (.i2l, 1) := by decide +kernel
theorem dX8_region_90 : decode cX8_region 90 = .ok (.lcmp, 1) := by decide +kernel
theorem dX8_region_91 : decode cX8_region 91 = .ok (.ifCond .le 6, 3) := by decide +kernel
theorem dX8_region_94 : decode cX8_region 94 = .ok (.bipush (-3), 2) := by decide +kernel
theorem dX8_region_96 : decode cX8_region 96 = .ok (.ireturn, 1) := by decide +kernel
theorem dX8_region_97 : decode cX8_region 97 = .ok (.iinc 6 1, 3) := by decide +kernel
theorem dX8_region_100 : decode cX8_region 100 = .ok (.goto (-43), 3) := by decide +kernel
theorem dX8_region_103 : decode cX8_region 103 = .ok (.aload_n 0, 1) := by decide +kernel
theorem dX8_region_104 : decode cX8_region 104 = .ok (.getfield 77, 3) := by decide +kernel
theorem dX8_region_107 : decode cX8_region 107 = .ok (.bipush 16, 2) := by decide +kernel
theorem dX8_region_109 : decode cX8_region 109 = .ok (.if_icmp .ne 6, 3) := by decide +kernel
theorem dX8_region_112 : decode cX8_region 112 = .ok (.bipush (-4), 2) := by decide +kernel
theorem dX8_region_114 : decode cX8_region 114 = .ok (.ireturn, 1) := by decide +kernel
theorem dX8_region_115 : decode cX8_region 115 = .ok (.aload_n 0, 1) := by decide +kernel
theorem dX8_region_116 : decode cX8_region 116 = .ok (.dup, 1) := by decide +kernel
theorem dX8_region_117 : decode cX8_region 117 = .ok (.getfield 77, 3) := by decide +kernel
theorem dX8_region_120 : decode cX8_region 120 = .ok (.iconst 1, 1) := by decide +kernel
theorem dX8_region_121 : decode cX8_region 121 = .ok (.iadd, 1) := by decide +kernel
theorem dX8_region_122 : decode cX8_region 122 = .ok (.putfield 77, 3) := by decide +kernel
theorem dX8_region_125 : decode cX8_region 125 = .ok (.aload_n 0, 1) := by decide +kernel
theorem dX8_region_126 : decode cX8_region 126 = .ok (.getfield 7, 3) := by decide +kernel
theorem dX8_region_129 : decode cX8_region 129 = .ok (.aload_n 0, 1) := by decide +kernel
theorem dX8_region_130 : decode cX8_region 130 = .ok (.getfield 77, 3) := by decide +kernel
theorem dX8_region_133 : decode cX8_region 133 = .ok (.lload_n 1, 1) := by decide +kernel
theorem dX8_region_134 : decode cX8_region 134 = .ok (.l2i, 1) := by decide +kernel
theorem dX8_region_135 : decode cX8_region 135 = .ok (.iastore, 1) := by decide +kernel
theorem dX8_region_136 : decode cX8_region 136 = .ok (.aload_n 0, 1) := by decide +kernel
theorem dX8_region_137 : decode cX8_region 137 = .ok (.getfield 13, 3) := by decide +kernel
theorem dX8_region_140 : decode cX8_region 140 = .ok (.aload_n 0, 1) := by decide +kernel
theorem dX8_region_141 : decode cX8_region 141 = .ok (.getfield 77, 3) := by decide +kernel
theorem dX8_region_144 : decode cX8_region 144 = .ok (.lload_n 1, 1) := by decide +kernel
theorem dX8_region_145 : decode cX8_region 145 = .ok (.lload_n 3, 1) := by decide +kernel
theorem dX8_region_146 : decode cX8_region 146 = .ok (.ladd, 1) := by decide +kernel
theorem dX8_region_147 : decode cX8_region 147 = .ok (.l2i, 1) := by decide +kernel
theorem dX8_region_148 : decode cX8_region 148 = .ok (.iastore, 1) := by decide +kernel
theorem dX8_region_149 : decode cX8_region 149 = .ok (.aload_n 0, 1) := by decide +kernel
theorem dX8_region_150 : decode cX8_region 150 = .ok (.getfield 16, 3) := by decide +kernel
theorem dX8_region_153 : decode cX8_region 153 = .ok (.aload_n 0, 1) := by decide +kernel
theorem dX8_region_154 : decode cX8_region 154 = .ok (.getfield 77, 3) := by decide +kernel
theorem dX8_region_157 : decode cX8_region 157 = .ok (.iload 5, 2) := by decide +kernel
theorem dX8_region_159 : decode cX8_region 159 = .ok (.iastore, 1) := by decide +kernel
theorem dX8_region_160 : decode cX8_region 160 = .ok (.aload_n 0, 1) := by decide +kernel
theorem dX8_region_161 : decode cX8_region 161 = .ok (.getfield 77, 3) := by decide +kernel
theorem dX8_region_164 : decode cX8_region 164 = .ok (.ireturn, 1) := by decide +kernel
theorem dX8_section_0 : decode cX8_section 0 = .ok (.aload_n 0, 1) := by decide +kernel
theorem dX8_section_1 : decode cX8_section 1 = .ok (.iconst 0, 1) := by decide +kernel
theorem dX8_section_2 : decode cX8_section 2 = .ok (.putfield 74, 3) := by decide +kernel
theorem dX8_section_5 : decode cX8_section 5 = .ok (.lload_n 1, 1) := by decide +kernel
theorem dX8_section_6 : decode cX8_section 6 = .ok (.lconst 0, 1) := by decide +kernel
theorem dX8_section_7 : decode cX8_section 7 = .ok (.lcmp, 1) := by decide +kernel
theorem dX8_section_8 : decode cX8_section 8 = .ok (.ifCond .lt 37, 3) := by decide +kernel
theorem dX8_section_11 : decode cX8_section 11 = .ok (.lload_n 1, 1) := by decide +kernel
theorem dX8_section_12 : decode cX8_section 12 = .ok (.ldc2_w 68, 3) := by decide +kernel
theorem dX8_section_15 : decode cX8_section 15 = .ok (.lcmp, 1) := by decide +kernel
theorem dX8_section_16 : decode cX8_section 16 = .ok (.ifCond .gt 29, 3) := by decide +kernel
theorem dX8_section_19 : decode cX8_section 19 = .ok (.lload_n 3, 1) := by decide +kernel
theorem dX8_section_20 : decode cX8_section 20 = .ok (.lconst 0, 1) := by decide +kernel
theorem dX8_section_21 : decode cX8_section 21 = .ok (.lcmp, 1) := by decide +kernel
theorem dX8_section_22 : decode cX8_section 22 = .ok (.ifCond .lt 23, 3) := by decide +kernel
theorem dX8_section_25 : decode cX8_section 25 = .ok (.lload_n 3, 1) := by decide +kernel
theorem dX8_section_26 : decode cX8_section 26 = .ok (.ldc2_w 68, 3) := by decide +kernel
theorem dX8_section_29 : decode cX8_section 29 = .ok (.lcmp, 1) := by decide +kernel
theorem dX8_section_30 : decode cX8_section 30 = .ok (.ifCond .gt 15, 3) := by decide +kernel
theorem dX8_section_33 : decode cX8_section 33 = .ok (.iload 5, 2) := by decide +kernel
theorem dX8_section_35 : decode cX8_section 35 = .ok (.ifCond .lt 10, 3) := by decide +kernel
theorem dX8_section_38 : decode cX8_section 38 = .ok (.iload 5, 2) := by decide +kernel
theorem dX8_section_40 : decode cX8_section 40 = .ok (.bipush 7, 2) := by decide +kernel
theorem dX8_section_42 : decode cX8_section 42 = .ok (.if_icmp .le 6, 3) := by decide +kernel
theorem dX8_section_45 : decode cX8_section 45 = .ok (.bipush (-2), 2) := by decide +kernel
theorem dX8_section_47 : decode cX8_section 47 = .ok (.ireturn, 1) := by decide +kernel
theorem dX8_section_48 : decode cX8_section 48 = .ok (.aload_n 0, 1) := by decide +kernel
theorem dX8_section_49 : decode cX8_section 49 = .ok (.getfield 80, 3) := by decide +kernel
theorem dX8_section_52 : decode cX8_section 52 = .ok (.bipush 40, 2) := by decide +kernel
theorem dX8_section_54 : decode cX8_section 54 = .ok (.if_icmp .ne 6, 3) := by decide +kernel
theorem dX8_section_57 : decode cX8_section 57 = .ok (.bipush (-4), 2) := by decide +kernel
theorem dX8_section_59 : decode cX8_section 59 = .ok (.ireturn, 1) := by decide +kernel
theorem dX8_section_60 : decode cX8_section 60 = .ok (.lload_n 3, 1) := by decide +kernel
theorem dX8_section_61 : decode cX8_section 61 = .ok (.lconst 0, 1) := by decide +kernel
theorem dX8_section_62 : decode cX8_section 62 = .ok (.lcmp, 1) := by decide +kernel
theorem dX8_section_63 : decode cX8_section 63 = .ok (.ifCond .ne 10, 3) := by decide +kernel
theorem dX8_section_66 : decode cX8_section 66 = .ok (.aload_n 0, 1) := by decide +kernel
theorem dX8_section_67 : decode cX8_section 67 = .ok (.iconst 1, 1) := by decide +kernel
theorem dX8_section_68 : decode cX8_section 68 = .ok (.putfield 74, 3) := by decide +kernel
theorem dX8_section_71 : decode cX8_section 71 = .ok (.iconst 0, 1) := by decide +kernel
theorem dX8_section_72 : decode cX8_section 72 = .ok (.ireturn, 1) := by decide +kernel
theorem dX8_section_73 : decode cX8_section 73 = .ok (.aload_n 0, 1) := by decide +kernel
theorem dX8_section_74 : decode cX8_section 74 = .ok (.dup, 1) := by decide +kernel
theorem dX8_section_75 : decode cX8_section 75 = .ok (.getfield 80, 3) := by decide +kernel
theorem dX8_section_78 : decode cX8_section 78 = .ok (.iconst 1, 1) := by decide +kernel
theorem dX8_section_79 : decode cX8_section 79 = .ok (.iadd, 1) := by decide +kernel
theorem dX8_section_80 : decode cX8_section 80 = .ok (.putfield 80, 3) := by decide +kernel
theorem dX8_section_83 : decode cX8_section 83 = .ok (.aload_n 0, 1) := by decide +kernel
theorem dX8_section_84 : decode cX8_section 84 = .ok (.getfield 19, 3) := by decide +kernel
theorem dX8_section_87 : decode cX8_section 87 = .ok (.aload_n 0, 1) := by decide +kernel
theorem dX8_section_88 : decode cX8_section 88 = .ok (.getfield 80, 3) := by decide +kernel
theorem dX8_section_91 : decode cX8_section 91 = .ok (.lload_n 1, 1) := by decide +kernel
theorem dX8_section_92 : decode cX8_section 92 = .ok (.l2i, 1) := by decide +kernel
theorem dX8_section_93 : decode cX8_section 93 = .ok (.iastore, 1) := by decide +kernel
theorem dX8_section_94 : decode cX8_section 94 = .ok (.aload_n 0, 1) := by decide +kernel
theorem dX8_section_95 : decode cX8_section 95 = .ok (.getfield 22, 3) := by decide +kernel
theorem dX8_section_98 : decode cX8_section 98 = .ok (.aload_n 0, 1) := by decide +kernel
theorem dX8_section_99 : decode cX8_section 99 = .ok (.getfield 80, 3) := by decide +kernel
theorem dX8_section_102 : decode cX8_section 102 = .ok (.lload_n 3, 1) := by decide +kernel
theorem dX8_section_103 : decode cX8_section 103 = .ok (.l2i, 1) := by decide +kernel
theorem dX8_section_104 : decode cX8_section 104 = .ok (.iastore, 1) := by decide +kernel
theorem dX8_section_105 : decode cX8_section 105 = .ok (.aload_n 0, 1) := by decide +kernel
theorem dX8_section_106 : decode cX8_section 106 = .ok (.getfield 25, 3) := by decide +kernel
theorem dX8_section_109 : decode cX8_section 109 = .ok (.aload_n 0, 1) := by decide +kernel
theorem dX8_section_110 : decode cX8_section 110 = .ok (.getfield 80, 3) := by decide +kernel
theorem dX8_section_113 : decode cX8_section 113 = .ok (.iload 5, 2) := by decide +kernel
theorem dX8_section_115 : decode cX8_section 115 = .ok (.iastore, 1) := by decide +kernel
theorem dX8_section_116 : decode cX8_section 116 = .ok (.aload_n 0, 1) := by decide +kernel
theorem dX8_section_117 : decode cX8_section 117 = .ok (.getfield 80, 3) := by decide +kernel
theorem dX8_section_120 : decode cX8_section 120 = .ok (.ireturn, 1) := by decide +kernel
theorem dX8_isBefore_0 : decode cX8_isBefore 0 = .ok (.aload_n 0, 1) := by decide +kernel
theorem dX8_isBefore_1 : decode cX8_isBefore 1 = .ok (.getfield 19, 3) := by decide +kernel
theorem dX8_isBefore_4 : decode cX8_isBefore 4 = .ok (.iload_n 1, 1) := by decide +kernel
theorem dX8_isBefore_5 : decode cX8_isBefore 5 = .ok (.iaload, 1) := by decide +kernel
theorem dX8_isBefore_6 : decode cX8_isBefore 6 = .ok (.aload_n 0, 1) := by decide +kernel
theorem dX8_isBefore_7 : decode cX8_isBefore 7 = .ok (.getfield 19, 3) := by decide +kernel
theorem dX8_isBefore_10 : decode cX8_isBefore 10 = .ok (.iload_n 2, 1) := by decide +kernel
theorem dX8_isBefore_11 : decode cX8_isBefore 11 = .ok (.iaload, 1) := by decide +kernel
theorem dX8_isBefore_12 : decode cX8_isBefore 12 = .ok (.if_icmp .gt 23, 3) := by decide +kernel
theorem dX8_isBefore_15 : decode cX8_isBefore 15 = .ok (.aload_n 0, 1) := by decide +kernel
theorem dX8_isBefore_16 : decode cX8_isBefore 16 = .ok (.getfield 19, 3) := by decide +kernel
theorem dX8_isBefore_19 : decode cX8_isBefore 19 = .ok (.iload_n 1, 1) := by decide +kernel
theorem dX8_isBefore_20 : decode cX8_isBefore 20 = .ok (.iaload, 1) := by decide +kernel
theorem dX8_isBefore_21 : decode cX8_isBefore 21 = .ok (.aload_n 0, 1) := by decide +kernel
theorem dX8_isBefore_22 : decode cX8_isBefore 22 = .ok (.getfield 19, 3) := by decide +kernel
theorem dX8_isBefore_25 : decode cX8_isBefore 25 = .ok (.iload_n 2, 1) := by decide +kernel
theorem dX8_isBefore_26 : decode cX8_isBefore 26 = .ok (.iaload, 1) := by decide +kernel
theorem dX8_isBefore_27 : decode cX8_isBefore 27 = .ok (.if_icmp .ne 12, 3) := by decide +kernel
theorem dX8_isBefore_30 : decode cX8_isBefore 30 = .ok (.iload_n 1, 1) := by decide +kernel
theorem dX8_isBefore_31 : decode cX8_isBefore 31 = .ok (.iload_n 2, 1) := by decide +kernel
theorem dX8_isBefore_32 : decode cX8_isBefore 32 = .ok (.if_icmp .ge 7, 3) := by decide +kernel
theorem dX8_isBefore_35 : decode cX8_isBefore 35 = .ok (.iconst 1, 1) := by decide +kernel
theorem dX8_isBefore_36 : decode cX8_isBefore 36 = .ok (.goto 4, 3) := by decide +kernel
theorem dX8_isBefore_39 : decode cX8_isBefore 39 = .ok (.iconst 0, 1) := by decide +kernel
theorem dX8_isBefore_40 : decode cX8_isBefore 40 = .ok (.ireturn, 1) := by decide +kernel
set_option maxRecDepth 20000 in
theorem ggX8_next_X8_isBefore : GoodIn wsX8_next wsX8_isBefore := goodIn_r _ [6, 7, 8, 9, 10, 11, 12, 13, 14, 15, 16, 17, 18, 19, 20, 21, 22, 23, 24, 25, 26, 27, 28, 29, 30, 31, 32] (by decide +kernel) (by decide +kernel)
set_option maxRecDepth 20000 in
theorem gX8_next_X8_isBefore : GoodIn wsX8_next (wsV RX8 83 RX8 yX8_isBefore wsX8_isBefore) := goodIn_app (goodIn_of _ (by decide +kernel)) ggX8_next_X8_isBefore
theorem dX8_next_0 : decode cX8_next 0 = .ok (.iconst 0, 1) := by decide +kernel
theorem dX8_next_1 : decode cX8_next 1 = .ok (.istore_n 2, 1) := by decide +kernel
theorem dX8_next_2 : decode cX8_next 2 = .ok (.iconst 1, 1) := by decide +kernel
theorem dX8_next_3 : decode cX8_next 3 = .ok (.istore_n 3, 1) := by decide +kernel
theorem dX8_next_4 : decode cX8_next 4 = .ok (.iload_n 3, 1) := by decide +kernel
theorem dX8_next_5 : decode cX8_next 5 = .ok (.aload_n 0, 1) := by decide +kernel
theorem dX8_next_6 : decode cX8_next 6 = .ok (.getfield 80, 3) := by decide +kernel
theorem dX8_next_9 : decode cX8_next 9 = .ok (.if_icmp .gt 37, 3) := by decide +kernel
theorem dX8_next_12 : decode cX8_next 12 = .ok (.iload_n 1, 1) := by decide +kernel
theorem dX8_next_13 : decode cX8_next 13 = .ok (.ifCond .eq 12, 3) := by decide +kernel
theorem dX8_next_16 : decode cX8_next 16 = .ok (.aload_n 0, 1) := by decide +kernel
theorem dX8_next_17 : decode cX8_next 17 = .ok (.iload_n 1, 1) := by decide +kernel
theorem dX8_next_18 : decode cX8_next 18 = .ok (.iload_n 3, 1) := by decide +kernel
theorem dX8_next_19 : decode cX8_next 19 = .ok (.invokevirtual 83, 3) := by decide +kernel
theorem dX8_next_22 : decode cX8_next 22 = .ok (.ifCond .eq 18, 3) := by decide +kernel
theorem dX8_next_25 : decode cX8_next 25 = .ok (.iload_n 2, 1) := by decide +kernel
theorem dX8_next_26 : decode cX8_next 26 = .ok (.ifCond .eq 12, 3) := by decide +kernel
theorem dX8_next_29 : decode cX8_next 29 = .ok (.aload_n 0, 1) := by decide +kernel
theorem dX8_next_30 : decode cX8_next 30 = .ok (.iload_n 3, 1) := by decide +kernel
theorem dX8_next_31 : decode cX8_next 31 = .ok (.iload_n 2, 1) := by decide +kernel
theorem dX8_next_32 : decode cX8_next 32 = .ok (.invokevirtual 83, 3) := by decide +kernel
theorem dX8_next_35 : decode cX8_next 35 = .ok (.ifCond .eq 5, 3) := by decide +kernel
theorem dX8_next_38 : decode cX8_next 38 = .ok (.iload_n 3, 1) := by decide +kernel
theorem dX8_next_39 : decode cX8_next 39 = .ok (.istore_n 2, 1) := by decide +kernel
theorem dX8_next_40 : decode cX8_next 40 = .ok (.iinc 3 1, 3) := by decide +kernel
theorem dX8_next_43 : decode cX8_next 43 = .ok (.goto (-39), 3) := by decide +kernel
theorem dX8_next_46 : decode cX8_next 46 = .ok (.iload_n 2, 1) := by decide +kernel
theorem dX8_next_47 : decode cX8_next 47 = .ok (.ireturn, 1) := by decide +kernel
theorem dX8_up_0 : decode cX8_up 0 = .ok (.iload_n 0, 1) := by decide +kernel
theorem dX8_up_1 : decode cX8_up 1 = .ok (.iload_n 1, 1) := by decide +kernel
theorem dX8_up_2 : decode cX8_up 2 = .ok (.iadd, 1) := by decide +kernel
theorem dX8_up_3 : decode cX8_up 3 = .ok (.iconst 1, 1) := by decide +kernel
theorem dX8_up_4 : decode cX8_up 4 = .ok (.isub, 1) := by decide +kernel
theorem dX8_up_5 : decode cX8_up 5 = .ok (.iload_n 1, 1) := by decide +kernel
theorem dX8_up_6 : decode cX8_up 6 = .ok (.idiv, 1) := by decide +kernel
theorem dX8_up_7 : decode cX8_up 7 = .ok (.iload_n 1, 1) := by decide +kernel
theorem dX8_up_8 : decode cX8_up 8 = .ok (.imul, 1) := by decide +kernel
theorem dX8_up_9 : decode cX8_up 9 = .ok (.ireturn, 1) := by decide +kernel
set_option maxRecDepth 20000 in
theorem ggX8_find_X8_up : GoodIn wsX8_find wsX8_up := goodIn_r _ [9] (by decide +kernel) (by decide +kernel)
set_option maxRecDepth 20000 in
theorem gX8_find_X8_up : GoodIn wsX8_find (va_wsS RX8 87 yX8_up wsX8_up) := goodIn_app (goodIn_of _ (by decide +kernel)) ggX8_find_X8_up
theorem dX8_find_0 : decode cX8_find 0 = .ok (.aload_n 0, 1) := by decide +kernel
theorem dX8_find_1 : decode cX8_find 1 = .ok (.getfield 7, 3) := by decide +kernel
theorem dX8_find_4 : decode cX8_find 4 = .ok (.iload_n 2, 1) := by decide +kernel
theorem dX8_find_5 : decode cX8_find 5 = .ok (.iaload, 1) := by decide +kernel
theorem dX8_find_6 : decode cX8_find 6 = .ok (.aload_n 0, 1) := by decide +kernel
theorem dX8_find_7 : decode cX8_find 7 = .ok (.getfield 22, 3) := by decide +kernel
theorem dX8_find_10 : decode cX8_find 10 = .ok (.iload_n 1, 1) := by decide +kernel
theorem dX8_find_11 : decode cX8_find 11 = .ok (.iaload, 1) := by decide +kernel
theorem dX8_find_12 : decode cX8_find 12 = .ok (.invokestatic 87, 3) := by decide +kernel
theorem dX8_find_15 : decode cX8_find 15 = .ok (.istore_n 3, 1) := by decide +kernel
theorem dX8_find_16 : decode cX8_find 16 = .ok (.iload_n 3, 1) := by decide +kernel
theorem dX8_find_17 : decode cX8_find 17 = .ok (.aload_n 0, 1) := by decide +kernel
theorem dX8_find_18 : decode cX8_find 18 = .ok (.getfield 19, 3) := by decide +kernel
theorem dX8_find_21 : decode cX8_find 21 = .ok (.iload_n 1, 1) := by decide +kernel
theorem dX8_find_22 : decode cX8_find 22 = .ok (.iaload, 1) := by decide +kernel
theorem dX8_find_23 : decode cX8_find 23 = .ok (.iadd, 1) := by decide +kernel
theorem dX8_find_24 : decode cX8_find 24 = .ok (.aload_n 0, 1) := by decide +kernel
theorem dX8_find_25 : decode cX8_find 25 = .ok (.getfield 13, 3) := by decide +kernel
theorem dX8_find_28 : decode cX8_find 28 = .ok (.iload_n 2, 1) := by decide +kernel
theorem dX8_find_29 : decode cX8_find 29 = .ok (.iaload, 1) := by decide +kernel
theorem dX8_find_30 : decode cX8_find 30 = .ok (.if_icmp .gt 67, 3) := by decide +kernel
theorem dX8_find_33 : decode cX8_find 33 = .ok (.iload_n 3, 1) := by decide +kernel
theorem dX8_find_34 : decode cX8_find 34 = .ok (.istore 4, 2) := by decide +kernel
theorem dX8_find_36 : decode cX8_find 36 = .ok (.iload 4, 2) := by decide +kernel
theorem dX8_find_38 : decode cX8_find 38 = .ok (.iload_n 3, 1) := by decide +kernel
theorem dX8_find_39 : decode cX8_find 39 = .ok (.aload_n 0, 1) := by decide +kernel
theorem dX8_find_40 : decode cX8_find 40 = .ok (.getfield 19, 3) := by decide +kernel
theorem dX8_find_43 : decode cX8_find 43 = .ok (.iload_n 1, 1) := by decide +kernel
theorem dX8_find_44 : decode cX8_find 44 = .ok (.iaload, 1) := by decide +kernel
theorem dX8_find_45 : decode cX8_find 45 = .ok (.iadd, 1) := by decide +kernel
theorem dX8_find_46 : decode cX8_find 46 = .ok (.if_icmp .ge 19, 3) := by decide +kernel
theorem dX8_find_49 : decode cX8_find 49 = .ok (.aload_n 0, 1) := by decide +kernel
theorem dX8_find_50 : decode cX8_find 50 = .ok (.getfield 29, 3) := by decide +kernel
theorem dX8_find_53 : decode cX8_find 53 = .ok (.iload 4, 2) := by decide +kernel
theorem dX8_find_55 : decode cX8_find 55 = .ok (.baload, 1) := by decide +kernel
theorem dX8_find_56 : decode cX8_find 56 = .ok (.ifCond .ne 9, 3) := by decide +kernel
theorem dX8_find_59 : decode cX8_find 59 = .ok (.iinc 4 1, 3) := by decide +kernel
theorem dX8_find_62 : decode cX8_find 62 = .ok (.goto (-26), 3) := by decide +kernel
theorem dX8_find_65 : decode cX8_find 65 = .ok (.iload 4, 2) := by decide +kernel
theorem dX8_find_67 : decode cX8_find 67 = .ok (.iload_n 3, 1) := by decide +kernel
theorem dX8_find_68 : decode cX8_find 68 = .ok (.aload_n 0, 1) := by decide +kernel
theorem dX8_find_69 : decode cX8_find 69 = .ok (.getfield 19, 3) := by decide +kernel
theorem dX8_find_72 : decode cX8_find 72 = .ok (.iload_n 1, 1) := by decide +kernel
theorem dX8_find_73 : decode cX8_find 73 = .ok (.iaload, 1) := by decide +kernel
theorem dX8_find_74 : decode cX8_find 74 = .ok (.iadd, 1) := by decide +kernel
theorem dX8_find_75 : decode cX8_find 75 = .ok (.if_icmp .ne 5, 3) := by decide +kernel
theorem dX8_find_78 : decode cX8_find 78 = .ok (.iload_n 3, 1) := by decide +kernel
theorem dX8_find_79 : decode cX8_find 79 = .ok (.ireturn, 1) := by decide +kernel
theorem dX8_find_80 : decode cX8_find 80 = .ok (.iload 4, 2) := by decide +kernel
theorem dX8_find_82 : decode cX8_find 82 = .ok (.iconst 1, 1) := by decide +kernel
theorem dX8_find_83 : decode cX8_find 83 = .ok (.iadd, 1) := by decide +kernel
theorem dX8_find_84 : decode cX8_find 84 = .ok (.aload_n 0, 1) := by decide +kernel
theorem dX8_find_85 : decode cX8_find 85 = .ok (.getfield 22, 3) := by decide +kernel
theorem dX8_find_88 : decode cX8_find 88 = .ok (.iload_n 1, 1) := by decide +kernel
theorem dX8_find_89 : decode cX8_find 89 = .ok (.iaload, 1) := by decide +kernel
theorem dX8_find_90 : decode cX8_find 90 = .ok (.invokestatic 87, 3) := by decide +kernel
theorem dX8_find_93 : decode cX8_find 93 = .ok (.istore_n 3, 1) := by decide +kernel
theorem dX8_find_94 : decode cX8_find 94 = .ok (.goto (-78), 3) := by decide +kernel
theorem dX8_find_97 : decode cX8_find 97 = .ok (.iconst (-1), 1) := by decide +kernel
theorem dX8_find_98 : decode cX8_find 98 = .ok (.ireturn, 1) := by decide +kernel
set_option maxRecDepth 20000 in
theorem ggX8_findAny_X8_find : GoodIn wsX8_findAny wsX8_find := goodIn_r _ [8, 9, 10, 11, 12, 13, 14, 15, 7, 16, 17, 18, 19, 20, 21, 22, 23, 24, 25, 26, 27, 28, 29, 30, 31, 32, 33, 34, 35, 36, 37, 38, 39, 40, 41] (by decide +kernel) (by decide +kernel)
set_option maxRecDepth 20000 in
theorem gX8_findAny_X8_find : GoodIn wsX8_findAny (wsV RX8 91 RX8 yX8_find wsX8_find) := goodIn_app (goodIn_of _ (by decide +kernel)) ggX8_findAny_X8_find
theorem dX8_findAny_0 : decode cX8_findAny 0 = .ok (.iconst (-1), 1) := by decide +kernel
theorem dX8_findAny_1 : decode cX8_findAny 1 = .ok (.istore_n 2, 1) := by decide +kernel
theorem dX8_findAny_2 : decode cX8_findAny 2 = .ok (.iconst 1, 1) := by decide +kernel
theorem dX8_findAny_3 : decode cX8_findAny 3 = .ok (.istore_n 3, 1) := by decide +kernel
theorem dX8_findAny_4 : decode cX8_findAny 4 = .ok (.iload_n 3, 1) := by decide +kernel
theorem dX8_findAny_5 : decode cX8_findAny 5 = .ok (.aload_n 0, 1) := by decide +kernel
theorem dX8_findAny_6 : decode cX8_findAny 6 = .ok (.getfield 77, 3) := by decide +kernel
theorem dX8_findAny_9 : decode cX8_findAny 9 = .ok (.if_icmp .gt 46, 3) := by decide +kernel
theorem dX8_findAny_12 : decode cX8_findAny 12 = .ok (.iload_n 2, 1) := by decide +kernel
theorem dX8_findAny_13 : decode cX8_findAny 13 = .ok (.ifCond .ge 42, 3) := by decide +kernel
theorem dX8_findAny_16 : decode cX8_findAny 16 = .ok (.aload_n 0, 1) := by decide +kernel
theorem dX8_findAny_17 : decode cX8_findAny 17 = .ok (.getfield 16, 3) := by decide +kernel
theorem dX8_findAny_20 : decode cX8_findAny 20 = .ok (.iload_n 3, 1) := by decide +kernel
theorem dX8_findAny_21 : decode cX8_findAny 21 = .ok (.iaload, 1) := by decide +kernel
theorem dX8_findAny_22 : decode cX8_findAny 22 = .ok (.aload_n 0, 1) := by decide +kernel
theorem dX8_findAny_23 : decode cX8_findAny 23 = .ok (.getfield 25, 3) := by decide +kernel
theorem dX8_findAny_26 : decode cX8_findAny 26 = .ok (.iload_n 1, 1) := by decide +kernel
theorem dX8_findAny_27 : decode cX8_findAny 27 = .ok (.iaload, 1) := by decide +kernel
theorem dX8_findAny_28 : decode cX8_findAny 28 = .ok (.iand, 1) := by decide +kernel
theorem dX8_findAny_29 : decode cX8_findAny 29 = .ok (.aload_n 0, 1) := by decide +kernel
theorem dX8_findAny_30 : decode cX8_findAny 30 = .ok (.getfield 25, 3) := by decide +kernel
theorem dX8_findAny_33 : decode cX8_findAny 33 = .ok (.iload_n 1, 1) := by decide +kernel
theorem dX8_findAny_34 : decode cX8_findAny 34 = .ok (.iaload, 1) := by decide +kernel
theorem dX8_findAny_35 : decode cX8_findAny 35 = .ok (.if_icmp .ne 12, 3) := by decide +kernel
theorem dX8_findAny_38 : decode cX8_findAny 38 = .ok (.aload_n 0, 1) := by decide +kernel
theorem dX8_findAny_39 : decode cX8_findAny 39 = .ok (.iload_n 1, 1) := by decide +kernel
theorem dX8_findAny_40 : decode cX8_findAny 40 = .ok (.iload_n 3, 1) := by decide +kernel
theorem dX8_findAny_41 : decode cX8_findAny 41 = .ok (.invokevirtual 91, 3) := by decide +kernel
theorem dX8_findAny_44 : decode cX8_findAny 44 = .ok (.goto 4, 3) := by decide +kernel
theorem dX8_findAny_47 : decode cX8_findAny 47 = .ok (.iconst (-1), 1) := by decide +kernel
theorem dX8_findAny_48 : decode cX8_findAny 48 = .ok (.istore_n 2, 1) := by decide +kernel
theorem dX8_findAny_49 : decode cX8_findAny 49 = .ok (.iinc 3 1, 3) := by decide +kernel
theorem dX8_findAny_52 : decode cX8_findAny 52 = .ok (.goto (-48), 3) := by decide +kernel
theorem dX8_findAny_55 : decode cX8_findAny 55 = .ok (.iload_n 2, 1) := by decide +kernel
theorem dX8_findAny_56 : decode cX8_findAny 56 = .ok (.ireturn, 1) := by decide +kernel
set_option maxRecDepth 20000 in
theorem ggX8_place_X8_next : GoodIn wsX8_place wsX8_next := goodIn_r _ [17, 6, 18, 19, 20, 16, 21, 5, 39, 40, 41, 42, 43, 44, 45, 46, 47, 48, 49, 50, 51, 52, 53, 54, 55, 56, 57, 58, 59, 60, 61, 62, 63] (by decide +kernel) (by decide +kernel)
set_option maxRecDepth 20000 in
theorem gX8_place_X8_next : GoodIn wsX8_place (wsV RX8 94 RX8 yX8_next wsX8_next) := goodIn_app (goodIn_of _ (by decide +kernel)) ggX8_place_X8_next
set_option maxRecDepth 20000 in
theorem ggX8_place_X8_findAny : GoodIn wsX8_place wsX8_findAny := goodIn_r _ [25, 26, 27, 28, 29, 30, 31, 16, 32, 33, 34, 5, 35, 3, 36, 37, 38, 39, 40, 41, 42, 43, 44, 45, 46, 47, 48, 49, 50, 51, 52, 53, 54, 55, 56, 57, 58, 59, 60, 61, 62, 63] (by decide +kernel) (by decide +kernel)
set_option maxRecDepth 20000 in
theorem gX8_place_X8_findAny : GoodIn wsX8_place (wsV RX8 98 RX8 yX8_findAny wsX8_findAny) := goodIn_app (goodIn_of _ (by decide +kernel)) ggX8_place_X8_findAny
theorem dX8_place_0 : decode cX8_place 0 = .ok (.aload_n 0, 1) := by decide +kernel
theorem dX8_place_1 : decode cX8_place 1 = .ok (.iconst 0, 1) := by decide +kernel
theorem dX8_place_2 : decode cX8_place 2 = .ok (.putfield 74, 3) := by decide +kernel
theorem dX8_place_5 : decode cX8_place 5 = .ok (.iconst 0, 1) := by decide +kernel
theorem dX8_place_6 : decode cX8_place 6 = .ok (.istore_n 1, 1) := by decide +kernel
theorem dX8_place_7 : decode cX8_place 7 = .ok (.iload_n 1, 1) := by decide +kernel
theorem dX8_place_8 : decode cX8_place 8 = .ok (.aload_n 0, 1) := by decide +kernel
theorem dX8_place_9 : decode cX8_place 9 = .ok (.getfield 70, 3) := by decide +kernel
theorem dX8_place_12 : decode cX8_place 12 = .ok (.if_icmp .ge 16, 3) := by decide +kernel
theorem dX8_place_15 : decode cX8_place 15 = .ok (.aload_n 0, 1) := by decide +kernel
theorem dX8_place_16 : decode cX8_place 16 = .ok (.getfield 29, 3) := by decide +kernel
theorem dX8_place_19 : decode cX8_place 19 = .ok (.iload_n 1, 1) := by decide +kernel
theorem dX8_place_20 : decode cX8_place 20 = .ok (.iconst 0, 1) := by decide +kernel
theorem dX8_place_21 : decode cX8_place 21 = .ok (.bastore, 1) := by decide +kernel
theorem dX8_place_22 : decode cX8_place 22 = .ok (.iinc 1 1, 3) := by decide +kernel
theorem dX8_place_25 : decode cX8_place 25 = .ok (.goto (-18), 3) := by decide +kernel
theorem dX8_place_28 : decode cX8_place 28 = .ok (.aload_n 0, 1) := by decide +kernel
theorem dX8_place_29 : decode cX8_place 29 = .ok (.iconst 0, 1) := by decide +kernel
theorem dX8_place_30 : decode cX8_place 30 = .ok (.invokevirtual 94, 3) := by decide +kernel
theorem dX8_place_33 : decode cX8_place 33 = .ok (.istore_n 1, 1) := by decide +kernel
theorem dX8_place_34 : decode cX8_place 34 = .ok (.iload_n 1, 1) := by decide +kernel
theorem dX8_place_35 : decode cX8_place 35 = .ok (.ifCond .le 86, 3) := by decide +kernel
theorem dX8_place_38 : decode cX8_place 38 = .ok (.aload_n 0, 1) := by decide +kernel
theorem dX8_place_39 : decode cX8_place 39 = .ok (.getfield 39, 3) := by decide +kernel
theorem dX8_place_42 : decode cX8_place 42 = .ok (.iload_n 1, 1) := by decide +kernel
theorem dX8_place_43 : decode cX8_place 43 = .ok (.aload_n 0, 1) := by decide +kernel
theorem dX8_place_44 : decode cX8_place 44 = .ok (.getfield 19, 3) := by decide +kernel
theorem dX8_place_47 : decode cX8_place 47 = .ok (.iload_n 1, 1) := by decide +kernel
theorem dX8_place_48 : decode cX8_place 48 = .ok (.iaload, 1) := by decide +kernel
theorem dX8_place_49 : decode cX8_place 49 = .ok (.ifCond .ne 7, 3) := by decide +kernel
theorem dX8_place_52 : decode cX8_place 52 = .ok (.iconst 0, 1) := by decide +kernel
theorem dX8_place_53 : decode cX8_place 53 = .ok (.goto 8, 3) := by decide +kernel
theorem dX8_place_56 : decode cX8_place 56 = .ok (.aload_n 0, 1) := by decide +kernel
theorem dX8_place_57 : decode cX8_place 57 = .ok (.iload_n 1, 1) := by decide +kernel
theorem dX8_place_58 : decode cX8_place 58 = .ok (.invokevirtual 98, 3) := by decide +kernel
theorem dX8_place_61 : decode cX8_place 61 = .ok (.iastore, 1) := by decide +kernel
theorem dX8_place_62 : decode cX8_place 62 = .ok (.aload_n 0, 1) := by decide +kernel
theorem dX8_place_63 : decode cX8_place 63 = .ok (.getfield 39, 3) := by decide +kernel
theorem dX8_place_66 : decode cX8_place 66 = .ok (.iload_n 1, 1) := by decide +kernel
theorem dX8_place_67 : decode cX8_place 67 = .ok (.iaload, 1) := by decide +kernel
theorem dX8_place_68 : decode cX8_place 68 = .ok (.ifCond .ge 6, 3) := by decide +kernel
theorem dX8_place_71 : decode cX8_place 71 = .ok (.iload_n 1, 1) := by decide +kernel
theorem dX8_place_72 : decode cX8_place 72 = .ok (.ineg, 1) := by decide +kernel
theorem dX8_place_73 : decode cX8_place 73 = .ok (.ireturn, 1) := by decide +kernel
theorem dX8_place_74 : decode cX8_place 74 = .ok (.aload_n 0, 1) := by decide +kernel
theorem dX8_place_75 : decode cX8_place 75 = .ok (.getfield 39, 3) := by decide +kernel
theorem dX8_place_78 : decode cX8_place 78 = .ok (.iload_n 1, 1) := by decide +kernel
theorem dX8_place_79 : decode cX8_place 79 = .ok (.iaload, 1) := by decide +kernel
theorem dX8_place_80 : decode cX8_place 80 = .ok (.istore_n 2, 1) := by decide +kernel
theorem dX8_place_81 : decode cX8_place 81 = .ok (.iload_n 2, 1) := by decide +kernel
theorem dX8_place_82 : decode cX8_place 82 = .ok (.aload_n 0, 1) := by decide +kernel
theorem dX8_place_83 : decode cX8_place 83 = .ok (.getfield 39, 3) := by decide +kernel
theorem dX8_place_86 : decode cX8_place 86 = .ok (.iload_n 1, 1) := by decide +kernel
theorem dX8_place_87 : decode cX8_place 87 = .ok (.iaload, 1) := by decide +kernel
theorem dX8_place_88 : decode cX8_place 88 = .ok (.aload_n 0, 1) := by decide +kernel
theorem dX8_place_89 : decode cX8_place 89 = .ok (.getfield 19, 3) := by decide +kernel
theorem dX8_place_92 : decode cX8_place 92 = .ok (.iload_n 1, 1) := by decide +kernel
theorem dX8_place_93 : decode cX8_place 93 = .ok (.iaload, 1) := by decide +kernel
theorem dX8_place_94 : decode cX8_place 94 = .ok (.iadd, 1) := by decide +kernel
theorem dX8_place_95 : decode cX8_place 95 = .ok (.if_icmp .ge 17, 3) := by decide +kernel
theorem dX8_place_98 : decode cX8_place 98 = .ok (.aload_n 0, 1) := by decide +kernel
theorem dX8_place_99 : decode cX8_place 99 = .ok (.getfield 29, 3) := by decide +kernel
theorem dX8_place_102 : decode cX8_place 102 = .ok (.iload_n 2, 1) := by decide +kernel
theorem dX8_place_103 : decode cX8_place 103 = .ok (.iload_n 1, 1) := by decide +kernel
theorem dX8_place_104 : decode cX8_place 104 = .ok (.i2b, 1) := by decide +kernel
theorem dX8_place_105 : decode cX8_place 105 = .ok (.bastore, 1) := by decide +kernel
theorem dX8_place_106 : decode cX8_place 106 = .ok (.iinc 2 1, 3) := by decide +kernel
theorem dX8_place_109 : decode cX8_place 109 = .ok (.goto (-28), 3) := by decide +kernel
theorem dX8_place_112 : decode cX8_place 112 = .ok (.aload_n 0, 1) := by decide +kernel
theorem dX8_place_113 : decode cX8_place 113 = .ok (.iload_n 1, 1) := by decide +kernel
theorem dX8_place_114 : decode cX8_place 114 = .ok (.invokevirtual 94, 3) := by decide +kernel
theorem dX8_place_117 : decode cX8_place 117 = .ok (.istore_n 1, 1) := by decide +kernel
theorem dX8_place_118 : decode cX8_place 118 = .ok (.goto (-84), 3) := by decide +kernel
theorem dX8_place_121 : decode cX8_place 121 = .ok (.aload_n 0, 1) := by decide +kernel
theorem dX8_place_122 : decode cX8_place 122 = .ok (.aload_n 0, 1) := by decide +kernel
theorem dX8_place_123 : decode cX8_place 123 = .ok (.getfield 80, 3) := by decide +kernel
theorem dX8_place_126 : decode cX8_place 126 = .ok (.putfield 101, 3) := by decide +kernel
theorem dX8_place_129 : decode cX8_place 129 = .ok (.aload_n 0, 1) := by decide +kernel
theorem dX8_place_130 : decode cX8_place 130 = .ok (.dup, 1) := by decide +kernel
theorem dX8_place_131 : decode cX8_place 131 = .ok (.getfield 104, 3) := by decide +kernel
theorem dX8_place_134 : decode cX8_place 134 = .ok (.iconst 1, 1) := by decide +kernel
theorem dX8_place_135 : decode cX8_place 135 = .ok (.iadd, 1) := by decide +kernel
theorem dX8_place_136 : decode cX8_place 136 = .ok (.putfield 104, 3) := by decide +kernel
theorem dX8_place_139 : decode cX8_place 139 = .ok (.iconst 0, 1) := by decide +kernel
theorem dX8_place_140 : decode cX8_place 140 = .ok (.istore_n 1, 1) := by decide +kernel
theorem dX8_place_141 : decode cX8_place 141 = .ok (.iload_n 1, 1) := by decide +kernel
theorem dX8_place_142 : decode cX8_place 142 = .ok (.aload_n 0, 1) := by decide +kernel
theorem dX8_place_143 : decode cX8_place 143 = .ok (.getfield 70, 3) := by decide +kernel
theorem dX8_place_146 : decode cX8_place 146 = .ok (.if_icmp .ge 34, 3) := by decide +kernel
theorem dX8_place_149 : decode cX8_place 149 = .ok (.aload_n 0, 1) := by decide +kernel
theorem dX8_place_150 : decode cX8_place 150 = .ok (.getfield 33, 3) := by decide +kernel
theorem dX8_place_153 : decode cX8_place 153 = .ok (.iload_n 1, 1) := by decide +kernel
theorem dX8_place_154 : decode cX8_place 154 = .ok (.aload_n 0, 1) := by decide +kernel
theorem dX8_place_155 : decode cX8_place 155 = .ok (.getfield 29, 3) := by decide +kernel
theorem dX8_place_158 : decode cX8_place 158 = .ok (.iload_n 1, 1) := by decide +kernel
theorem dX8_place_159 : decode cX8_place 159 = .ok (.baload, 1) := by decide +kernel
theorem dX8_place_160 : decode cX8_place 160 = .ok (.ifCond .ne 7, 3) := by decide +kernel
theorem dX8_place_163 : decode cX8_place 163 = .ok (.iconst (-1), 1) := by decide +kernel
theorem dX8_place_164 : decode cX8_place 164 = .ok (.goto 9, 3) := by decide +kernel
theorem dX8_place_167 : decode cX8_place 167 = .ok (.aload_n 0, 1) := by decide +kernel
theorem dX8_place_168 : decode cX8_place 168 = .ok (.getfield 29, 3) := by decide +kernel
theorem dX8_place_171 : decode cX8_place 171 = .ok (.iload_n 1, 1) := by decide +kernel
theorem dX8_place_172 : decode cX8_place 172 = .ok (.baload, 1) := by decide +kernel
theorem dX8_place_173 : decode cX8_place 173 = .ok (.bastore, 1) := by decide +kernel
theorem dX8_place_174 : decode cX8_place 174 = .ok (.iinc 1 1, 3) := by decide +kernel
theorem dX8_place_177 : decode cX8_place 177 = .ok (.goto (-36), 3) := by decide +kernel
theorem dX8_place_180 : decode cX8_place 180 = .ok (.iconst 1, 1) := by decide +kernel
theorem dX8_place_181 : decode cX8_place 181 = .ok (.istore_n 1, 1) := by decide +kernel
theorem dX8_place_182 : decode cX8_place 182 = .ok (.iload_n 1, 1) := by decide +kernel
theorem dX8_place_183 : decode cX8_place 183 = .ok (.aload_n 0, 1) := by decide +kernel
theorem dX8_place_184 : decode cX8_place 184 = .ok (.getfield 80, 3) := by decide +kernel
theorem dX8_place_187 : decode cX8_place 187 = .ok (.if_icmp .gt 50, 3) := by decide +kernel
theorem dX8_place_190 : decode cX8_place 190 = .ok (.aload_n 0, 1) := by decide +kernel
theorem dX8_place_191 : decode cX8_place 191 = .ok (.getfield 36, 3) := by decide +kernel
theorem dX8_place_194 : decode cX8_place 194 = .ok (.iload_n 1, 1) := by decide +kernel
theorem dX8_place_195 : decode cX8_place 195 = .ok (.aload_n 0, 1) := by decide +kernel
theorem dX8_place_196 : decode cX8_place 196 = .ok (.getfield 39, 3) := by decide +kernel
theorem dX8_place_199 : decode cX8_place 199 = .ok (.iload_n 1, 1) := by decide +kernel
theorem dX8_place_200 : decode cX8_place 200 = .ok (.iaload, 1) := by decide +kernel
theorem dX8_place_201 : decode cX8_place 201 = .ok (.iastore, 1) := by decide +kernel
theorem dX8_place_202 : decode cX8_place 202 = .ok (.aload_n 0, 1) := by decide +kernel
theorem dX8_place_203 : decode cX8_place 203 = .ok (.getfield 104, 3) := by decide +kernel
theorem dX8_place_206 : decode cX8_place 206 = .ok (.bipush 50, 2) := by decide +kernel
theorem dX8_place_208 : decode cX8_place 208 = .ok (.if_icmp .gt 23, 3) := by decide +kernel
theorem dX8_place_211 : decode cX8_place 211 = .ok (.aload_n 0, 1) := by decide +kernel
theorem dX8_place_212 : decode cX8_place 212 = .ok (.getfield 42, 3) := by decide +kernel
theorem dX8_place_215 : decode cX8_place 215 = .ok (.bipush 41, 2) := by decide +kernel
theorem dX8_place_217 : decode cX8_place 217 = .ok (.aload_n 0, 1) := by decide +kernel
theorem dX8_place_218 : decode cX8_place 218 = .ok (.getfield 104, 3) := by decide +kernel
theorem dX8_place_221 : decode cX8_place 221 = .ok (.imul, 1) := by decide +kernel
theorem dX8_place_222 : decode cX8_place 222 = .ok (.iload_n 1, 1) := by decide +kernel
theorem dX8_place_223 : decode cX8_place 223 = .ok (.iadd, 1) := by decide +kernel
theorem dX8_place_224 : decode cX8_place 224 = .ok (.aload_n 0, 1) := by decide +kernel
theorem dX8_place_225 : decode cX8_place 225 = .ok (.getfield 39, 3) := by decide +kernel
theorem dX8_place_228 : decode cX8_place 228 = .ok (.iload_n 1, 1) := by decide +kernel
theorem dX8_place_229 : decode cX8_place 229 = .ok (.iaload, 1) := by decide +kernel
theorem dX8_place_230 : decode cX8_place 230 = .ok (.iastore, 1) := by decide +kernel
theorem dX8_place_231 : decode cX8_place 231 = .ok (.iinc 1 1, 3) := by decide +kernel
theorem dX8_place_234 : decode cX8_place 234 = .ok (.goto (-52), 3) := by decide +kernel
theorem dX8_place_237 : decode cX8_place 237 = .ok (.aload_n 0, 1) := by decide +kernel
theorem dX8_place_238 : decode cX8_place 238 = .ok (.getfield 104, 3) := by decide +kernel
theorem dX8_place_241 : decode cX8_place 241 = .ok (.bipush 50, 2) := by decide +kernel
theorem dX8_place_243 : decode cX8_place 243 = .ok (.if_icmp .gt 16, 3) := by decide +kernel
theorem dX8_place_246 : decode cX8_place 246 = .ok (.aload_n 0, 1) := by decide +kernel
theorem dX8_place_247 : decode cX8_place 247 = .ok (.getfield 45, 3) := by decide +kernel
theorem dX8_place_250 : decode cX8_place 250 = .ok (.aload_n 0, 1) := by decide +kernel
theorem dX8_place_251 : decode cX8_place 251 = .ok (.getfield 104, 3) := by decide +kernel
theorem dX8_place_254 : decode cX8_place 254 = .ok (.aload_n 0, 1) := by decide +kernel
theorem dX8_place_255 : decode cX8_place 255 = .ok (.getfield 80, 3) := by decide +kernel
theorem dX8_place_258 : decode cX8_place 258 = .ok (.iastore, 1) := by decide +kernel
theorem dX8_place_259 : decode cX8_place 259 = .ok (.iconst 1, 1) := by decide +kernel
theorem dX8_place_260 : decode cX8_place 260 = .ok (.ireturn, 1) := by decide +kernel
theorem dX8_at_0 : decode cX8_at 0 = .ok (.aload_n 0, 1) := by decide +kernel
theorem dX8_at_1 : decode cX8_at 1 = .ok (.iconst 0, 1) := by decide +kernel
theorem dX8_at_2 : decode cX8_at 2 = .ok (.putfield 74, 3) := by decide +kernel
theorem dX8_at_5 : decode cX8_at 5 = .ok (.iload_n 1, 1) := by decide +kernel
theorem dX8_at_6 : decode cX8_at 6 = .ok (.iconst 1, 1) := by decide +kernel
theorem dX8_at_7 : decode cX8_at 7 = .ok (.if_icmp .lt 11, 3) := by decide +kernel
theorem dX8_at_10 : decode cX8_at 10 = .ok (.iload_n 1, 1) := by decide +kernel
theorem dX8_at_11 : decode cX8_at 11 = .ok (.aload_n 0, 1) := by decide +kernel
theorem dX8_at_12 : decode cX8_at 12 = .ok (.getfield 80, 3) := by decide +kernel
theorem dX8_at_15 : decode cX8_at 15 = .ok (.if_icmp .le 9, 3) := by decide +kernel
theorem dX8_at_18 : decode cX8_at 18 = .ok (.ldc2_w 107, 3) := by decide +kernel
theorem dX8_at_21 : decode cX8_at 21 = .ok (.goto 31, 3) := by decide +kernel
theorem dX8_at_24 : decode cX8_at 24 = .ok (.aload_n 0, 1) := by decide +kernel
theorem dX8_at_25 : decode cX8_at 25 = .ok (.getfield 104, 3) := by decide +kernel
theorem dX8_at_28 : decode cX8_at 28 = .ok (.ifCond .eq 11, 3) := by decide +kernel
theorem dX8_at_31 : decode cX8_at 31 = .ok (.iload_n 1, 1) := by decide +kernel
theorem dX8_at_32 : decode cX8_at 32 = .ok (.aload_n 0, 1) := by decide +kernel
theorem dX8_at_33 : decode cX8_at 33 = .ok (.getfield 101, 3) := by decide +kernel
theorem dX8_at_36 : decode cX8_at 36 = .ok (.if_icmp .le 9, 3) := by decide +kernel
theorem dX8_at_39 : decode cX8_at 39 = .ok (.ldc2_w 109, 3) := by decide +kernel
theorem dX8_at_42 : decode cX8_at 42 = .ok (.goto 10, 3) := by decide +kernel
theorem dX8_at_45 : decode cX8_at 45 = .ok (.aload_n 0, 1) := by decide +kernel
theorem dX8_at_46 : decode cX8_at 46 = .ok (.getfield 36, 3) := by decide +kernel
theorem dX8_at_49 : decode cX8_at 49 = .ok (.iload_n 1, 1) := by decide +kernel
theorem dX8_at_50 : decode cX8_at 50 = .ok (.iaload, 1) := by decide +kernel
theorem dX8_at_51 : decode cX8_at 51 = .ok (.i2l, 1) := by decide +kernel
theorem dX8_at_52 : decode cX8_at 52 = .ok (.lreturn, 1) := by decide +kernel
theorem dX8_cell_0 : decode cX8_cell 0 = .ok (.aload_n 0, 1) := by decide +kernel
theorem dX8_cell_1 : decode cX8_cell 1 = .ok (.lload_n 1, 1) := by decide +kernel
theorem dX8_cell_2 : decode cX8_cell 2 = .ok (.lconst 0, 1) := by decide +kernel
theorem dX8_cell_3 : decode cX8_cell 3 = .ok (.lcmp, 1) := by decide +kernel
theorem dX8_cell_4 : decode cX8_cell 4 = .ok (.ifCond .lt 13, 3) := by decide +kernel
theorem dX8_cell_7 : decode cX8_cell 7 = .ok (.lload_n 1, 1) := by decide +kernel
theorem dX8_cell_8 : decode cX8_cell 8 = .ok (.aload_n 0, 1) := by decide +kernel
theorem dX8_cell_9 : decode cX8_cell 9 = .ok (.getfield 70, 3) := by decide +kernel
theorem dX8_cell_12 : decode cX8_cell 12 = .ok (.i2l, 1) := by decide +kernel
theorem dX8_cell_13 : decode cX8_cell 13 = .ok (.lcmp, 1) := by decide +kernel
theorem dX8_cell_14 : decode cX8_cell 14 = .ok (.ifCond .lt 7, 3) := by decide +kernel
theorem dX8_cell_17 : decode cX8_cell 17 = .ok (.iconst 1, 1) := by decide +kernel
theorem dX8_cell_18 : decode cX8_cell 18 = .ok (.goto 4, 3) := by decide +kernel
theorem dX8_cell_21 : decode cX8_cell 21 = .ok (.iconst 0, 1) := by decide +kernel
theorem dX8_cell_22 : decode cX8_cell 22 = .ok (.putfield 74, 3) := by decide +kernel
theorem dX8_cell_25 : decode cX8_cell 25 = .ok (.aload_n 0, 1) := by decide +kernel
theorem dX8_cell_26 : decode cX8_cell 26 = .ok (.getfield 74, 3) := by decide +kernel
theorem dX8_cell_29 : decode cX8_cell 29 = .ok (.ifCond .le 7, 3) := by decide +kernel
theorem dX8_cell_32 : decode cX8_cell 32 = .ok (.iconst 0, 1) := by decide +kernel
theorem dX8_cell_33 : decode cX8_cell 33 = .ok (.goto 10, 3) := by decide +kernel
theorem dX8_cell_36 : decode cX8_cell 36 = .ok (.aload_n 0, 1) := by decide +kernel
theorem dX8_cell_37 : decode cX8_cell 37 = .ok (.getfield 33, 3) := by decide +kernel
theorem dX8_cell_40 : decode cX8_cell 40 = .ok (.lload_n 1, 1) := by decide +kernel
theorem dX8_cell_41 : decode cX8_cell 41 = .ok (.l2i, 1) := by decide +kernel
theorem dX8_cell_42 : decode cX8_cell 42 = .ok (.baload, 1) := by decide +kernel
theorem dX8_cell_43 : decode cX8_cell 43 = .ok (.ireturn, 1) := by decide +kernel
theorem dX8_moved_0 : decode cX8_moved 0 = .ok (.aload_n 0, 1) := by decide +kernel
theorem dX8_moved_1 : decode cX8_moved 1 = .ok (.iconst 0, 1) := by decide +kernel
theorem dX8_moved_2 : decode cX8_moved 2 = .ok (.putfield 74, 3) := by decide +kernel
theorem dX8_moved_5 : decode cX8_moved 5 = .ok (.iload_n 1, 1) := by decide +kernel
theorem dX8_moved_6 : decode cX8_moved 6 = .ok (.iconst 1, 1) := by decide +kernel
theorem dX8_moved_7 : decode cX8_moved 7 = .ok (.if_icmp .lt 17, 3) := by decide +kernel
theorem dX8_moved_10 : decode cX8_moved 10 = .ok (.iload_n 1, 1) := by decide +kernel
theorem dX8_moved_11 : decode cX8_moved 11 = .ok (.aload_n 0, 1) := by decide +kernel
theorem dX8_moved_12 : decode cX8_moved 12 = .ok (.getfield 104, 3) := by decide +kernel
theorem dX8_moved_15 : decode cX8_moved 15 = .ok (.if_icmp .gt 9, 3) := by decide +kernel
theorem dX8_moved_18 : decode cX8_moved 18 = .ok (.iload_n 1, 1) := by decide +kernel
theorem dX8_moved_19 : decode cX8_moved 19 = .ok (.bipush 50, 2) := by decide +kernel
theorem dX8_moved_21 : decode cX8_moved 21 = .ok (.if_icmp .le 5, 3) := by decide +kernel
theorem dX8_moved_24 : decode cX8_moved 24 = .ok (.iconst (-1), 1) := by decide +kernel
theorem dX8_moved_25 : decode cX8_moved 25 = .ok (.ireturn, 1) := by decide +kernel
theorem dX8_moved_26 : decode cX8_moved 26 = .ok (.iconst 0, 1) := by decide +kernel
theorem dX8_moved_27 : decode cX8_moved 27 = .ok (.istore_n 2, 1) := by decide +kernel
theorem dX8_moved_28 : decode cX8_moved 28 = .ok (.iconst 1, 1) := by decide +kernel
theorem dX8_moved_29 : decode cX8_moved 29 = .ok (.istore_n 3, 1) := by decide +kernel
theorem dX8_moved_30 : decode cX8_moved 30 = .ok (.iload_n 3, 1) := by decide +kernel
theorem dX8_moved_31 : decode cX8_moved 31 = .ok (.aload_n 0, 1) := by decide +kernel
theorem dX8_moved_32 : decode cX8_moved 32 = .ok (.getfield 45, 3) := by decide +kernel
theorem dX8_moved_35 : decode cX8_moved 35 = .ok (.iload_n 1, 1) := by decide +kernel
theorem dX8_moved_36 : decode cX8_moved 36 = .ok (.iaload, 1) := by decide +kernel
theorem dX8_moved_37 : decode cX8_moved 37 = .ok (.if_icmp .gt 37, 3) := by decide +kernel
theorem dX8_moved_40 : decode cX8_moved 40 = .ok (.aload_n 0, 1) := by decide +kernel
theorem dX8_moved_41 : decode cX8_moved 41 = .ok (.getfield 42, 3) := by decide +kernel
theorem dX8_moved_44 : decode cX8_moved 44 = .ok (.bipush 41, 2) := by decide +kernel
theorem dX8_moved_46 : decode cX8_moved 46 = .ok (.iload_n 1, 1) := by decide +kernel
theorem dX8_moved_47 : decode cX8_moved 47 = .ok (.imul, 1) := by decide +kernel
theorem dX8_moved_48 : decode cX8_moved 48 = .ok (.iload_n 3, 1) := by decide +kernel
theorem dX8_moved_49 : decode cX8_moved 49 = .ok (.iadd, 1) := by decide +kernel
theorem dX8_moved_50 : decode cX8_moved 50 = .ok (.iaload, 1) := by decide +kernel
theorem dX8_moved_51 : decode cX8_moved 51 = .ok (.aload_n 0, 1) := by decide +kernel
theorem dX8_moved_52 : decode cX8_moved 52 = .ok (.getfield 36, 3) := by decide +kernel
theorem dX8_moved_55 : decode cX8_moved 55 = .ok (.iload_n 3, 1) := by decide +kernel
theorem dX8_moved_56 : decode cX8_moved 56 = .ok (.iaload, 1) := by decide +kernel
theorem dX8_moved_57 : decode cX8_moved 57 = .ok (.if_icmp .eq 9, 3) := by decide +kernel
theorem dX8_moved_60 : decode cX8_moved 60 = .ok (.iload_n 2, 1) := by decide +kernel
theorem dX8_moved_61 : decode cX8_moved 61 = .ok (.iconst 1, 1) := by decide +kernel
theorem dX8_moved_62 : decode cX8_moved 62 = .ok (.iadd, 1) := by decide +kernel
theorem dX8_moved_63 : decode cX8_moved 63 = .ok (.goto 4, 3) := by decide +kernel
theorem dX8_moved_66 : decode cX8_moved 66 = .ok (.iload_n 2, 1) := by decide +kernel
theorem dX8_moved_67 : decode cX8_moved 67 = .ok (.istore_n 2, 1) := by decide +kernel
theorem dX8_moved_68 : decode cX8_moved 68 = .ok (.iinc 3 1, 3) := by decide +kernel
theorem dX8_moved_71 : decode cX8_moved 71 = .ok (.goto (-41), 3) := by decide +kernel
theorem dX8_moved_74 : decode cX8_moved 74 = .ok (.iload_n 2, 1) := by decide +kernel
theorem dX8_moved_75 : decode cX8_moved 75 = .ok (.ireturn, 1) := by decide +kernel
theorem dX8_call_0 : decode cX8_call 0 = .ok (.aload_n 0, 1) := by decide +kernel
theorem dX8_call_1 : decode cX8_call 1 = .ok (.iconst 0, 1) := by decide +kernel
theorem dX8_call_2 : decode cX8_call 2 = .ok (.putfield 74, 3) := by decide +kernel
theorem dX8_call_5 : decode cX8_call 5 = .ok (.iload_n 1, 1) := by decide +kernel
theorem dX8_call_6 : decode cX8_call 6 = .ok (.iconst 1, 1) := by decide +kernel
theorem dX8_call_7 : decode cX8_call 7 = .ok (.if_icmp .lt 19, 3) := by decide +kernel
theorem dX8_call_10 : decode cX8_call 10 = .ok (.iload_n 1, 1) := by decide +kernel
theorem dX8_call_11 : decode cX8_call 11 = .ok (.bipush 30, 2) := by decide +kernel
theorem dX8_call_13 : decode cX8_call 13 = .ok (.if_icmp .gt 13, 3) := by decide +kernel
theorem dX8_call_16 : decode cX8_call 16 = .ok (.iload_n 2, 1) := by decide +kernel
theorem dX8_call_17 : decode cX8_call 17 = .ok (.ifCond .lt 9, 3) := by decide +kernel
theorem dX8_call_20 : decode cX8_call 20 = .ok (.iload_n 2, 1) := by decide +kernel
theorem dX8_call_21 : decode cX8_call 21 = .ok (.bipush 30, 2) := by decide +kernel
theorem dX8_call_23 : decode cX8_call 23 = .ok (.if_icmp .le 5, 3) := by decide +kernel
theorem dX8_call_26 : decode cX8_call 26 = .ok (.iconst (-1), 1) := by decide +kernel
theorem dX8_call_27 : decode cX8_call 27 = .ok (.ireturn, 1) := by decide +kernel
theorem dX8_call_28 : decode cX8_call 28 = .ok (.lload_n 3, 1) := by decide +kernel
theorem dX8_call_29 : decode cX8_call 29 = .ok (.lconst 0, 1) := by decide +kernel
theorem dX8_call_30 : decode cX8_call 30 = .ok (.lcmp, 1) := by decide +kernel
theorem dX8_call_31 : decode cX8_call 31 = .ok (.ifCond .lt 11, 3) := by decide +kernel
theorem dX8_call_34 : decode cX8_call 34 = .ok (.lload_n 3, 1) := by decide +kernel
theorem dX8_call_35 : decode cX8_call 35 = .ok (.ldc2_w 111, 3) := by decide +kernel
theorem dX8_call_38 : decode cX8_call 38 = .ok (.lcmp, 1) := by decide +kernel
theorem dX8_call_39 : decode cX8_call 39 = .ok (.ifCond .le 6, 3) := by decide +kernel
theorem dX8_call_42 : decode cX8_call 42 = .ok (.bipush (-2), 2) := by decide +kernel
theorem dX8_call_44 : decode cX8_call 44 = .ok (.ireturn, 1) := by decide +kernel
theorem dX8_call_45 : decode cX8_call 45 = .ok (.aload_n 0, 1) := by decide +kernel
theorem dX8_call_46 : decode cX8_call 46 = .ok (.getfield 48, 3) := by decide +kernel
theorem dX8_call_49 : decode cX8_call 49 = .ok (.iload_n 1, 1) := by decide +kernel
theorem dX8_call_50 : decode cX8_call 50 = .ok (.lload_n 3, 1) := by decide +kernel
theorem dX8_call_51 : decode cX8_call 51 = .ok (.lastore, 1) := by decide +kernel
theorem dX8_call_52 : decode cX8_call 52 = .ok (.iload_n 2, 1) := by decide +kernel
theorem dX8_call_53 : decode cX8_call 53 = .ok (.ifCond .le 15, 3) := by decide +kernel
theorem dX8_call_56 : decode cX8_call 56 = .ok (.aload_n 0, 1) := by decide +kernel
theorem dX8_call_57 : decode cX8_call 57 = .ok (.getfield 52, 3) := by decide +kernel
theorem dX8_call_60 : decode cX8_call 60 = .ok (.bipush 31, 2) := by decide +kernel
theorem dX8_call_62 : decode cX8_call 62 = .ok (.iload_n 1, 1) := by decide +kernel
theorem dX8_call_63 : decode cX8_call 63 = .ok (.imul, 1) := by decide +kernel
theorem dX8_call_64 : decode cX8_call 64 = .ok (.iload_n 2, 1) := by decide +kernel
theorem dX8_call_65 : decode cX8_call 65 = .ok (.iadd, 1) := by decide +kernel
theorem dX8_call_66 : decode cX8_call 66 = .ok (.iconst 1, 1) := by decide +kernel
theorem dX8_call_67 : decode cX8_call 67 = .ok (.bastore, 1) := by decide +kernel
theorem dX8_call_68 : decode cX8_call 68 = .ok (.iconst 0, 1) := by decide +kernel
theorem dX8_call_69 : decode cX8_call 69 = .ok (.istore 5, 2) := by decide +kernel
theorem dX8_call_71 : decode cX8_call 71 = .ok (.iconst 1, 1) := by decide +kernel
theorem dX8_call_72 : decode cX8_call 72 = .ok (.istore 6, 2) := by decide +kernel
theorem dX8_call_74 : decode cX8_call 74 = .ok (.iload 6, 2) := by decide +kernel
theorem dX8_call_76 : decode cX8_call 76 = .ok (.bipush 30, 2) := by decide +kernel
theorem dX8_call_78 : decode cX8_call 78 = .ok (.if_icmp .gt 35, 3) := by decide +kernel
theorem dX8_call_81 : decode cX8_call 81 = .ok (.aload_n 0, 1) := by decide +kernel
theorem dX8_call_82 : decode cX8_call 82 = .ok (.getfield 52, 3) := by decide +kernel
theorem dX8_call_85 : decode cX8_call 85 = .ok (.bipush 31, 2) := by decide +kernel
theorem dX8_call_87 : decode cX8_call 87 = .ok (.iload_n 1, 1) := by decide +kernel
theorem dX8_call_88 : decode cX8_call 88 = .ok (.imul, 1) := by decide +kernel
theorem dX8_call_89 : decode cX8_call 89 = .ok (.iload 6, 2) := by decide +kernel
theorem dX8_call_91 : decode cX8_call 91 = .ok (.iadd, 1) := by decide +kernel
theorem dX8_call_92 : decode cX8_call 92 = .ok (.baload, 1) := by decide +kernel
theorem dX8_call_93 : decode cX8_call 93 = .ok (.ifCond .eq 10, 3) := by decide +kernel
theorem dX8_call_96 : decode cX8_call 96 = .ok (.iload 5, 2) := by decide +kernel
theorem dX8_call_98 : decode cX8_call 98 = .ok (.iconst 1, 1) := by decide +kernel
theorem dX8_call_99 : decode cX8_call 99 = .ok (.iadd, 1) := by decide +kernel
theorem dX8_call_100 : decode cX8_call 100 = .ok (.goto 5, 3) := by decide +kernel
theorem dX8_call_103 : decode cX8_call 103 = .ok (.iload 5, 2) := by decide +kernel
theorem dX8_call_105 : decode cX8_call 105 = .ok (.istore 5, 2) := by decide +kernel
theorem dX8_call_107 : decode cX8_call 107 = .ok (.iinc 6 1, 3) := by decide +kernel
theorem dX8_call_110 : decode cX8_call 110 = .ok (.goto (-36), 3) := by decide +kernel
theorem dX8_call_113 : decode cX8_call 113 = .ok (.iload 5, 2) := by decide +kernel
theorem dX8_call_115 : decode cX8_call 115 = .ok (.ireturn, 1) := by decide +kernel
theorem dX8_reckon_0 : decode cX8_reckon 0 = .ok (.lconst 0, 1) := by decide +kernel
theorem dX8_reckon_1 : decode cX8_reckon 1 = .ok (.lstore_n 2, 1) := by decide +kernel
theorem dX8_reckon_2 : decode cX8_reckon 2 = .ok (.iconst 1, 1) := by decide +kernel
theorem dX8_reckon_3 : decode cX8_reckon 3 = .ok (.istore 4, 2) := by decide +kernel
theorem dX8_reckon_5 : decode cX8_reckon 5 = .ok (.iload 4, 2) := by decide +kernel
theorem dX8_reckon_7 : decode cX8_reckon 7 = .ok (.bipush 30, 2) := by decide +kernel
theorem dX8_reckon_9 : decode cX8_reckon 9 = .ok (.if_icmp .gt 64, 3) := by decide +kernel
theorem dX8_reckon_12 : decode cX8_reckon 12 = .ok (.aload_n 0, 1) := by decide +kernel
theorem dX8_reckon_13 : decode cX8_reckon 13 = .ok (.getfield 52, 3) := by decide +kernel
theorem dX8_reckon_16 : decode cX8_reckon 16 = .ok (.bipush 31, 2) := by decide +kernel
theorem dX8_reckon_18 : decode cX8_reckon 18 = .ok (.iload_n 1, 1) := by decide +kernel
theorem dX8_reckon_19 : decode cX8_reckon 19 = .ok (.imul, 1) := by decide +kernel
theorem dX8_reckon_20 : decode cX8_reckon 20 = .ok (.iload 4, 2) := by decide +kernel
theorem dX8_reckon_22 : decode cX8_reckon 22 = .ok (.iadd, 1) := by decide +kernel
theorem dX8_reckon_23 : decode cX8_reckon 23 = .ok (.baload, 1) := by decide +kernel
theorem dX8_reckon_24 : decode cX8_reckon 24 = .ok (.ifCond .eq 43, 3) := by decide +kernel
theorem dX8_reckon_27 : decode cX8_reckon 27 = .ok (.aload_n 0, 1) := by decide +kernel
theorem dX8_reckon_28 : decode cX8_reckon 28 = .ok (.getfield 56, 3) := by decide +kernel
theorem dX8_reckon_31 : decode cX8_reckon 31 = .ok (.iload 4, 2) := by decide +kernel
theorem dX8_reckon_33 : decode cX8_reckon 33 = .ok (.laload, 1) := by decide +kernel
theorem dX8_reckon_34 : decode cX8_reckon 34 = .ok (.lconst 0, 1) := by decide +kernel
theorem dX8_reckon_35 : decode cX8_reckon 35 = .ok (.lcmp, 1) := by decide +kernel
theorem dX8_reckon_36 : decode cX8_reckon 36 = .ok (.ifCond .ge 7, 3) := by decide +kernel
theorem dX8_reckon_39 : decode cX8_reckon 39 = .ok (.ldc2_w 107, 3) := by decide +kernel
theorem dX8_reckon_42 : decode cX8_reckon 42 = .ok (.lreturn, 1) := by decide +kernel
theorem dX8_reckon_43 : decode cX8_reckon 43 = .ok (.aload_n 0, 1) := by decide +kernel
theorem dX8_reckon_44 : decode cX8_reckon 44 = .ok (.getfield 56, 3) := by decide +kernel
theorem dX8_reckon_47 : decode cX8_reckon 47 = .ok (.iload 4, 2) := by decide +kernel
theorem dX8_reckon_49 : decode cX8_reckon 49 = .ok (.laload, 1) := by decide +kernel
theorem dX8_reckon_50 : decode cX8_reckon 50 = .ok (.lload_n 2, 1) := by decide +kernel
theorem dX8_reckon_51 : decode cX8_reckon 51 = .ok (.lcmp, 1) := by decide +kernel
theorem dX8_reckon_52 : decode cX8_reckon 52 = .ok (.ifCond .le 13, 3) := by decide +kernel
theorem dX8_reckon_55 : decode cX8_reckon 55 = .ok (.aload_n 0, 1) := by decide +kernel
theorem dX8_reckon_56 : decode cX8_reckon 56 = .ok (.getfield 56, 3) := by decide +kernel
theorem dX8_reckon_59 : decode cX8_reckon 59 = .ok (.iload 4, 2) := by decide +kernel
theorem dX8_reckon_61 : decode cX8_reckon 61 = .ok (.laload, 1) := by decide +kernel
theorem dX8_reckon_62 : decode cX8_reckon 62 = .ok (.goto 4, 3) := by decide +kernel
theorem dX8_reckon_65 : decode cX8_reckon 65 = .ok (.lload_n 2, 1) := by decide +kernel
theorem dX8_reckon_66 : decode cX8_reckon 66 = .ok (.lstore_n 2, 1) := by decide +kernel
theorem dX8_reckon_67 : decode cX8_reckon 67 = .ok (.iinc 4 1, 3) := by decide +kernel
theorem dX8_reckon_70 : decode cX8_reckon 70 = .ok (.goto (-65), 3) := by decide +kernel
theorem dX8_reckon_73 : decode cX8_reckon 73 = .ok (.lload_n 2, 1) := by decide +kernel
theorem dX8_reckon_74 : decode cX8_reckon 74 = .ok (.aload_n 0, 1) := by decide +kernel
theorem dX8_reckon_75 : decode cX8_reckon 75 = .ok (.getfield 48, 3) := by decide +kernel
theorem dX8_reckon_78 : decode cX8_reckon 78 = .ok (.iload_n 1, 1) := by decide +kernel
theorem dX8_reckon_79 : decode cX8_reckon 79 = .ok (.laload, 1) := by decide +kernel
theorem dX8_reckon_80 : decode cX8_reckon 80 = .ok (.ladd, 1) := by decide +kernel
theorem dX8_reckon_81 : decode cX8_reckon 81 = .ok (.lreturn, 1) := by decide +kernel
set_option maxRecDepth 20000 in
theorem ggX8_depth_X8_reckon : GoodIn wsX8_depth wsX8_reckon := goodIn_r _ [9, 10, 3, 4, 11, 12, 13, 14, 15, 16, 17, 18, 19, 20, 21, 22, 23, 24, 25, 26, 27, 28, 29, 30, 31, 32, 33, 34, 35, 36] (by decide +kernel) (by decide +kernel)
set_option maxRecDepth 20000 in
theorem gX8_depth_X8_reckon : GoodIn wsX8_depth (wsV RX8 115 RX8 yX8_reckon wsX8_reckon) := goodIn_app (goodIn_of _ (by decide +kernel)) ggX8_depth_X8_reckon
theorem dX8_depth_0 : decode cX8_depth 0 = .ok (.aload_n 0, 1) := by decide +kernel
theorem dX8_depth_1 : decode cX8_depth 1 = .ok (.iconst 0, 1) := by decide +kernel
theorem dX8_depth_2 : decode cX8_depth 2 = .ok (.putfield 74, 3) := by decide +kernel
theorem dX8_depth_5 : decode cX8_depth 5 = .ok (.iload_n 1, 1) := by decide +kernel
theorem dX8_depth_6 : decode cX8_depth 6 = .ok (.iconst 1, 1) := by decide +kernel
theorem dX8_depth_7 : decode cX8_depth 7 = .ok (.if_icmp .lt 9, 3) := by decide +kernel
theorem dX8_depth_10 : decode cX8_depth 10 = .ok (.iload_n 1, 1) := by decide +kernel
theorem dX8_depth_11 : decode cX8_depth 11 = .ok (.bipush 30, 2) := by decide +kernel
theorem dX8_depth_13 : decode cX8_depth 13 = .ok (.if_icmp .le 7, 3) := by decide +kernel
theorem dX8_depth_16 : decode cX8_depth 16 = .ok (.ldc2_w 113, 3) := by decide +kernel
theorem dX8_depth_19 : decode cX8_depth 19 = .ok (.lreturn, 1) := by decide +kernel
theorem dX8_depth_20 : decode cX8_depth 20 = .ok (.iconst 1, 1) := by decide +kernel
theorem dX8_depth_21 : decode cX8_depth 21 = .ok (.istore_n 2, 1) := by decide +kernel
theorem dX8_depth_22 : decode cX8_depth 22 = .ok (.iload_n 2, 1) := by decide +kernel
theorem dX8_depth_23 : decode cX8_depth 23 = .ok (.bipush 30, 2) := by decide +kernel
theorem dX8_depth_25 : decode cX8_depth 25 = .ok (.if_icmp .gt 18, 3) := by decide +kernel
theorem dX8_depth_28 : decode cX8_depth 28 = .ok (.aload_n 0, 1) := by decide +kernel
theorem dX8_depth_29 : decode cX8_depth 29 = .ok (.getfield 56, 3) := by decide +kernel
theorem dX8_depth_32 : decode cX8_depth 32 = .ok (.iload_n 2, 1) := by decide +kernel
theorem dX8_depth_33 : decode cX8_depth 33 = .ok (.ldc2_w 107, 3) := by decide +kernel
theorem dX8_depth_36 : decode cX8_depth 36 = .ok (.lastore, 1) := by decide +kernel
theorem dX8_depth_37 : decode cX8_depth 37 = .ok (.iinc 2 1, 3) := by decide +kernel
theorem dX8_depth_40 : decode cX8_depth 40 = .ok (.goto (-18), 3) := by decide +kernel
theorem dX8_depth_43 : decode cX8_depth 43 = .ok (.iconst 0, 1) := by decide +kernel
theorem dX8_depth_44 : decode cX8_depth 44 = .ok (.istore_n 2, 1) := by decide +kernel
theorem dX8_depth_45 : decode cX8_depth 45 = .ok (.iload_n 2, 1) := by decide +kernel
theorem dX8_depth_46 : decode cX8_depth 46 = .ok (.bipush 30, 2) := by decide +kernel
theorem dX8_depth_48 : decode cX8_depth 48 = .ok (.if_icmp .ge 54, 3) := by decide +kernel
theorem dX8_depth_51 : decode cX8_depth 51 = .ok (.iconst 1, 1) := by decide +kernel
theorem dX8_depth_52 : decode cX8_depth 52 = .ok (.istore_n 3, 1) := by decide +kernel
theorem dX8_depth_53 : decode cX8_depth 53 = .ok (.iload_n 3, 1) := by decide +kernel
theorem dX8_depth_54 : decode cX8_depth 54 = .ok (.bipush 30, 2) := by decide +kernel
theorem dX8_depth_56 : decode cX8_depth 56 = .ok (.if_icmp .gt 40, 3) := by decide +kernel
theorem dX8_depth_59 : decode cX8_depth 59 = .ok (.aload_n 0, 1) := by decide +kernel
theorem dX8_depth_60 : decode cX8_depth 60 = .ok (.getfield 56, 3) := by decide +kernel
theorem dX8_depth_63 : decode cX8_depth 63 = .ok (.iload_n 3, 1) := by decide +kernel
theorem dX8_depth_64 : decode cX8_depth 64 = .ok (.aload_n 0, 1) := by decide +kernel
theorem dX8_depth_65 : decode cX8_depth 65 = .ok (.getfield 56, 3) := by decide +kernel
theorem dX8_depth_68 : decode cX8_depth 68 = .ok (.iload_n 3, 1) := by decide +kernel
theorem dX8_depth_69 : decode cX8_depth 69 = .ok (.laload, 1) := by decide +kernel
theorem dX8_depth_70 : decode cX8_depth 70 = .ok (.lconst 0, 1) := by decide +kernel
theorem dX8_depth_71 : decode cX8_depth 71 = .ok (.lcmp, 1) := by decide +kernel
theorem dX8_depth_72 : decode cX8_depth 72 = .ok (.ifCond .ge 11, 3) := by decide +kernel
theorem dX8_depth_75 : decode cX8_depth 75 = .ok (.aload_n 0, 1) := by decide +kernel
theorem dX8_depth_76 : decode cX8_depth 76 = .ok (.iload_n 3, 1) := by decide +kernel
theorem dX8_depth_77 : decode cX8_depth 77 = .ok (.invokevirtual 115, 3) := by decide +kernel
theorem dX8_depth_80 : decode cX8_depth 80 = .ok (.goto 9, 3) := by decide +kernel
theorem dX8_depth_83 : decode cX8_depth 83 = .ok (.aload_n 0, 1) := by decide +kernel
theorem dX8_depth_84 : decode cX8_depth 84 = .ok (.getfield 56, 3) := by decide +kernel
theorem dX8_depth_87 : decode cX8_depth 87 = .ok (.iload_n 3, 1) := by decide +kernel
theorem dX8_depth_88 : decode cX8_depth 88 = .ok (.laload, 1) := by decide +kernel
theorem dX8_depth_89 : decode cX8_depth 89 = .ok (.lastore, 1) := by decide +kernel
theorem dX8_depth_90 : decode cX8_depth 90 = .ok (.iinc 3 1, 3) := by decide +kernel
theorem dX8_depth_93 : decode cX8_depth 93 = .ok (.goto (-40), 3) := by decide +kernel
theorem dX8_depth_96 : decode cX8_depth 96 = .ok (.iinc 2 1, 3) := by decide +kernel
theorem dX8_depth_99 : decode cX8_depth 99 = .ok (.goto (-54), 3) := by decide +kernel
theorem dX8_depth_102 : decode cX8_depth 102 = .ok (.aload_n 0, 1) := by decide +kernel
theorem dX8_depth_103 : decode cX8_depth 103 = .ok (.getfield 56, 3) := by decide +kernel
theorem dX8_depth_106 : decode cX8_depth 106 = .ok (.iload_n 1, 1) := by decide +kernel
theorem dX8_depth_107 : decode cX8_depth 107 = .ok (.laload, 1) := by decide +kernel
theorem dX8_depth_108 : decode cX8_depth 108 = .ok (.lreturn, 1) := by decide +kernel
set_option maxRecDepth 20000 in
theorem ggX8_block_X8_sum : GoodIn wsX8_block wsX8_sum := goodIn_r _ [10, 4, 11, 12, 13, 14, 9, 15, 16, 17, 18, 19, 20, 21, 22, 23, 24, 25, 26, 27, 28, 29, 30, 31, 32, 33, 34, 35, 36, 37, 38, 39, 40] (by decide +kernel) (by decide +kernel)
set_option maxRecDepth 20000 in
theorem gX8_block_X8_sum : GoodIn wsX8_block (wsV RX8 124 RX8 yX8_sum wsX8_sum) := goodIn_app (goodIn_of _ (by decide +kernel)) ggX8_block_X8_sum
theorem dX8_block_0 : decode cX8_block 0 = .ok (.aload_n 0, 1) := by decide +kernel
theorem dX8_block_1 : decode cX8_block 1 = .ok (.iconst 0, 1) := by decide +kernel
theorem dX8_block_2 : decode cX8_block 2 = .ok (.putfield 74, 3) := by decide +kernel
theorem dX8_block_5 : decode cX8_block 5 = .ok (.lload_n 1, 1) := by decide +kernel
theorem dX8_block_6 : decode cX8_block 6 = .ok (.lconst 1, 1) := by decide +kernel
theorem dX8_block_7 : decode cX8_block 7 = .ok (.lcmp, 1) := by decide +kernel
theorem dX8_block_8 : decode cX8_block 8 = .ok (.ifCond .lt 11, 3) := by decide +kernel
theorem dX8_block_11 : decode cX8_block 11 = .ok (.lload_n 1, 1) := by decide +kernel
theorem dX8_block_12 : decode cX8_block 12 = .ok (.ldc2_w 119, 3) := by decide +kernel
theorem dX8_block_15 : decode cX8_block 15 = .ok (.lcmp, 1) := by decide +kernel
theorem dX8_block_16 : decode cX8_block 16 = .ok (.ifCond .le 6, 3) := by decide +kernel
theorem dX8_block_19 : decode cX8_block 19 = .ok (.bipush (-2), 2) := by decide +kernel
theorem dX8_block_21 : decode cX8_block 21 = .ok (.ireturn, 1) := by decide +kernel
theorem dX8_block_22 : decode cX8_block 22 = .ok (.aload_n 0, 1) := by decide +kernel
theorem dX8_block_23 : decode cX8_block 23 = .ok (.getfield 121, 3) := by decide +kernel
theorem dX8_block_26 : decode cX8_block 26 = .ok (.bipush 20, 2) := by decide +kernel
theorem dX8_block_28 : decode cX8_block 28 = .ok (.if_icmp .ne 6, 3) := by decide +kernel
theorem dX8_block_31 : decode cX8_block 31 = .ok (.bipush (-4), 2) := by decide +kernel
theorem dX8_block_33 : decode cX8_block 33 = .ok (.ireturn, 1) := by decide +kernel
theorem dX8_block_34 : decode cX8_block 34 = .ok (.aload_n 0, 1) := by decide +kernel
theorem dX8_block_35 : decode cX8_block 35 = .ok (.dup, 1) := by decide +kernel
theorem dX8_block_36 : decode cX8_block 36 = .ok (.getfield 121, 3) := by decide +kernel
theorem dX8_block_39 : decode cX8_block 39 = .ok (.iconst 1, 1) := by decide +kernel
theorem dX8_block_40 : decode cX8_block 40 = .ok (.iadd, 1) := by decide +kernel
theorem dX8_block_41 : decode cX8_block 41 = .ok (.putfield 121, 3) := by decide +kernel
theorem dX8_block_44 : decode cX8_block 44 = .ok (.aload_n 0, 1) := by decide +kernel
theorem dX8_block_45 : decode cX8_block 45 = .ok (.getfield 59, 3) := by decide +kernel
theorem dX8_block_48 : decode cX8_block 48 = .ok (.aload_n 0, 1) := by decide +kernel
theorem dX8_block_49 : decode cX8_block 49 = .ok (.getfield 121, 3) := by decide +kernel
theorem dX8_block_52 : decode cX8_block 52 = .ok (.lload_n 1, 1) := by decide +kernel
theorem dX8_block_53 : decode cX8_block 53 = .ok (.l2i, 1) := by decide +kernel
theorem dX8_block_54 : decode cX8_block 54 = .ok (.iastore, 1) := by decide +kernel
theorem dX8_block_55 : decode cX8_block 55 = .ok (.aload_n 0, 1) := by decide +kernel
theorem dX8_block_56 : decode cX8_block 56 = .ok (.getfield 65, 3) := by decide +kernel
theorem dX8_block_59 : decode cX8_block 59 = .ok (.iconst 2, 1) := by decide +kernel
theorem dX8_block_60 : decode cX8_block 60 = .ok (.aload_n 0, 1) := by decide +kernel
theorem dX8_block_61 : decode cX8_block 61 = .ok (.getfield 121, 3) := by decide +kernel
theorem dX8_block_64 : decode cX8_block 64 = .ok (.imul, 1) := by decide +kernel
theorem dX8_block_65 : decode cX8_block 65 = .ok (.aload_n 0, 1) := by decide +kernel
theorem dX8_block_66 : decode cX8_block 66 = .ok (.aload_n 0, 1) := by decide +kernel
theorem dX8_block_67 : decode cX8_block 67 = .ok (.getfield 121, 3) := by decide +kernel
theorem dX8_block_70 : decode cX8_block 70 = .ok (.iconst 0, 1) := by decide +kernel
theorem dX8_block_71 : decode cX8_block 71 = .ok (.invokevirtual 124, 3) := by decide +kernel
theorem dX8_block_74 : decode cX8_block 74 = .ok (.iastore, 1) := by decide +kernel
theorem dX8_block_75 : decode cX8_block 75 = .ok (.aload_n 0, 1) := by decide +kernel
theorem dX8_block_76 : decode cX8_block 76 = .ok (.getfield 65, 3) := by decide +kernel
theorem dX8_block_79 : decode cX8_block 79 = .ok (.iconst 2, 1) := by decide +kernel
theorem dX8_block_80 : decode cX8_block 80 = .ok (.aload_n 0, 1) := by decide +kernel
theorem dX8_block_81 : decode cX8_block 81 = .ok (.getfield 121, 3) := by decide +kernel
theorem dX8_block_84 : decode cX8_block 84 = .ok (.imul, 1) := by decide +kernel
theorem dX8_block_85 : decode cX8_block 85 = .ok (.iconst 1, 1) := by decide +kernel
theorem dX8_block_86 : decode cX8_block 86 = .ok (.iadd, 1) := by decide +kernel
theorem dX8_block_87 : decode cX8_block 87 = .ok (.aload_n 0, 1) := by decide +kernel
theorem dX8_block_88 : decode cX8_block 88 = .ok (.aload_n 0, 1) := by decide +kernel
theorem dX8_block_89 : decode cX8_block 89 = .ok (.getfield 121, 3) := by decide +kernel
theorem dX8_block_92 : decode cX8_block 92 = .ok (.iconst 1, 1) := by decide +kernel
theorem dX8_block_93 : decode cX8_block 93 = .ok (.invokevirtual 124, 3) := by decide +kernel
theorem dX8_block_96 : decode cX8_block 96 = .ok (.iastore, 1) := by decide +kernel
theorem dX8_block_97 : decode cX8_block 97 = .ok (.aload_n 0, 1) := by decide +kernel
theorem dX8_block_98 : decode cX8_block 98 = .ok (.getfield 121, 3) := by decide +kernel
theorem dX8_block_101 : decode cX8_block 101 = .ok (.ireturn, 1) := by decide +kernel
theorem dX8_cell__0 : decode cX8_cell_ 0 = .ok (.bipush 32, 2) := by decide +kernel
theorem dX8_cell__2 : decode cX8_cell_ 2 = .ok (.iconst 2, 1) := by decide +kernel
theorem dX8_cell__3 : decode cX8_cell_ 3 = .ok (.iload_n 0, 1) := by decide +kernel
theorem dX8_cell__4 : decode cX8_cell_ 4 = .ok (.imul, 1) := by decide +kernel
theorem dX8_cell__5 : decode cX8_cell_ 5 = .ok (.iload_n 1, 1) := by decide +kernel
theorem dX8_cell__6 : decode cX8_cell_ 6 = .ok (.iadd, 1) := by decide +kernel
theorem dX8_cell__7 : decode cX8_cell_ 7 = .ok (.imul, 1) := by decide +kernel
theorem dX8_cell__8 : decode cX8_cell_ 8 = .ok (.iload_n 2, 1) := by decide +kernel
theorem dX8_cell__9 : decode cX8_cell_ 9 = .ok (.iadd, 1) := by decide +kernel
theorem dX8_cell__10 : decode cX8_cell_ 10 = .ok (.ireturn, 1) := by decide +kernel
set_option maxRecDepth 20000 in
theorem ggX8_sum_X8_cell_ : GoodIn wsX8_sum wsX8_cell_ := goodIn_r _ [7] (by decide +kernel) (by decide +kernel)
set_option maxRecDepth 20000 in
theorem gX8_sum_X8_cell_ : GoodIn wsX8_sum (va_wsS RX8 127 yX8_cell_ wsX8_cell_) := goodIn_app (goodIn_of _ (by decide +kernel)) ggX8_sum_X8_cell_
theorem dX8_sum_0 : decode cX8_sum 0 = .ok (.iconst 1, 1) := by decide +kernel
theorem dX8_sum_1 : decode cX8_sum 1 = .ok (.istore_n 3, 1) := by decide +kernel
theorem dX8_sum_2 : decode cX8_sum 2 = .ok (.iconst 0, 1) := by decide +kernel
theorem dX8_sum_3 : decode cX8_sum 3 = .ok (.istore 4, 2) := by decide +kernel
theorem dX8_sum_5 : decode cX8_sum 5 = .ok (.iload 4, 2) := by decide +kernel
theorem dX8_sum_7 : decode cX8_sum 7 = .ok (.aload_n 0, 1) := by decide +kernel
theorem dX8_sum_8 : decode cX8_sum 8 = .ok (.getfield 59, 3) := by decide +kernel
theorem dX8_sum_11 : decode cX8_sum 11 = .ok (.iload_n 1, 1) := by decide +kernel
theorem dX8_sum_12 : decode cX8_sum 12 = .ok (.iaload, 1) := by decide +kernel
theorem dX8_sum_13 : decode cX8_sum 13 = .ok (.if_icmp .ge 43, 3) := by decide +kernel
theorem dX8_sum_16 : decode cX8_sum 16 = .ok (.iload_n 3, 1) := by decide +kernel
theorem dX8_sum_17 : decode cX8_sum 17 = .ok (.aload_n 0, 1) := by decide +kernel
theorem dX8_sum_18 : decode cX8_sum 18 = .ok (.getfield 62, 3) := by decide +kernel
theorem dX8_sum_21 : decode cX8_sum 21 = .ok (.iload_n 1, 1) := by decide +kernel
theorem dX8_sum_22 : decode cX8_sum 22 = .ok (.iload_n 2, 1) := by decide +kernel
theorem dX8_sum_23 : decode cX8_sum 23 = .ok (.iload 4, 2) := by decide +kernel
theorem dX8_sum_25 : decode cX8_sum 25 = .ok (.invokestatic 127, 3) := by decide +kernel
theorem dX8_sum_28 : decode cX8_sum 28 = .ok (.baload, 1) := by decide +kernel
theorem dX8_sum_29 : decode cX8_sum 29 = .ok (.sipush 255, 3) := by decide +kernel
theorem dX8_sum_32 : decode cX8_sum 32 = .ok (.iand, 1) := by decide +kernel
theorem dX8_sum_33 : decode cX8_sum 33 = .ok (.ixor, 1) := by decide +kernel
theorem dX8_sum_34 : decode cX8_sum 34 = .ok (.istore 5, 2) := by decide +kernel
theorem dX8_sum_36 : decode cX8_sum 36 = .ok (.iload 5, 2) := by decide +kernel
theorem dX8_sum_38 : decode cX8_sum 38 = .ok (.iconst 5, 1) := by decide +kernel
theorem dX8_sum_39 : decode cX8_sum 39 = .ok (.ishl, 1) := by decide +kernel
theorem dX8_sum_40 : decode cX8_sum 40 = .ok (.iload 5, 2) := by decide +kernel
theorem dX8_sum_42 : decode cX8_sum 42 = .ok (.bipush 27, 2) := by decide +kernel
theorem dX8_sum_44 : decode cX8_sum 44 = .ok (.iushr, 1) := by decide +kernel
theorem dX8_sum_45 : decode cX8_sum 45 = .ok (.ior, 1) := by decide +kernel
theorem dX8_sum_46 : decode cX8_sum 46 = .ok (.ldc 131, 2) := by decide +kernel
theorem dX8_sum_48 : decode cX8_sum 48 = .ok (.imul, 1) := by decide +kernel
theorem dX8_sum_49 : decode cX8_sum 49 = .ok (.istore_n 3, 1) := by decide +kernel
theorem dX8_sum_50 : decode cX8_sum 50 = .ok (.iinc 4 1, 3) := by decide +kernel
theorem dX8_sum_53 : decode cX8_sum 53 = .ok (.goto (-48), 3) := by decide +kernel
theorem dX8_sum_56 : decode cX8_sum 56 = .ok (.iload_n 3, 1) := by decide +kernel
theorem dX8_sum_57 : decode cX8_sum 57 = .ok (.ireturn, 1) := by decide +kernel
theorem dX8_noBlock_0 : decode cX8_noBlock 0 = .ok (.iload_n 1, 1) := by decide +kernel
theorem dX8_noBlock_1 : decode cX8_noBlock 1 = .ok (.iconst 1, 1) := by decide +kernel
theorem dX8_noBlock_2 : decode cX8_noBlock 2 = .ok (.if_icmp .lt 11, 3) := by decide +kernel
theorem dX8_noBlock_5 : decode cX8_noBlock 5 = .ok (.iload_n 1, 1) := by decide +kernel
theorem dX8_noBlock_6 : decode cX8_noBlock 6 = .ok (.aload_n 0, 1) := by decide +kernel
theorem dX8_noBlock_7 : decode cX8_noBlock 7 = .ok (.getfield 121, 3) := by decide +kernel
theorem dX8_noBlock_10 : decode cX8_noBlock 10 = .ok (.if_icmp .le 7, 3) := by decide +kernel
theorem dX8_noBlock_13 : decode cX8_noBlock 13 = .ok (.iconst 1, 1) := by decide +kernel
theorem dX8_noBlock_14 : decode cX8_noBlock 14 = .ok (.goto 4, 3) := by decide +kernel
theorem dX8_noBlock_17 : decode cX8_noBlock 17 = .ok (.iconst 0, 1) := by decide +kernel
theorem dX8_noBlock_18 : decode cX8_noBlock 18 = .ok (.ireturn, 1) := by decide +kernel
set_option maxRecDepth 20000 in
theorem ggX8_write_X8_noBlock : GoodIn wsX8_write wsX8_noBlock := goodIn_r _ [9, 10, 19, 20, 21, 22, 23, 24, 25, 26, 27, 28, 29, 30, 31, 32, 33, 34, 35, 36, 37, 38, 39, 40, 41, 42, 43] (by decide +kernel) (by decide +kernel)
set_option maxRecDepth 20000 in
theorem gX8_write_X8_noBlock : GoodIn wsX8_write (wsV RX8 132 RX8 yX8_noBlock wsX8_noBlock) := goodIn_app (goodIn_of _ (by decide +kernel)) ggX8_write_X8_noBlock
set_option maxRecDepth 20000 in
theorem ggX8_write_X8_cell_ : GoodIn wsX8_write wsX8_cell_ := goodIn_r _ [13] (by decide +kernel) (by decide +kernel)
set_option maxRecDepth 20000 in
theorem gX8_write_X8_cell_ : GoodIn wsX8_write (va_wsS RX8 127 yX8_cell_ wsX8_cell_) := goodIn_app (goodIn_of _ (by decide +kernel)) ggX8_write_X8_cell_
set_option maxRecDepth 20000 in
theorem ggX8_write_X8_sum : GoodIn wsX8_write wsX8_sum := goodIn_r _ [17, 2, 3, 18, 11, 12, 8, 13, 19, 20, 21, 22, 23, 24, 25, 26, 27, 28, 29, 30, 31, 32, 33, 34, 35, 36, 37, 38, 39, 40, 41, 42, 43] (by decide +kernel) (by decide +kernel)
set_option maxRecDepth 20000 in
theorem gX8_write_X8_sum : GoodIn wsX8_write (wsV RX8 124 RX8 yX8_sum wsX8_sum) := goodIn_app (goodIn_of _ (by decide +kernel)) ggX8_write_X8_sum
theorem dX8_write_0 : decode cX8_write 0 = .ok (.aload_n 0, 1) := by decide +kernel
theorem dX8_write_1 : decode cX8_write 1 = .ok (.iconst 0, 1) := by decide +kernel
theorem dX8_write_2 : decode cX8_write 2 = .ok (.putfield 74, 3) := by decide +kernel
theorem dX8_write_5 : decode cX8_write 5 = .ok (.aload_n 0, 1) := by decide +kernel
theorem dX8_write_6 : decode cX8_write 6 = .ok (.iload_n 1, 1) := by decide +kernel
theorem dX8_write_7 : decode cX8_write 7 = .ok (.invokevirtual 132, 3) := by decide +kernel
theorem dX8_write_10 : decode cX8_write 10 = .ok (.ifCond .eq 5, 3) := by decide +kernel
theorem dX8_write_13 : decode cX8_write 13 = .ok (.iconst (-1), 1) := by decide +kernel
theorem dX8_write_14 : decode cX8_write 14 = .ok (.ireturn, 1) := by decide +kernel
theorem dX8_write_15 : decode cX8_write 15 = .ok (.iload_n 2, 1) := by decide +kernel
theorem dX8_write_16 : decode cX8_write 16 = .ok (.ifCond .lt 13, 3) := by decide +kernel
theorem dX8_write_19 : decode cX8_write 19 = .ok (.iload_n 2, 1) := by decide +kernel
theorem dX8_write_20 : decode cX8_write 20 = .ok (.aload_n 0, 1) := by decide +kernel
theorem dX8_write_21 : decode cX8_write 21 = .ok (.getfield 59, 3) := by decide +kernel
theorem dX8_write_24 : decode cX8_write 24 = .ok (.iload_n 1, 1) := by decide +kernel
theorem dX8_write_25 : decode cX8_write 25 = .ok (.iaload, 1) := by decide +kernel
theorem dX8_write_26 : decode cX8_write 26 = .ok (.if_icmp .lt 6, 3) := by decide +kernel
theorem dX8_write_29 : decode cX8_write 29 = .ok (.bipush (-2), 2) := by decide +kernel
theorem dX8_write_31 : decode cX8_write 31 = .ok (.ireturn, 1) := by decide +kernel
theorem dX8_write_32 : decode cX8_write 32 = .ok (.iconst 0, 1) := by decide +kernel
theorem dX8_write_33 : decode cX8_write 33 = .ok (.istore 4, 2) := by decide +kernel
theorem dX8_write_35 : decode cX8_write 35 = .ok (.iload 4, 2) := by decide +kernel
theorem dX8_write_37 : decode cX8_write 37 = .ok (.iconst 2, 1) := by decide +kernel
theorem dX8_write_38 : decode cX8_write 38 = .ok (.if_icmp .ge 40, 3) := by decide +kernel
theorem dX8_write_41 : decode cX8_write 41 = .ok (.aload_n 0, 1) := by decide +kernel
theorem dX8_write_42 : decode cX8_write 42 = .ok (.getfield 62, 3) := by decide +kernel
theorem dX8_write_45 : decode cX8_write 45 = .ok (.iload_n 1, 1) := by decide +kernel
theorem dX8_write_46 : decode cX8_write 46 = .ok (.iload 4, 2) := by decide +kernel
theorem dX8_write_48 : decode cX8_write 48 = .ok (.iload_n 2, 1) := by decide +kernel
theorem dX8_write_49 : decode cX8_write 49 = .ok (.invokestatic 127, 3) := by decide +kernel
theorem dX8_write_52 : decode cX8_write 52 = .ok (.iload_n 3, 1) := by decide +kernel
theorem dX8_write_53 : decode cX8_write 53 = .ok (.bastore, 1) := by decide +kernel
theorem dX8_write_54 : decode cX8_write 54 = .ok (.aload_n 0, 1) := by decide +kernel
theorem dX8_write_55 : decode cX8_write 55 = .ok (.getfield 65, 3) := by decide +kernel
theorem dX8_write_58 : decode cX8_write 58 = .ok (.iconst 2, 1) := by decide +kernel
theorem dX8_write_59 : decode cX8_write 59 = .ok (.iload_n 1, 1) := by decide +kernel
theorem dX8_write_60 : decode cX8_write 60 = .ok (.imul, 1) := by decide +kernel
theorem dX8_write_61 : decode cX8_write 61 = .ok (.iload 4, 2) := by decide +kernel
theorem dX8_write_63 : decode cX8_write 63 = .ok (.iadd, 1) := by decide +kernel
theorem dX8_write_64 : decode cX8_write 64 = .ok (.aload_n 0, 1) := by decide +kernel
theorem dX8_write_65 : decode cX8_write 65 = .ok (.iload_n 1, 1) := by decide +kernel
theorem dX8_write_66 : decode cX8_write 66 = .ok (.iload 4, 2) := by decide +kernel
theorem dX8_write_68 : decode cX8_write 68 = .ok (.invokevirtual 124, 3) := by decide +kernel
theorem dX8_write_71 : decode cX8_write 71 = .ok (.iastore, 1) := by decide +kernel
theorem dX8_write_72 : decode cX8_write 72 = .ok (.iinc 4 1, 3) := by decide +kernel
theorem dX8_write_75 : decode cX8_write 75 = .ok (.goto (-40), 3) := by decide +kernel
theorem dX8_write_78 : decode cX8_write 78 = .ok (.iconst 1, 1) := by decide +kernel
theorem dX8_write_79 : decode cX8_write 79 = .ok (.ireturn, 1) := by decide +kernel
set_option maxRecDepth 20000 in
theorem ggX8_poke_X8_noBlock : GoodIn wsX8_poke wsX8_noBlock := goodIn_r _ [8, 9, 13, 14, 15, 16, 17, 18, 19, 20, 21, 22, 23, 24, 25, 26, 27, 28, 29, 30, 31, 32, 33, 34, 35, 36, 37] (by decide +kernel) (by decide +kernel)
set_option maxRecDepth 20000 in
theorem gX8_poke_X8_noBlock : GoodIn wsX8_poke (wsV RX8 132 RX8 yX8_noBlock wsX8_noBlock) := goodIn_app (goodIn_of _ (by decide +kernel)) ggX8_poke_X8_noBlock
set_option maxRecDepth 20000 in
theorem ggX8_poke_X8_cell_ : GoodIn wsX8_poke wsX8_cell_ := goodIn_r _ [12] (by decide +kernel) (by decide +kernel)
set_option maxRecDepth 20000 in
theorem gX8_poke_X8_cell_ : GoodIn wsX8_poke (va_wsS RX8 127 yX8_cell_ wsX8_cell_) := goodIn_app (goodIn_of _ (by decide +kernel)) ggX8_poke_X8_cell_
theorem dX8_poke_0 : decode cX8_poke 0 = .ok (.aload_n 0, 1) := by decide +kernel
theorem dX8_poke_1 : decode cX8_poke 1 = .ok (.iconst 0, 1) := by decide +kernel
theorem dX8_poke_2 : decode cX8_poke 2 = .ok (.putfield 74, 3) := by decide +kernel
theorem dX8_poke_5 : decode cX8_poke 5 = .ok (.aload_n 0, 1) := by decide +kernel
theorem dX8_poke_6 : decode cX8_poke 6 = .ok (.iload_n 1, 1) := by decide +kernel
theorem dX8_poke_7 : decode cX8_poke 7 = .ok (.invokevirtual 132, 3) := by decide +kernel
theorem dX8_poke_10 : decode cX8_poke 10 = .ok (.ifCond .ne 13, 3) := by decide +kernel
theorem dX8_poke_13 : decode cX8_poke 13 = .ok (.iload_n 2, 1) := by decide +kernel
theorem dX8_poke_14 : decode cX8_poke 14 = .ok (.iconst 1, 1) := by decide +kernel
theorem dX8_poke_15 : decode cX8_poke 15 = .ok (.if_icmp .lt 8, 3) := by decide +kernel
theorem dX8_poke_18 : decode cX8_poke 18 = .ok (.iload_n 2, 1) := by decide +kernel
theorem dX8_poke_19 : decode cX8_poke 19 = .ok (.iconst 2, 1) := by decide +kernel
theorem dX8_poke_20 : decode cX8_poke 20 = .ok (.if_icmp .le 5, 3) := by decide +kernel
theorem dX8_poke_23 : decode cX8_poke 23 = .ok (.iconst (-1), 1) := by decide +kernel
theorem dX8_poke_24 : decode cX8_poke 24 = .ok (.ireturn, 1) := by decide +kernel
theorem dX8_poke_25 : decode cX8_poke 25 = .ok (.iload_n 3, 1) := by decide +kernel
theorem dX8_poke_26 : decode cX8_poke 26 = .ok (.ifCond .lt 13, 3) := by decide +kernel
theorem dX8_poke_29 : decode cX8_poke 29 = .ok (.iload_n 3, 1) := by decide +kernel
theorem dX8_poke_30 : decode cX8_poke 30 = .ok (.aload_n 0, 1) := by decide +kernel
theorem dX8_poke_31 : decode cX8_poke 31 = .ok (.getfield 59, 3) := by decide +kernel
theorem dX8_poke_34 : decode cX8_poke 34 = .ok (.iload_n 1, 1) := by decide +kernel
theorem dX8_poke_35 : decode cX8_poke 35 = .ok (.iaload, 1) := by decide +kernel
theorem dX8_poke_36 : decode cX8_poke 36 = .ok (.if_icmp .lt 6, 3) := by decide +kernel
theorem dX8_poke_39 : decode cX8_poke 39 = .ok (.bipush (-2), 2) := by decide +kernel
theorem dX8_poke_41 : decode cX8_poke 41 = .ok (.ireturn, 1) := by decide +kernel
theorem dX8_poke_42 : decode cX8_poke 42 = .ok (.iload_n 1, 1) := by decide +kernel
theorem dX8_poke_43 : decode cX8_poke 43 = .ok (.iload_n 2, 1) := by decide +kernel
theorem dX8_poke_44 : decode cX8_poke 44 = .ok (.iconst 1, 1) := by decide +kernel
theorem dX8_poke_45 : decode cX8_poke 45 = .ok (.isub, 1) := by decide +kernel
theorem dX8_poke_46 : decode cX8_poke 46 = .ok (.iload_n 3, 1) := by decide +kernel
theorem dX8_poke_47 : decode cX8_poke 47 = .ok (.invokestatic 127, 3) := by decide +kernel
theorem dX8_poke_50 : decode cX8_poke 50 = .ok (.istore 5, 2) := by decide +kernel
theorem dX8_poke_52 : decode cX8_poke 52 = .ok (.aload_n 0, 1) := by decide +kernel
theorem dX8_poke_53 : decode cX8_poke 53 = .ok (.getfield 62, 3) := by decide +kernel
theorem dX8_poke_56 : decode cX8_poke 56 = .ok (.iload 5, 2) := by decide +kernel
theorem dX8_poke_58 : decode cX8_poke 58 = .ok (.aload_n 0, 1) := by decide +kernel
theorem dX8_poke_59 : decode cX8_poke 59 = .ok (.getfield 62, 3) := by decide +kernel
theorem dX8_poke_62 : decode cX8_poke 62 = .ok (.iload 5, 2) := by decide +kernel
theorem dX8_poke_64 : decode cX8_poke 64 = .ok (.baload, 1) := by decide +kernel
theorem dX8_poke_65 : decode cX8_poke 65 = .ok (.iload 4, 2) := by decide +kernel
theorem dX8_poke_67 : decode cX8_poke 67 = .ok (.ixor, 1) := by decide +kernel
theorem dX8_poke_68 : decode cX8_poke 68 = .ok (.i2b, 1) := by decide +kernel
theorem dX8_poke_69 : decode cX8_poke 69 = .ok (.bastore, 1) := by decide +kernel
theorem dX8_poke_70 : decode cX8_poke 70 = .ok (.aload_n 0, 1) := by decide +kernel
theorem dX8_poke_71 : decode cX8_poke 71 = .ok (.getfield 62, 3) := by decide +kernel
theorem dX8_poke_74 : decode cX8_poke 74 = .ok (.iload 5, 2) := by decide +kernel
theorem dX8_poke_76 : decode cX8_poke 76 = .ok (.baload, 1) := by decide +kernel
theorem dX8_poke_77 : decode cX8_poke 77 = .ok (.sipush 255, 3) := by decide +kernel
theorem dX8_poke_80 : decode cX8_poke 80 = .ok (.iand, 1) := by decide +kernel
theorem dX8_poke_81 : decode cX8_poke 81 = .ok (.ireturn, 1) := by decide +kernel
set_option maxRecDepth 20000 in
theorem ggX8_read_X8_noBlock : GoodIn wsX8_read wsX8_noBlock := goodIn_r _ [9, 10, 19, 20, 21, 22, 23, 24, 25, 26, 27, 28, 29, 30, 31, 32, 33, 34, 35, 36, 37, 38, 39, 40, 41, 42, 43] (by decide +kernel) (by decide +kernel)
set_option maxRecDepth 20000 in
theorem gX8_read_X8_noBlock : GoodIn wsX8_read (wsV RX8 132 RX8 yX8_noBlock wsX8_noBlock) := goodIn_app (goodIn_of _ (by decide +kernel)) ggX8_read_X8_noBlock
set_option maxRecDepth 20000 in
theorem ggX8_read_X8_sum : GoodIn wsX8_read wsX8_sum := goodIn_r _ [14, 3, 4, 15, 16, 17, 8, 18, 19, 20, 21, 22, 23, 24, 25, 26, 27, 28, 29, 30, 31, 32, 33, 34, 35, 36, 37, 38, 39, 40, 41, 42, 43] (by decide +kernel) (by decide +kernel)
set_option maxRecDepth 20000 in
theorem gX8_read_X8_sum : GoodIn wsX8_read (wsV RX8 124 RX8 yX8_sum wsX8_sum) := goodIn_app (goodIn_of _ (by decide +kernel)) ggX8_read_X8_sum
set_option maxRecDepth 20000 in
theorem ggX8_read_X8_cell_ : GoodIn wsX8_read wsX8_cell_ := goodIn_r _ [18] (by decide +kernel) (by decide +kernel)
set_option maxRecDepth 20000 in
theorem gX8_read_X8_cell_ : GoodIn wsX8_read (va_wsS RX8 127 yX8_cell_ wsX8_cell_) := goodIn_app (goodIn_of _ (by decide +kernel)) ggX8_read_X8_cell_
theorem dX8_read_0 : decode cX8_read 0 = .ok (.aload_n 0, 1) := by decide +kernel
theorem dX8_read_1 : decode cX8_read 1 = .ok (.iconst 0, 1) := by decide +kernel
theorem dX8_read_2 : decode cX8_read 2 = .ok (.putfield 74, 3) := by decide +kernel
theorem dX8_read_5 : decode cX8_read 5 = .ok (.aload_n 0, 1) := by decide +kernel
theorem dX8_read_6 : decode cX8_read 6 = .ok (.iload_n 1, 1) := by decide +kernel
theorem dX8_read_7 : decode cX8_read 7 = .ok (.invokevirtual 132, 3) := by decide +kernel
theorem dX8_read_10 : decode cX8_read 10 = .ok (.ifCond .eq 5, 3) := by decide +kernel
theorem dX8_read_13 : decode cX8_read 13 = .ok (.iconst (-1), 1) := by decide +kernel
theorem dX8_read_14 : decode cX8_read 14 = .ok (.ireturn, 1) := by decide +kernel
theorem dX8_read_15 : decode cX8_read 15 = .ok (.aload_n 0, 1) := by decide +kernel
theorem dX8_read_16 : decode cX8_read 16 = .ok (.getfield 65, 3) := by decide +kernel
theorem dX8_read_19 : decode cX8_read 19 = .ok (.iconst 2, 1) := by decide +kernel
theorem dX8_read_20 : decode cX8_read 20 = .ok (.iload_n 1, 1) := by decide +kernel
theorem dX8_read_21 : decode cX8_read 21 = .ok (.imul, 1) := by decide +kernel
theorem dX8_read_22 : decode cX8_read 22 = .ok (.iaload, 1) := by decide +kernel
theorem dX8_read_23 : decode cX8_read 23 = .ok (.aload_n 0, 1) := by decide +kernel
theorem dX8_read_24 : decode cX8_read 24 = .ok (.iload_n 1, 1) := by decide +kernel
theorem dX8_read_25 : decode cX8_read 25 = .ok (.iconst 0, 1) := by decide +kernel
theorem dX8_read_26 : decode cX8_read 26 = .ok (.invokevirtual 124, 3) := by decide +kernel
theorem dX8_read_29 : decode cX8_read 29 = .ok (.if_icmp .ne 7, 3) := by decide +kernel
theorem dX8_read_32 : decode cX8_read 32 = .ok (.iconst 1, 1) := by decide +kernel
theorem dX8_read_33 : decode cX8_read 33 = .ok (.goto 27, 3) := by decide +kernel
theorem dX8_read_36 : decode cX8_read 36 = .ok (.aload_n 0, 1) := by decide +kernel
theorem dX8_read_37 : decode cX8_read 37 = .ok (.getfield 65, 3) := by decide +kernel
theorem dX8_read_40 : decode cX8_read 40 = .ok (.iconst 2, 1) := by decide +kernel
theorem dX8_read_41 : decode cX8_read 41 = .ok (.iload_n 1, 1) := by decide +kernel
theorem dX8_read_42 : decode cX8_read 42 = .ok (.imul, 1) := by decide +kernel
theorem dX8_read_43 : decode cX8_read 43 = .ok (.iconst 1, 1) := by decide +kernel
theorem dX8_read_44 : decode cX8_read 44 = .ok (.iadd, 1) := by decide +kernel
theorem dX8_read_45 : decode cX8_read 45 = .ok (.iaload, 1) := by decide +kernel
theorem dX8_read_46 : decode cX8_read 46 = .ok (.aload_n 0, 1) := by decide +kernel
theorem dX8_read_47 : decode cX8_read 47 = .ok (.iload_n 1, 1) := by decide +kernel
theorem dX8_read_48 : decode cX8_read 48 = .ok (.iconst 1, 1) := by decide +kernel
theorem dX8_read_49 : decode cX8_read 49 = .ok (.invokevirtual 124, 3) := by decide +kernel
theorem dX8_read_52 : decode cX8_read 52 = .ok (.if_icmp .ne 7, 3) := by decide +kernel
theorem dX8_read_55 : decode cX8_read 55 = .ok (.iconst 2, 1) := by decide +kernel
theorem dX8_read_56 : decode cX8_read 56 = .ok (.goto 4, 3) := by decide +kernel
theorem dX8_read_59 : decode cX8_read 59 = .ok (.iconst 0, 1) := by decide +kernel
theorem dX8_read_60 : decode cX8_read 60 = .ok (.istore_n 2, 1) := by decide +kernel
theorem dX8_read_61 : decode cX8_read 61 = .ok (.iconst 0, 1) := by decide +kernel
theorem dX8_read_62 : decode cX8_read 62 = .ok (.istore_n 3, 1) := by decide +kernel
theorem dX8_read_63 : decode cX8_read 63 = .ok (.iload_n 3, 1) := by decide +kernel
theorem dX8_read_64 : decode cX8_read 64 = .ok (.aload_n 0, 1) := by decide +kernel
theorem dX8_read_65 : decode cX8_read 65 = .ok (.getfield 59, 3) := by decide +kernel
theorem dX8_read_68 : decode cX8_read 68 = .ok (.iload_n 1, 1) := by decide +kernel
theorem dX8_read_69 : decode cX8_read 69 = .ok (.iaload, 1) := by decide +kernel
theorem dX8_read_70 : decode cX8_read 70 = .ok (.if_icmp .ge 58, 3) := by decide +kernel
theorem dX8_read_73 : decode cX8_read 73 = .ok (.iload_n 2, 1) := by decide +kernel
theorem dX8_read_74 : decode cX8_read 74 = .ok (.ifCond .ne 7, 3) := by decide +kernel
theorem dX8_read_77 : decode cX8_read 77 = .ok (.iconst 0, 1) := by decide +kernel
theorem dX8_read_78 : decode cX8_read 78 = .ok (.goto 16, 3) := by decide +kernel
theorem dX8_read_81 : decode cX8_read 81 = .ok (.aload_n 0, 1) := by decide +kernel
theorem dX8_read_82 : decode cX8_read 82 = .ok (.getfield 62, 3) := by decide +kernel
theorem dX8_read_85 : decode cX8_read 85 = .ok (.iload_n 1, 1) := by decide +kernel
theorem dX8_read_86 : decode cX8_read 86 = .ok (.iload_n 2, 1) := by decide +kernel
theorem dX8_read_87 : decode cX8_read 87 = .ok (.iconst 1, 1) := by decide +kernel
theorem dX8_read_88 : decode cX8_read 88 = .ok (.isub, 1) := by decide +kernel
theorem dX8_read_89 : decode cX8_read 89 = .ok (.iload_n 3, 1) := by decide +kernel
theorem dX8_read_90 : decode cX8_read 90 = .ok (.invokestatic 127, 3) := by decide +kernel
theorem dX8_read_93 : decode cX8_read 93 = .ok (.baload, 1) := by decide +kernel
theorem dX8_read_94 : decode cX8_read 94 = .ok (.istore 4, 2) := by decide +kernel
theorem dX8_read_96 : decode cX8_read 96 = .ok (.aload_n 0, 1) := by decide +kernel
theorem dX8_read_97 : decode cX8_read 97 = .ok (.getfield 62, 3) := by decide +kernel
theorem dX8_read_100 : decode cX8_read 100 = .ok (.iload_n 1, 1) := by decide +kernel
theorem dX8_read_101 : decode cX8_read 101 = .ok (.iconst 0, 1) := by decide +kernel
theorem dX8_read_102 : decode cX8_read 102 = .ok (.iload_n 3, 1) := by decide +kernel
theorem dX8_read_103 : decode cX8_read 103 = .ok (.invokestatic 127, 3) := by decide +kernel
theorem dX8_read_106 : decode cX8_read 106 = .ok (.iload 4, 2) := by decide +kernel
theorem dX8_read_108 : decode cX8_read 108 = .ok (.bastore, 1) := by decide +kernel
theorem dX8_read_109 : decode cX8_read 109 = .ok (.aload_n 0, 1) := by decide +kernel
theorem dX8_read_110 : decode cX8_read 110 = .ok (.getfield 62, 3) := by decide +kernel
theorem dX8_read_113 : decode cX8_read 113 = .ok (.iload_n 1, 1) := by decide +kernel
theorem dX8_read_114 : decode cX8_read 114 = .ok (.iconst 1, 1) := by decide +kernel
theorem dX8_read_115 : decode cX8_read 115 = .ok (.iload_n 3, 1) := by decide +kernel
theorem dX8_read_116 : decode cX8_read 116 = .ok (.invokestatic 127, 3) := by decide +kernel
theorem dX8_read_119 : decode cX8_read 119 = .ok (.iload 4, 2) := by decide +kernel
theorem dX8_read_121 : decode cX8_read 121 = .ok (.bastore, 1) := by decide +kernel
theorem dX8_read_122 : decode cX8_read 122 = .ok (.iinc 3 1, 3) := by decide +kernel
theorem dX8_read_125 : decode cX8_read 125 = .ok (.goto (-62), 3) := by decide +kernel
theorem dX8_read_128 : decode cX8_read 128 = .ok (.aload_n 0, 1) := by decide +kernel
theorem dX8_read_129 : decode cX8_read 129 = .ok (.getfield 65, 3) := by decide +kernel
theorem dX8_read_132 : decode cX8_read 132 = .ok (.iconst 2, 1) := by decide +kernel
theorem dX8_read_133 : decode cX8_read 133 = .ok (.iload_n 1, 1) := by decide +kernel
theorem dX8_read_134 : decode cX8_read 134 = .ok (.imul, 1) := by decide +kernel
theorem dX8_read_135 : decode cX8_read 135 = .ok (.aload_n 0, 1) := by decide +kernel
theorem dX8_read_136 : decode cX8_read 136 = .ok (.iload_n 1, 1) := by decide +kernel
theorem dX8_read_137 : decode cX8_read 137 = .ok (.iconst 0, 1) := by decide +kernel
theorem dX8_read_138 : decode cX8_read 138 = .ok (.invokevirtual 124, 3) := by decide +kernel
theorem dX8_read_141 : decode cX8_read 141 = .ok (.iastore, 1) := by decide +kernel
theorem dX8_read_142 : decode cX8_read 142 = .ok (.aload_n 0, 1) := by decide +kernel
theorem dX8_read_143 : decode cX8_read 143 = .ok (.getfield 65, 3) := by decide +kernel
theorem dX8_read_146 : decode cX8_read 146 = .ok (.iconst 2, 1) := by decide +kernel
theorem dX8_read_147 : decode cX8_read 147 = .ok (.iload_n 1, 1) := by decide +kernel
theorem dX8_read_148 : decode cX8_read 148 = .ok (.imul, 1) := by decide +kernel
theorem dX8_read_149 : decode cX8_read 149 = .ok (.iconst 1, 1) := by decide +kernel
theorem dX8_read_150 : decode cX8_read 150 = .ok (.iadd, 1) := by decide +kernel
theorem dX8_read_151 : decode cX8_read 151 = .ok (.aload_n 0, 1) := by decide +kernel
theorem dX8_read_152 : decode cX8_read 152 = .ok (.iload_n 1, 1) := by decide +kernel
theorem dX8_read_153 : decode cX8_read 153 = .ok (.iconst 1, 1) := by decide +kernel
theorem dX8_read_154 : decode cX8_read 154 = .ok (.invokevirtual 124, 3) := by decide +kernel
theorem dX8_read_157 : decode cX8_read 157 = .ok (.iastore, 1) := by decide +kernel
theorem dX8_read_158 : decode cX8_read 158 = .ok (.iload_n 2, 1) := by decide +kernel
theorem dX8_read_159 : decode cX8_read 159 = .ok (.ireturn, 1) := by decide +kernel
end
section
/-! my own rows: numbers as Nat, calls in one row, loops -/
def nF (g : Nat → Nat) : Nat → Int32 := fun k => nI (g k)
theorem nF_at {g : Nat → Nat} {i : Nat} (h : i < 2 ^ 31) : nF g (nI i).toNatClampNeg = nI (g i) := by rw [nI_clamp h]; rfl
theorem nF_upd {g : Nat → Nat} {k x : Nat} : upd (nF g) k (nI x) = nF (va_up g k x) := by
  funext j
  simp only [upd, nF, va_up]
  split <;> rfl
theorem nF_0 : (fun _ => (0 : Int32)) = nF (fun _ => 0) := rfl
def lF (g : Nat → Nat) : Nat → Int64 := fun k => lN (g k)
theorem lF_at {g : Nat → Nat} {i : Nat} (h : i < 2 ^ 31) : lF g (nI i).toNatClampNeg = lN (g i) := by rw [nI_clamp h]; rfl
theorem lF_upd {g : Nat → Nat} {k x : Nat} : vp_updL (lF g) k (lN x) = lF (va_up g k x) := by
  funext j
  simp only [vp_updL, lF, va_up]
  split <;> rfl
theorem r_inc1 (i : Nat) : nI i + Int32.ofInt 1 = nI (i + 1) := nI_1 i
theorem r_dec1 {i : Nat} (h : 0 < i) : nI i + Int32.ofInt (-1) = nI (i - 1) := sb_m1 h
section RR
variable {p : Program} {l : Launch} {e : Env} {R : Room} {s : State} {m : MethodId} {args : Array Value} {below : List Frame} {meth : Method} {c : Code} {H : Heap} {locs : List Loc} {cells slots : Nat} {Q : State → Prop}
variable {cc : ByteArray} {pc : Nat} {ls : Array Slot} {rest : List Value} {D : va_G} {cl : List vw_C} {A : Nat → Prop} {a : Nat} {tys : List (ClassId × FieldType)} {ws : va_W} {H0 : Heap}
-- arithmetic
theorem r_iadd (hx : p.tables.exec = Jvm.exec) (hb : c.code = cc) {x y : Nat} (hdg : decode cc pc = .ok (.iadd, 1)) (k : W p l e R s m args below meth c H locs cells slots Q (F0 m (pc + 1) ls (.int (nI (x + y)) :: rest))) : W p l e R s m args below meth c H locs cells slots Q (F0 m pc ls (.int (nI y) :: .int (nI x) :: rest)) :=
  lv_iadd hx hb hdg (by rw [nI_add]; exact k)
theorem r_isub (hx : p.tables.exec = Jvm.exec) (hb : c.code = cc) {x y : Nat} (h : y ≤ x) (hdg : decode cc pc = .ok (.isub, 1)) (k : W p l e R s m args below meth c H locs cells slots Q (F0 m (pc + 1) ls (.int (nI (x - y)) :: rest))) : W p l e R s m args below meth c H locs cells slots Q (F0 m pc ls (.int (nI y) :: .int (nI x) :: rest)) :=
  lv_isub hx hb hdg (by rw [pk_sub h]; exact k)
theorem r_imul (hx : p.tables.exec = Jvm.exec) (hb : c.code = cc) {x y : Nat} (hdg : decode cc pc = .ok (.imul, 1)) (k : W p l e R s m args below meth c H locs cells slots Q (F0 m (pc + 1) ls (.int (nI (x * y)) :: rest))) : W p l e R s m args below meth c H locs cells slots Q (F0 m pc ls (.int (nI y) :: .int (nI x) :: rest)) :=
  lv_imul hx hb hdg (by rw [pk_mul]; exact k)
theorem r_idiv (hx : p.tables.exec = Jvm.exec) (hb : c.code = cc) {x y : Nat} (h1 : x < 2 ^ 31) (h2 : 0 < y) (h3 : y < 2 ^ 31) (hdg : decode cc pc = .ok (.idiv, 1)) (k : W p l e R s m args below meth c H locs cells slots Q (F0 m (pc + 1) ls (.int (nI (x / y)) :: rest))) : W p l e R s m args below meth c H locs cells slots Q (F0 m pc ls (.int (nI y) :: .int (nI x) :: rest)) :=
  lv_idiv hx hb hdg (nI_ne0 h2 h3) (by rw [pk_div h1 h2 h3]; exact k)
-- compares of two numbers
theorem r_icmp_lt (hx : p.tables.exec = Jvm.exec) (hb : c.code = cc) {x y : Nat} {off : Int} {tgt : Nat} (h1 : x < 2 ^ 31) (h2 : y < 2 ^ 31) (hdg : decode cc pc = .ok (.if_icmp .lt off, 3)) (ht : (pc : Int) + off = (tgt : Int))
    (kt : x < y → W p l e R s m args below meth c H locs cells slots Q (F0 m tgt ls rest)) (kf : y ≤ x → W p l e R s m args below meth c H locs cells slots Q (F0 m (pc + 3) ls rest)) : W p l e R s m args below meth c H locs cells slots Q (F0 m pc ls (.int (nI y) :: .int (nI x) :: rest)) :=
  lv_icmp_lt hx hb hdg ht (fun h => kt ((nI_ltI h1 h2).mp h)) (fun h => kf (Nat.le_of_not_lt fun q => h ((nI_ltI h1 h2).mpr q)))
theorem r_icmp_ge (hx : p.tables.exec = Jvm.exec) (hb : c.code = cc) {x y : Nat} {off : Int} {tgt : Nat} (h1 : x < 2 ^ 31) (h2 : y < 2 ^ 31) (hdg : decode cc pc = .ok (.if_icmp .ge off, 3)) (ht : (pc : Int) + off = (tgt : Int))
    (kt : y ≤ x → W p l e R s m args below meth c H locs cells slots Q (F0 m tgt ls rest)) (kf : x < y → W p l e R s m args below meth c H locs cells slots Q (F0 m (pc + 3) ls rest)) : W p l e R s m args below meth c H locs cells slots Q (F0 m pc ls (.int (nI y) :: .int (nI x) :: rest)) :=
  lv_icmp_ge hx hb hdg ht (fun h => kt ((nI_leI h2 h1).mp h)) (fun h => kf (Nat.lt_of_not_le fun q => h ((nI_leI h2 h1).mpr q)))
theorem r_icmp_gt (hx : p.tables.exec = Jvm.exec) (hb : c.code = cc) {x y : Nat} {off : Int} {tgt : Nat} (h1 : x < 2 ^ 31) (h2 : y < 2 ^ 31) (hdg : decode cc pc = .ok (.if_icmp .gt off, 3)) (ht : (pc : Int) + off = (tgt : Int))
    (kt : y < x → W p l e R s m args below meth c H locs cells slots Q (F0 m tgt ls rest)) (kf : x ≤ y → W p l e R s m args below meth c H locs cells slots Q (F0 m (pc + 3) ls rest)) : W p l e R s m args below meth c H locs cells slots Q (F0 m pc ls (.int (nI y) :: .int (nI x) :: rest)) :=
  lv_icmp_gt hx hb hdg ht (fun h => kt ((nI_ltI h2 h1).mp h)) (fun h => kf (Nat.le_of_not_lt fun q => h ((nI_ltI h2 h1).mpr q)))
theorem r_icmp_le (hx : p.tables.exec = Jvm.exec) (hb : c.code = cc) {x y : Nat} {off : Int} {tgt : Nat} (h1 : x < 2 ^ 31) (h2 : y < 2 ^ 31) (hdg : decode cc pc = .ok (.if_icmp .le off, 3)) (ht : (pc : Int) + off = (tgt : Int))
    (kt : x ≤ y → W p l e R s m args below meth c H locs cells slots Q (F0 m tgt ls rest)) (kf : y < x → W p l e R s m args below meth c H locs cells slots Q (F0 m (pc + 3) ls rest)) : W p l e R s m args below meth c H locs cells slots Q (F0 m pc ls (.int (nI y) :: .int (nI x) :: rest)) :=
  lv_icmp_le hx hb hdg ht (fun h => kt ((nI_leI h1 h2).mp h)) (fun h => kf (Nat.lt_of_not_le fun q => h ((nI_leI h1 h2).mpr q)))
theorem r_icmp_eq (hx : p.tables.exec = Jvm.exec) (hb : c.code = cc) {x y : Nat} {off : Int} {tgt : Nat} (h1 : x < 2 ^ 31) (h2 : y < 2 ^ 31) (hdg : decode cc pc = .ok (.if_icmp .eq off, 3)) (ht : (pc : Int) + off = (tgt : Int))
    (kt : x = y → W p l e R s m args below meth c H locs cells slots Q (F0 m tgt ls rest)) (kf : x ≠ y → W p l e R s m args below meth c H locs cells slots Q (F0 m (pc + 3) ls rest)) : W p l e R s m args below meth c H locs cells slots Q (F0 m pc ls (.int (nI y) :: .int (nI x) :: rest)) :=
  lv_icmp_eq hx hb hdg ht (fun h => kt ((nI_eq h1 h2).mp h)) (fun h => kf (fun q => h ((nI_eq h1 h2).mpr q)))
theorem r_icmp_ne (hx : p.tables.exec = Jvm.exec) (hb : c.code = cc) {x y : Nat} {off : Int} {tgt : Nat} (h1 : x < 2 ^ 31) (h2 : y < 2 ^ 31) (hdg : decode cc pc = .ok (.if_icmp .ne off, 3)) (ht : (pc : Int) + off = (tgt : Int))
    (kt : x ≠ y → W p l e R s m args below meth c H locs cells slots Q (F0 m tgt ls rest)) (kf : x = y → W p l e R s m args below meth c H locs cells slots Q (F0 m (pc + 3) ls rest)) : W p l e R s m args below meth c H locs cells slots Q (F0 m pc ls (.int (nI y) :: .int (nI x) :: rest)) :=
  lv_icmp_ne hx hb hdg ht (fun h => kt (fun q => h ((nI_eq h1 h2).mpr q))) (fun h => kf ((nI_eq h1 h2).mp h))
-- a number against 0
theorem r_if_eq (hx : p.tables.exec = Jvm.exec) (hb : c.code = cc) {x : Nat} {off : Int} {tgt : Nat} (h1 : x < 2 ^ 31) (hdg : decode cc pc = .ok (.ifCond .eq off, 3)) (ht : (pc : Int) + off = (tgt : Int))
    (kt : x = 0 → W p l e R s m args below meth c H locs cells slots Q (F0 m tgt ls rest)) (kf : 0 < x → W p l e R s m args below meth c H locs cells slots Q (F0 m (pc + 3) ls rest)) : W p l e R s m args below meth c H locs cells slots Q (F0 m pc ls (.int (nI x) :: rest)) :=
  lv_if_eq hx hb hdg ht (fun h => kt ((nI_eq h1 (by decide)).mp (h.trans nI_0.symm))) (fun h => kf (Nat.pos_of_ne_zero fun q => h (by rw [q]; exact nI_0)))
theorem r_if_ne (hx : p.tables.exec = Jvm.exec) (hb : c.code = cc) {x : Nat} {off : Int} {tgt : Nat} (h1 : x < 2 ^ 31) (hdg : decode cc pc = .ok (.ifCond .ne off, 3)) (ht : (pc : Int) + off = (tgt : Int))
    (kt : 0 < x → W p l e R s m args below meth c H locs cells slots Q (F0 m tgt ls rest)) (kf : x = 0 → W p l e R s m args below meth c H locs cells slots Q (F0 m (pc + 3) ls rest)) : W p l e R s m args below meth c H locs cells slots Q (F0 m pc ls (.int (nI x) :: rest)) :=
  lv_if_ne hx hb hdg ht (fun h => kt (Nat.pos_of_ne_zero fun q => h (by rw [q]; exact nI_0))) (fun h => kf ((nI_eq h1 (by decide)).mp (h.trans nI_0.symm)))
theorem r_if_le (hx : p.tables.exec = Jvm.exec) (hb : c.code = cc) {x : Nat} {off : Int} {tgt : Nat} (h1 : x < 2 ^ 31) (hdg : decode cc pc = .ok (.ifCond .le off, 3)) (ht : (pc : Int) + off = (tgt : Int))
    (kt : x = 0 → W p l e R s m args below meth c H locs cells slots Q (F0 m tgt ls rest)) (kf : 0 < x → W p l e R s m args below meth c H locs cells slots Q (F0 m (pc + 3) ls rest)) : W p l e R s m args below meth c H locs cells slots Q (F0 m pc ls (.int (nI x) :: rest)) :=
  lv_if_le hx hb hdg ht (fun h => kt (Nat.eq_zero_of_not_pos fun q => nI_nle q h1 h)) (fun h => kf (Nat.pos_of_ne_zero fun q => h (by rw [q, nI_0]; decide)))
theorem r_if_ge (hx : p.tables.exec = Jvm.exec) (hb : c.code = cc) {x : Nat} {off : Int} {tgt : Nat} (h1 : x < 2 ^ 31) (hdg : decode cc pc = .ok (.ifCond .ge off, 3)) (ht : (pc : Int) + off = (tgt : Int))
    (kt : W p l e R s m args below meth c H locs cells slots Q (F0 m tgt ls rest)) : W p l e R s m args below meth c H locs cells slots Q (F0 m pc ls (.int (nI x) :: rest)) :=
  lv_if_ge hx hb hdg ht (fun _ => kt) (fun h => absurd (nI_pos' h1) h)
theorem r_if_lt (hx : p.tables.exec = Jvm.exec) (hb : c.code = cc) {x : Nat} {off : Int} {tgt : Nat} (h1 : x < 2 ^ 31) (hdg : decode cc pc = .ok (.ifCond .lt off, 3)) (ht : (pc : Int) + off = (tgt : Int))
    (kf : W p l e R s m args below meth c H locs cells slots Q (F0 m (pc + 3) ls rest)) : W p l e R s m args below meth c H locs cells slots Q (F0 m pc ls (.int (nI x) :: rest)) :=
  lv_if_lt hx hb hdg ht (fun h => absurd h (nI_pos h1)) (fun _ => kf)
-- int arrays whose contents are numbers
theorem r_iald (hx : p.tables.exec = Jvm.exec) (hb : c.code = cc) (hK : va_K D cl tys s) (hP : va_P D cl ws H) (q0 t0 : Nat) {cA : ClassId} {n : Nat} {g : Nat → Nat} (ha : ws[q0]? = some (a, .inl (cA, n, .inl (nF g)))) (ht : tys[t0]? = some (cA, .int)) {i : Nat} (hi : i < n) (hn : n < 2 ^ 31) (hdg : decode cc pc = .ok (.iaload, 1))
    (kk : W p l e R s m args below meth c H locs cells slots Q (F0 m (pc + 1) ls (.int (nI (g i)) :: rest))) : W p l e R s m args below meth c H locs cells slots Q (F0 m pc ls (.int (nI i) :: .ref a :: rest)) :=
  va_iald hx hb hK hP q0 t0 ha ht (vp_in_nI hi hn) hdg (by rw [nF_at (Nat.lt_trans hi hn)]; exact kk)
theorem r_iast (hx : p.tables.exec = Jvm.exec) (hb : c.code = cc) (hK : va_K D cl tys s) (hP : va_P D cl ws H) (hD : va_D A ws) (hS : va_S A H0 H locs) (q0 t0 : Nat) {cA : ClassId} {n : Nat} {g : Nat → Nat} (ha : ws[q0]? = some (a, .inl (cA, n, .inl (nF g)))) (ht : tys[t0]? = some (cA, .int)) {i x : Nat} (hi : i < n) (hn : n < 2 ^ 31) (hdg : decode cc pc = .ok (.iastore, 1))
    (kk : ∀ (H1 : Heap) (locs1 : List Loc), va_P D cl (ws.set q0 (a, .inl (cA, n, .inl (nF (va_up g i x))))) H1 → va_D A (ws.set q0 (a, .inl (cA, n, .inl (nF (va_up g i x))))) → va_S A H0 H1 locs1 → W p l e R s m args below meth c H1 locs1 cells slots Q (F0 m (pc + 1) ls rest)) : W p l e R s m args below meth c H locs cells slots Q (F0 m pc ls (.int (nI x) :: .int (nI i) :: .ref a :: rest)) :=
  va_iast hx hb hK hP hD hS q0 t0 ha ht (vp_in_nI hi hn) hdg (by rw [nI_clamp (Nat.lt_trans hi hn), nF_upd]; exact kk)
/-- an int array of plain ints, at a number -/
theorem r_ialdI (hx : p.tables.exec = Jvm.exec) (hb : c.code = cc) (hK : va_K D cl tys s) (hP : va_P D cl ws H) (q0 t0 : Nat) {cA : ClassId} {n : Nat} {f : Nat → Int32} (ha : ws[q0]? = some (a, .inl (cA, n, .inl f))) (ht : tys[t0]? = some (cA, .int)) {i : Nat} (hi : i < n) (hn : n < 2 ^ 31) (hdg : decode cc pc = .ok (.iaload, 1))
    (kk : W p l e R s m args below meth c H locs cells slots Q (F0 m (pc + 1) ls (.int (f i) :: rest))) : W p l e R s m args below meth c H locs cells slots Q (F0 m pc ls (.int (nI i) :: .ref a :: rest)) :=
  va_iald hx hb hK hP q0 t0 ha ht (vp_in_nI hi hn) hdg (by rw [nI_clamp (Nat.lt_trans hi hn)]; exact kk)
theorem r_iastI (hx : p.tables.exec = Jvm.exec) (hb : c.code = cc) (hK : va_K D cl tys s) (hP : va_P D cl ws H) (hD : va_D A ws) (hS : va_S A H0 H locs) (q0 t0 : Nat) {cA : ClassId} {n : Nat} {f : Nat → Int32} (ha : ws[q0]? = some (a, .inl (cA, n, .inl f))) (ht : tys[t0]? = some (cA, .int)) {i : Nat} {x : Int32} (hi : i < n) (hn : n < 2 ^ 31) (hdg : decode cc pc = .ok (.iastore, 1))
    (kk : ∀ (H1 : Heap) (locs1 : List Loc), va_P D cl (ws.set q0 (a, .inl (cA, n, .inl (upd f i x)))) H1 → va_D A (ws.set q0 (a, .inl (cA, n, .inl (upd f i x)))) → va_S A H0 H1 locs1 → W p l e R s m args below meth c H1 locs1 cells slots Q (F0 m (pc + 1) ls rest)) : W p l e R s m args below meth c H locs cells slots Q (F0 m pc ls (.int x :: .int (nI i) :: .ref a :: rest)) :=
  va_iast hx hb hK hP hD hS q0 t0 ha ht (vp_in_nI hi hn) hdg (by rw [nI_clamp (Nat.lt_trans hi hn)]; exact kk)
theorem r_baldI (hx : p.tables.exec = Jvm.exec) (hb : c.code = cc) (hK : va_K D cl tys s) (hP : va_P D cl ws H) (q0 t0 : Nat) {cA : ClassId} {n : Nat} {f : Nat → Int32} (ha : ws[q0]? = some (a, .inl (cA, n, .inl f))) (ht : tys[t0]? = some (cA, .byte)) {i : Nat} (hi : i < n) (hn : n < 2 ^ 31) (hdg : decode cc pc = .ok (.baload, 1))
    (kk : W p l e R s m args below meth c H locs cells slots Q (F0 m (pc + 1) ls (.int (f i) :: rest))) : W p l e R s m args below meth c H locs cells slots Q (F0 m pc ls (.int (nI i) :: .ref a :: rest)) :=
  va_bald hx hb hK hP q0 t0 ha ht (vp_in_nI hi hn) hdg (by rw [nI_clamp (Nat.lt_trans hi hn)]; exact kk)
theorem r_bastI (hx : p.tables.exec = Jvm.exec) (hb : c.code = cc) (hK : va_K D cl tys s) (hP : va_P D cl ws H) (hD : va_D A ws) (hS : va_S A H0 H locs) (q0 t0 : Nat) {cA : ClassId} {n : Nat} {f : Nat → Int32} (ha : ws[q0]? = some (a, .inl (cA, n, .inl f))) (ht : tys[t0]? = some (cA, .byte)) {i : Nat} {x : Int32} (hi : i < n) (hn : n < 2 ^ 31) (hdg : decode cc pc = .ok (.bastore, 1))
    (kk : ∀ (H1 : Heap) (locs1 : List Loc), va_P D cl (ws.set q0 (a, .inl (cA, n, .inl (upd f i (x.toInt8.toInt32))))) H1 → va_D A (ws.set q0 (a, .inl (cA, n, .inl (upd f i (x.toInt8.toInt32))))) → va_S A H0 H1 locs1 → W p l e R s m args below meth c H1 locs1 cells slots Q (F0 m (pc + 1) ls rest)) : W p l e R s m args below meth c H locs cells slots Q (F0 m pc ls (.int x :: .int (nI i) :: .ref a :: rest)) :=
  va_bast hx hb hK hP hD hS q0 t0 ha ht (vp_in_nI hi hn) hdg (by rw [nI_clamp (Nat.lt_trans hi hn), vp_nar_byte]; exact kk)
-- longs: lcmp with the branch behind it
theorem r_l_lt (hx : p.tables.exec = Jvm.exec) (hb : c.code = cc) {x y : Int64} {off : Int} {tgt : Nat} (hdg : decode cc pc = .ok (.lcmp, 1)) (hd2 : decode cc (pc + 1) = .ok (.ifCond .lt off, 3)) (ht : ((pc + 1 : Nat) : Int) + off = (tgt : Int))
    (kt : x < y → W p l e R s m args below meth c H locs cells slots Q (F0 m tgt ls rest)) (kf : ¬ x < y → W p l e R s m args below meth c H locs cells slots Q (F0 m (pc + 4) ls rest)) : W p l e R s m args below meth c H locs cells slots Q (F0 m pc ls (.long y :: .long x :: rest)) :=
  W.lcmp hx hb hdg (lv_if_lt (tgt := tgt) hx hb hd2 ht (fun h => kt ((lg_cmp_lt _ _).mp h)) (fun h => kf (fun q => h ((lg_cmp_lt _ _).mpr q))))
theorem r_l_gt (hx : p.tables.exec = Jvm.exec) (hb : c.code = cc) {x y : Int64} {off : Int} {tgt : Nat} (hdg : decode cc pc = .ok (.lcmp, 1)) (hd2 : decode cc (pc + 1) = .ok (.ifCond .gt off, 3)) (ht : ((pc + 1 : Nat) : Int) + off = (tgt : Int))
    (kt : y < x → W p l e R s m args below meth c H locs cells slots Q (F0 m tgt ls rest)) (kf : ¬ y < x → W p l e R s m args below meth c H locs cells slots Q (F0 m (pc + 4) ls rest)) : W p l e R s m args below meth c H locs cells slots Q (F0 m pc ls (.long y :: .long x :: rest)) :=
  W.lcmp hx hb hdg (lv_if_gt (tgt := tgt) hx hb hd2 ht (fun h => kt ((lg_cmp_gt _ _).mp h)) (fun h => kf (fun q => h ((lg_cmp_gt _ _).mpr q))))
theorem r_l_ge (hx : p.tables.exec = Jvm.exec) (hb : c.code = cc) {x y : Int64} {off : Int} {tgt : Nat} (hdg : decode cc pc = .ok (.lcmp, 1)) (hd2 : decode cc (pc + 1) = .ok (.ifCond .ge off, 3)) (ht : ((pc + 1 : Nat) : Int) + off = (tgt : Int))
    (kt : y ≤ x → W p l e R s m args below meth c H locs cells slots Q (F0 m tgt ls rest)) (kf : ¬ y ≤ x → W p l e R s m args below meth c H locs cells slots Q (F0 m (pc + 4) ls rest)) : W p l e R s m args below meth c H locs cells slots Q (F0 m pc ls (.long y :: .long x :: rest)) :=
  W.lcmp hx hb hdg (lv_if_ge (tgt := tgt) hx hb hd2 ht (fun h => kt ((lg_cmp_ge _ _).mp h)) (fun h => kf (fun q => h ((lg_cmp_ge _ _).mpr q))))
theorem r_l_le (hx : p.tables.exec = Jvm.exec) (hb : c.code = cc) {x y : Int64} {off : Int} {tgt : Nat} (hdg : decode cc pc = .ok (.lcmp, 1)) (hd2 : decode cc (pc + 1) = .ok (.ifCond .le off, 3)) (ht : ((pc + 1 : Nat) : Int) + off = (tgt : Int))
    (kt : x ≤ y → W p l e R s m args below meth c H locs cells slots Q (F0 m tgt ls rest)) (kf : ¬ x ≤ y → W p l e R s m args below meth c H locs cells slots Q (F0 m (pc + 4) ls rest)) : W p l e R s m args below meth c H locs cells slots Q (F0 m pc ls (.long y :: .long x :: rest)) :=
  W.lcmp hx hb hdg (lv_if_le (tgt := tgt) hx hb hd2 ht (fun h => kt ((lg_cmp_le _ _).mp h)) (fun h => kf (fun q => h ((lg_cmp_le _ _).mpr q))))
theorem r_l_eq (hx : p.tables.exec = Jvm.exec) (hb : c.code = cc) {x y : Int64} {off : Int} {tgt : Nat} (hdg : decode cc pc = .ok (.lcmp, 1)) (hd2 : decode cc (pc + 1) = .ok (.ifCond .eq off, 3)) (ht : ((pc + 1 : Nat) : Int) + off = (tgt : Int))
    (kt : x = y → W p l e R s m args below meth c H locs cells slots Q (F0 m tgt ls rest)) (kf : ¬ x = y → W p l e R s m args below meth c H locs cells slots Q (F0 m (pc + 4) ls rest)) : W p l e R s m args below meth c H locs cells slots Q (F0 m pc ls (.long y :: .long x :: rest)) :=
  W.lcmp hx hb hdg (lv_if_eq (tgt := tgt) hx hb hd2 ht (fun h => kt ((lg_cmp_eq _ _).mp h)) (fun h => kf (fun q => h ((lg_cmp_eq _ _).mpr q))))
theorem r_l_ne (hx : p.tables.exec = Jvm.exec) (hb : c.code = cc) {x y : Int64} {off : Int} {tgt : Nat} (hdg : decode cc pc = .ok (.lcmp, 1)) (hd2 : decode cc (pc + 1) = .ok (.ifCond .ne off, 3)) (ht : ((pc + 1 : Nat) : Int) + off = (tgt : Int))
    (kt : ¬ x = y → W p l e R s m args below meth c H locs cells slots Q (F0 m tgt ls rest)) (kf : x = y → W p l e R s m args below meth c H locs cells slots Q (F0 m (pc + 4) ls rest)) : W p l e R s m args below meth c H locs cells slots Q (F0 m pc ls (.long y :: .long x :: rest)) :=
  W.lcmp hx hb hdg (lv_if_ne (tgt := tgt) hx hb hd2 ht (fun h => kt (fun q => h ((lg_cmp_eq _ _).mpr q))) (fun h => kf ((lg_cmp_eq _ _).mp h)))
theorem r_topi {x y : Int32} (h : x = y) (k : W p l e R s m args below meth c H locs cells slots Q (F0 m pc ls (.int y :: rest))) : W p l e R s m args below meth c H locs cells slots Q (F0 m pc ls (.int x :: rest)) := h ▸ k
theorem r_topl {x y : Int64} (h : x = y) (k : W p l e R s m args below meth c H locs cells slots Q (F0 m pc ls (.long y :: rest))) : W p l e R s m args below meth c H locs cells slots Q (F0 m pc ls (.long x :: rest)) := h ▸ k
theorem r_zaldI (hx : p.tables.exec = Jvm.exec) (hb : c.code = cc) (hK : va_K D cl tys s) (hP : va_P D cl ws H) (q0 t0 : Nat) {cA : ClassId} {n : Nat} {f : Nat → Int32} (ha : ws[q0]? = some (a, .inl (cA, n, .inl f))) (ht : tys[t0]? = some (cA, .boolean)) {i : Nat} (hi : i < n) (hn : n < 2 ^ 31) (hdg : decode cc pc = .ok (.baload, 1))
    (kk : W p l e R s m args below meth c H locs cells slots Q (F0 m (pc + 1) ls (.int (f i) :: rest))) : W p l e R s m args below meth c H locs cells slots Q (F0 m pc ls (.int (nI i) :: .ref a :: rest)) :=
  va_zald hx hb hK hP q0 t0 ha ht (vp_in_nI hi hn) hdg (by rw [nI_clamp (Nat.lt_trans hi hn)]; exact kk)
theorem r_zastI (hx : p.tables.exec = Jvm.exec) (hb : c.code = cc) (hK : va_K D cl tys s) (hP : va_P D cl ws H) (hD : va_D A ws) (hS : va_S A H0 H locs) (q0 t0 : Nat) {cA : ClassId} {n : Nat} {f : Nat → Int32} (ha : ws[q0]? = some (a, .inl (cA, n, .inl f))) (ht : tys[t0]? = some (cA, .boolean)) {i : Nat} {x : Int32} (hi : i < n) (hn : n < 2 ^ 31) (hdg : decode cc pc = .ok (.bastore, 1))
    (kk : ∀ (H1 : Heap) (locs1 : List Loc), va_P D cl (ws.set q0 (a, .inl (cA, n, .inl (upd f i (vp_nar .boolean x))))) H1 → va_D A (ws.set q0 (a, .inl (cA, n, .inl (upd f i (vp_nar .boolean x))))) → va_S A H0 H1 locs1 → W p l e R s m args below meth c H1 locs1 cells slots Q (F0 m (pc + 1) ls rest)) : W p l e R s m args below meth c H locs cells slots Q (F0 m pc ls (.int x :: .int (nI i) :: .ref a :: rest)) :=
  va_zast hx hb hK hP hD hS q0 t0 ha ht (vp_in_nI hi hn) hdg (by rw [nI_clamp (Nat.lt_trans hi hn)]; exact kk)
theorem r_lald (hx : p.tables.exec = Jvm.exec) (hb : c.code = cc) (hK : va_K D cl tys s) (hP : va_P D cl ws H) (q0 t0 : Nat) {cA : ClassId} {n : Nat} {g : Nat → Nat} (ha : ws[q0]? = some (a, .inl (cA, n, .inr (.inl (lF g))))) (ht : tys[t0]? = some (cA, .long)) {i : Nat} (hi : i < n) (hn : n < 2 ^ 31) (hdg : decode cc pc = .ok (.laload, 1))
    (kk : W p l e R s m args below meth c H locs cells slots Q (F0 m (pc + 1) ls (.long (lN (g i)) :: rest))) : W p l e R s m args below meth c H locs cells slots Q (F0 m pc ls (.int (nI i) :: .ref a :: rest)) :=
  va_lald hx hb hK hP q0 t0 ha ht (vp_in_nI hi hn) hdg (by rw [lF_at (Nat.lt_trans hi hn)]; exact kk)
theorem r_last (hx : p.tables.exec = Jvm.exec) (hb : c.code = cc) (hK : va_K D cl tys s) (hP : va_P D cl ws H) (hD : va_D A ws) (hS : va_S A H0 H locs) (q0 t0 : Nat) {cA : ClassId} {n : Nat} {g : Nat → Nat} (ha : ws[q0]? = some (a, .inl (cA, n, .inr (.inl (lF g))))) (ht : tys[t0]? = some (cA, .long)) {i x : Nat} (hi : i < n) (hn : n < 2 ^ 31) (hdg : decode cc pc = .ok (.lastore, 1))
    (kk : ∀ (H1 : Heap) (locs1 : List Loc), va_P D cl (ws.set q0 (a, .inl (cA, n, .inr (.inl (lF (va_up g i x)))))) H1 → va_D A (ws.set q0 (a, .inl (cA, n, .inr (.inl (lF (va_up g i x)))))) → va_S A H0 H1 locs1 → W p l e R s m args below meth c H1 locs1 cells slots Q (F0 m (pc + 1) ls rest)) : W p l e R s m args below meth c H locs cells slots Q (F0 m pc ls (.long (lN x) :: .int (nI i) :: .ref a :: rest)) :=
  va_last hx hb hK hP hD hS q0 t0 ha ht (vp_in_nI hi hn) hdg (by rw [nI_clamp (Nat.lt_trans hi hn), lF_upd]; exact kk)
theorem r_laldI (hx : p.tables.exec = Jvm.exec) (hb : c.code = cc) (hK : va_K D cl tys s) (hP : va_P D cl ws H) (q0 t0 : Nat) {cA : ClassId} {n : Nat} {f : Nat → Int64} (ha : ws[q0]? = some (a, .inl (cA, n, .inr (.inl f)))) (ht : tys[t0]? = some (cA, .long)) {i : Nat} (hi : i < n) (hn : n < 2 ^ 31) (hdg : decode cc pc = .ok (.laload, 1))
    (kk : W p l e R s m args below meth c H locs cells slots Q (F0 m (pc + 1) ls (.long (f i) :: rest))) : W p l e R s m args below meth c H locs cells slots Q (F0 m pc ls (.int (nI i) :: .ref a :: rest)) :=
  va_lald hx hb hK hP q0 t0 ha ht (vp_in_nI hi hn) hdg (by rw [nI_clamp (Nat.lt_trans hi hn)]; exact kk)
theorem r_lastI (hx : p.tables.exec = Jvm.exec) (hb : c.code = cc) (hK : va_K D cl tys s) (hP : va_P D cl ws H) (hD : va_D A ws) (hS : va_S A H0 H locs) (q0 t0 : Nat) {cA : ClassId} {n : Nat} {f : Nat → Int64} (ha : ws[q0]? = some (a, .inl (cA, n, .inr (.inl f)))) (ht : tys[t0]? = some (cA, .long)) {i : Nat} {x : Int64} (hi : i < n) (hn : n < 2 ^ 31) (hdg : decode cc pc = .ok (.lastore, 1))
    (kk : ∀ (H1 : Heap) (locs1 : List Loc), va_P D cl (ws.set q0 (a, .inl (cA, n, .inr (.inl (vp_updL f i x))))) H1 → va_D A (ws.set q0 (a, .inl (cA, n, .inr (.inl (vp_updL f i x))))) → va_S A H0 H1 locs1 → W p l e R s m args below meth c H1 locs1 cells slots Q (F0 m (pc + 1) ls rest)) : W p l e R s m args below meth c H locs cells slots Q (F0 m pc ls (.long x :: .int (nI i) :: .ref a :: rest)) :=
  va_last hx hb hK hP hD hS q0 t0 ha ht (vp_in_nI hi hn) hdg (by rw [nI_clamp (Nat.lt_trans hi hn)]; exact kk)
theorem r_ln_lt (hx : p.tables.exec = Jvm.exec) (hb : c.code = cc) {x y : Nat} {off : Int} {tgt : Nat} (h1 : x < 2 ^ 63) (h2 : y < 2 ^ 63) (hdg : decode cc pc = .ok (.lcmp, 1)) (hd2 : decode cc (pc + 1) = .ok (.ifCond .lt off, 3)) (ht : ((pc + 1 : Nat) : Int) + off = (tgt : Int))
    (kt : x < y → W p l e R s m args below meth c H locs cells slots Q (F0 m tgt ls rest)) (kf : y ≤ x → W p l e R s m args below meth c H locs cells slots Q (F0 m (pc + 4) ls rest)) : W p l e R s m args below meth c H locs cells slots Q (F0 m pc ls (.long (lN y) :: .long (lN x) :: rest)) :=
  r_l_lt hx hb hdg hd2 ht (fun h => kt ((pk_lLT h1 h2).mp h)) (fun h => kf (Nat.le_of_not_lt fun q => h ((pk_lLT h1 h2).mpr q)))
theorem r_ln_ge (hx : p.tables.exec = Jvm.exec) (hb : c.code = cc) {x y : Nat} {off : Int} {tgt : Nat} (h1 : x < 2 ^ 63) (h2 : y < 2 ^ 63) (hdg : decode cc pc = .ok (.lcmp, 1)) (hd2 : decode cc (pc + 1) = .ok (.ifCond .ge off, 3)) (ht : ((pc + 1 : Nat) : Int) + off = (tgt : Int))
    (kt : y ≤ x → W p l e R s m args below meth c H locs cells slots Q (F0 m tgt ls rest)) (kf : x < y → W p l e R s m args below meth c H locs cells slots Q (F0 m (pc + 4) ls rest)) : W p l e R s m args below meth c H locs cells slots Q (F0 m pc ls (.long (lN y) :: .long (lN x) :: rest)) :=
  r_l_ge hx hb hdg hd2 ht (fun h => kt ((pk_lLE h2 h1).mp h)) (fun h => kf (Nat.lt_of_not_le fun q => h ((pk_lLE h2 h1).mpr q)))
theorem r_ln_gt (hx : p.tables.exec = Jvm.exec) (hb : c.code = cc) {x y : Nat} {off : Int} {tgt : Nat} (h1 : x < 2 ^ 63) (h2 : y < 2 ^ 63) (hdg : decode cc pc = .ok (.lcmp, 1)) (hd2 : decode cc (pc + 1) = .ok (.ifCond .gt off, 3)) (ht : ((pc + 1 : Nat) : Int) + off = (tgt : Int))
    (kt : y < x → W p l e R s m args below meth c H locs cells slots Q (F0 m tgt ls rest)) (kf : x ≤ y → W p l e R s m args below meth c H locs cells slots Q (F0 m (pc + 4) ls rest)) : W p l e R s m args below meth c H locs cells slots Q (F0 m pc ls (.long (lN y) :: .long (lN x) :: rest)) :=
  r_l_gt hx hb hdg hd2 ht (fun h => kt ((pk_lLT h2 h1).mp h)) (fun h => kf (Nat.le_of_not_lt fun q => h ((pk_lLT h2 h1).mpr q)))
theorem r_ln_le (hx : p.tables.exec = Jvm.exec) (hb : c.code = cc) {x y : Nat} {off : Int} {tgt : Nat} (h1 : x < 2 ^ 63) (h2 : y < 2 ^ 63) (hdg : decode cc pc = .ok (.lcmp, 1)) (hd2 : decode cc (pc + 1) = .ok (.ifCond .le off, 3)) (ht : ((pc + 1 : Nat) : Int) + off = (tgt : Int))
    (kt : x ≤ y → W p l e R s m args below meth c H locs cells slots Q (F0 m tgt ls rest)) (kf : y < x → W p l e R s m args below meth c H locs cells slots Q (F0 m (pc + 4) ls rest)) : W p l e R s m args below meth c H locs cells slots Q (F0 m pc ls (.long (lN y) :: .long (lN x) :: rest)) :=
  r_l_le hx hb hdg hd2 ht (fun h => kt ((pk_lLE h1 h2).mp h)) (fun h => kf (Nat.lt_of_not_le fun q => h ((pk_lLE h1 h2).mpr q)))
theorem r_ln_eq (hx : p.tables.exec = Jvm.exec) (hb : c.code = cc) {x y : Nat} {off : Int} {tgt : Nat} (h1 : x < 2 ^ 63) (h2 : y < 2 ^ 63) (hdg : decode cc pc = .ok (.lcmp, 1)) (hd2 : decode cc (pc + 1) = .ok (.ifCond .eq off, 3)) (ht : ((pc + 1 : Nat) : Int) + off = (tgt : Int))
    (kt : x = y → W p l e R s m args below meth c H locs cells slots Q (F0 m tgt ls rest)) (kf : x ≠ y → W p l e R s m args below meth c H locs cells slots Q (F0 m (pc + 4) ls rest)) : W p l e R s m args below meth c H locs cells slots Q (F0 m pc ls (.long (lN y) :: .long (lN x) :: rest)) :=
  r_l_eq hx hb hdg hd2 ht (fun h => kt ((pk_lEQ h1 h2).mp h)) (fun h => kf ( fun q => h ((pk_lEQ h1 h2).mpr q)))
-- loops and joins
theorem W_loop {σ : Type} {st : List Value} (μ : σ → Nat) (I : σ → Heap → List Loc → Array Slot → Prop)
    (step : ∀ (x : σ) (H : Heap) (locs : List Loc) (ls : Array Slot), I x H locs ls → (∀ (y : σ) (H' : Heap) (locs' : List Loc) (ls' : Array Slot), I y H' locs' ls' → μ y < μ x → W p l e R s m args below meth c H' locs' cells slots Q (F0 m pc ls' st)) → W p l e R s m args below meth c H locs cells slots Q (F0 m pc ls st)) :
    ∀ (x : σ) (H : Heap) (locs : List Loc) (ls : Array Slot), I x H locs ls → W p l e R s m args below meth c H locs cells slots Q (F0 m pc ls st) := by
  have key : ∀ (n : Nat) (x : σ) (H : Heap) (locs : List Loc) (ls : Array Slot), μ x < n → I x H locs ls → W p l e R s m args below meth c H locs cells slots Q (F0 m pc ls st) := by
    intro n
    induction n with
    | zero => intro x H locs ls h; exact absurd h (Nat.not_lt_zero _)
    | succ n ih =>
      intro x H locs ls h hI
      exact step x H locs ls hI (fun y H' locs' ls' hI' hy => ih y H' locs' ls' (by omega) hI')
  exact fun x H locs ls hI => key (μ x + 1) x H locs ls (Nat.lt_succ_self _) hI
theorem W_join {σ : Type} {g : JFrame} (pc2 : Nat) (st : σ → List Value) (I : σ → Heap → List Loc → Array Slot → Prop)
    (main : ∀ (x : σ) (H : Heap) (locs : List Loc) (ls : Array Slot), I x H locs ls → W p l e R s m args below meth c H locs cells slots Q (F0 m pc2 ls (st x)))
    (first : (∀ (x : σ) (H : Heap) (locs : List Loc) (ls : Array Slot), I x H locs ls → W p l e R s m args below meth c H locs cells slots Q (F0 m pc2 ls (st x))) → W p l e R s m args below meth c H locs cells slots Q g) : W p l e R s m args below meth c H locs cells slots Q g := first main
end RR
end
section
def NSm : List (String × Nat × MethodName × String) := [("MemoryMap", 9, ⟨"MemoryMap$Regions", "<init>", "()V"⟩, "MemoryMap"), ("MemoryMap", 18, ⟨"MemoryMap$Sections", "<init>", "()V"⟩, "MemoryMap"), ("MemoryMap", 25, ⟨"MemoryMap$Taken", "<init>", "()V"⟩, "MemoryMap"), ("MemoryMap", 36, ⟨"MemoryMap$Placements", "<init>", "()V"⟩, "MemoryMap"), ("MemoryMap", 43, ⟨"MemoryMap$Functions", "<init>", "()V"⟩, "MemoryMap"), ("MemoryMap", 66, ⟨"MemoryMap$Regions", "overlap", "(II)Z"⟩, "MemoryMap"), ("MemoryMap", 70, ⟨"MemoryMap$Regions", "add", "(III)I"⟩, "MemoryMap"), ("MemoryMap", 85, ⟨"MemoryMap$Taken", "clear", "()V"⟩, "MemoryMap"), ("MemoryMap", 184, ⟨"MemoryMap$Regions", "allow", "(II)Z"⟩, "MemoryMap"), ("MemoryMap", 193, ⟨"MemoryMap$Taken", "leastFree", "(III)I"⟩, "MemoryMap"), ("MemoryMap", 199, ⟨"MemoryMap$Taken", "add", "(II)V"⟩, "MemoryMap"), ("MemoryMap", 95, ⟨"MemoryMap$Placements", "add", "([II)V"⟩, "MemoryMap"), ("MemoryMap", 115, ⟨"MemoryMap$Functions", "addCall", "(II)V"⟩, "MemoryMap"), ("MemoryMap", 119, ⟨"MemoryMap$Functions", "countCalls", "(I)I"⟩, "MemoryMap"), ("MemoryMap", 124, ⟨"MemoryMap$Functions", "depthFrom", "(I)I"⟩, "MemoryMap"), ("MemoryMap", 132, ⟨"MemoryMap$Block", "<init>", "(I)V"⟩, "MemoryMap"), ("MemoryMap$Block", 15, ⟨"MemoryMap$Copy", "<init>", "(I)V"⟩, "MemoryMap"), ("MemoryMap", 139, ⟨"MemoryMap$Block", "hasOctet", "(I)Z"⟩, "MemoryMap"), ("MemoryMap$Block", 25, ⟨"MemoryMap", "isWithin", "(JJJ)Z"⟩, "MemoryMap"), ("MemoryMap", 147, ⟨"MemoryMap$Copy", "setOctet", "(IB)V"⟩, "MemoryMap"), ("MemoryMap", 158, ⟨"MemoryMap$Copy", "flip", "(II)I"⟩, "MemoryMap"), ("MemoryMap", 162, ⟨"MemoryMap$Block", "repair", "()I"⟩, "MemoryMap"), ("MemoryMap$Block", 31, ⟨"MemoryMap$Copy", "isGood", "()Z"⟩, "MemoryMap"), ("MemoryMap$Block", 35, ⟨"MemoryMap$Copy", "become", "(LMemoryMap$Copy;)V"⟩, "MemoryMap"), ("MemoryMap$Block", 39, ⟨"MemoryMap$Copy", "clear", "()V"⟩, "MemoryMap"), ("MemoryMap", 177, ⟨"MemoryMap$Placements", "countMovedSince", "(I)I"⟩, "MemoryMap"), ("MemoryMap", 84, ⟨"MemoryMap$Sections", "add", "(III)I"⟩, "MemoryMap")]
def NSf : List (String × Nat × String × String × String × String) := [("MemoryMap", 187, "MemoryMap$Regions", "starts", "[I", "MemoryMap"), ("MemoryMap", 196, "MemoryMap$Regions", "ends", "[I", "MemoryMap"), ("MemoryMap", 180, "MemoryMap$Regions", "count", "I", "MemoryMap"), ("MemoryMap", 171, "MemoryMap$Sections", "lengths", "[I", "MemoryMap"), ("MemoryMap", 190, "MemoryMap$Sections", "aligns", "[I", "MemoryMap"), ("MemoryMap", 181, "MemoryMap$Sections", "kinds", "[I", "MemoryMap"), ("MemoryMap", 88, "MemoryMap$Sections", "greatestFirst", "[I", "MemoryMap"), ("MemoryMap", 74, "MemoryMap$Sections", "count", "I", "MemoryMap"), ("MemoryMap", 105, "MemoryMap$Placements", "last", "[I", "MemoryMap"), ("MemoryMap", 100, "MemoryMap$Placements", "lastCount", "I", "MemoryMap"), ("MemoryMap", 174, "MemoryMap$Placements", "keptCount", "I", "MemoryMap"), ("MemoryMap", 112, "MemoryMap$Functions", "stacks", "[I", "MemoryMap"), ("MemoryMap", 143, "MemoryMap$Block", "first", "LMemoryMap$Copy;", "MemoryMap"), ("MemoryMap", 153, "MemoryMap$Block", "second", "LMemoryMap$Copy;", "MemoryMap")]
/-- the nest mates' links: what the tables say of them -/
def NS (U : State) : Prop := (∀ q ∈ NSm, va_Nw (.methodLinkNest q.1 q.2.1 q.2.2.1 q.2.2.2) U) ∧ ∀ q ∈ NSf, va_Nw (.fieldLinkNest q.1 q.2.1 q.2.2.1 q.2.2.2.1 q.2.2.2.2.1 q.2.2.2.2.2) U
theorem NS.warm {s U : State} (hW : s.WarmedH U.vm) (h : NS s) : NS U := ⟨fun q hq => va_Nw.warmM hW (h.1 q hq), fun q hq => va_Nw.warmF hW (h.2 q hq)⟩
theorem NS.same {u U : State} (e : u.vm = U.vm) (h : NS u) : NS U := ⟨fun q hq => va_Nw.same rfl e (h.1 q hq), fun q hq => va_Nw.same rfl e (h.2 q hq)⟩
theorem NS.m {s : State} (h : NS s) {own : String} {index : Nat} {y : MethodName} {host : String} (k : Nat) (hk : NSm[k]? = some (own, index, y, host)) : va_Nw (.methodLinkNest own index y host) s := h.1 _ (List.mem_of_getElem? hk)
theorem NS.f {s : State} (h : NS s) {args : Array Value} {own : String} {index : Nat} {r n d host : String} (k : Nat) (hk : NSf[k]? = some (own, index, r, n, d, host)) : (Cond.fieldLinkNest own index r n d host).before args s = true := va_Nw.use rfl (h.2 _ (List.mem_of_getElem? hk))
def Wd (D : va_G) (tys : List (ClassId × FieldType)) (ws : va_W) (sz : Nat) (U : State) : Prop := U.heap.size = sz ∧ va_P D vwCl ws U.heap ∧ va_K D vwCl tys U ∧ va_D (fun _ => True) ws ∧ NS U
def We (D : va_G) (A : Nat → Prop) (ws : va_W) (t : State) : Prop := va_P D vwCl ws t.heap ∧ va_D A ws
theorem Wd.blind {D : va_G} {tys : List (ClassId × FieldType)} {ws : va_W} {sz : Nat} {av : List Value} : FrameBlind (va_Pc av (Wd D tys ws sz)) := fun a U g mk q => by
  obtain ⟨q0, q1, qP, qK, qD, qN⟩ := q
  exact ⟨q0, q1, qP, va_K.moved (u := U) (U := U.calling g mk a) (Vm.Alike.refl U.vm) qK, qD, NS.same (u := U) rfl qN⟩
theorem fm_of {α : Type} {is : List Nat} {f : Nat → Option α} {wc : List α} (h : is.map f = wc.map some) : is.filterMap f = wc := by
  have e : is.filterMap f = (is.map f).filterMap id := by rw [List.filterMap_map]; rfl
  rw [e, h, List.filterMap_map]
  simp
/-- contracts that change the world: int, long, void, a reference or null -/
def Mi (l : Launch) (y : MethodName) (wsM : List Cond) (rm : Room) (D : va_G) (tys : List (ClassId × FieldType)) (av : List Value) (ws : va_W) {S : Type} (post : Int32 → S → Prop) (ws' : S → va_W) : Prop :=
  ∀ sz, Met l y wsM rm (va_Pc av (Wd D tys ws sz)) (va_Qi post (fun u t => We D (va_A ws sz) (ws' u) t) (va_A ws sz)) rm.cells rm.slots (va_A ws sz)
def Ml (l : Launch) (y : MethodName) (wsM : List Cond) (rm : Room) (D : va_G) (tys : List (ClassId × FieldType)) (av : List Value) (ws : va_W) {S : Type} (post : Int64 → S → Prop) (ws' : S → va_W) : Prop :=
  ∀ sz, Met l y wsM rm (va_Pc av (Wd D tys ws sz)) (va_Ql post (fun u t => We D (va_A ws sz) (ws' u) t) (va_A ws sz)) rm.cells rm.slots (va_A ws sz)
def Mv (l : Launch) (y : MethodName) (wsM : List Cond) (rm : Room) (D : va_G) (tys : List (ClassId × FieldType)) (av : List Value) (ws : va_W) {S : Type} (post : S → Prop) (ws' : S → va_W) : Prop :=
  ∀ sz, Met l y wsM rm (va_Pc av (Wd D tys ws sz)) (va_Qv post (fun u t => We D (va_A ws sz) (ws' u) t) (va_A ws sz)) rm.cells rm.slots (va_A ws sz)
/-- contracts that leave the heap alone -/
def Qi (l : Launch) (y : MethodName) (wsM : List Cond) (rm : Room) (D : va_G) (tys : List (ClassId × FieldType)) (av : List Value) (ws : va_W) (post : Int32 → Prop) : Prop :=
  ∀ sz, Met l y wsM rm (va_Pc av (Wd D tys ws sz)) (vp_Si post) 0 0 (fun _ => False)
def Ql (l : Launch) (y : MethodName) (wsM : List Cond) (rm : Room) (D : va_G) (tys : List (ClassId × FieldType)) (av : List Value) (ws : va_W) (post : Int64 → Prop) : Prop :=
  ∀ sz, Met l y wsM rm (va_Pc av (Wd D tys ws sz)) (vp_Sl post) 0 0 (fun _ => False)
def Qq (l : Launch) (y : MethodName) (wsM : List Cond) (rm : Room) (D : va_G) (tys : List (ClassId × FieldType)) (av : List Value) (ws : va_W) (post : Option Nat → Prop) : Prop :=
  ∀ sz, Met l y wsM rm (va_Pc av (Wd D tys ws sz)) (va_Sq post) 0 0 (fun _ => False)
/-- what a body has at its entry -/
def Bd (l : Launch) (wsM : List Cond) (cc : ByteArray) (maxL : Nat) (ret : Option FieldType) (own : String) (D : va_G) (tys : List (ClassId × FieldType)) (p : Program) (s : State) (m : MethodId) (args : Array Value) (meth : Method) (c : Code) : Prop :=
  p.tables.exec = Jvm.exec ∧ c.code = cc ∧ meth.sig.returnType = ret ∧ (∀ w ∈ wsM, w.before args s = true) ∧ s.vm.findClass own = some m.cls ∧ meth.locks = false ∧ c.maxLocals = maxL ∧ NS s ∧ va_K D vwCl tys s
theorem start_Mi {l : Launch} {y : MethodName} {wsM wsr : List Cond} {rm : Room} {D : va_G} {tys : List (ClassId × FieldType)} {av : List Value} {ws : va_W} {S : Type} {post : Int32 → S → Prop} {ws' : S → va_W} (cc : ByteArray) (maxL : Nat) (ret : Option FieldType) (hy : plainName y.cls = true) (hw : wsM = Cond.code y cc maxL ret :: wsr) (hn : (lg_sl av).length ≤ maxL)
    (body : ∀ (p : Program) (e : Env) (s : State) (m : MethodId) (below : List Frame) (meth : Method) (c : Code) (A : Nat → Prop) (ls : Array Slot), Bd l wsM cc maxL ret y.cls D tys p s m av.toArray meth c → meth.name = y.name → va_P D vwCl ws s.heap → va_D A ws → va_S A s.heap s.heap [] → (∀ q : Nat, s.heap.size ≤ q → A q) → lv_has ls maxL (lv_args 0 av) →
      W p l e rm s m av.toArray below meth c s.heap [] 0 0 (MQ below (va_Qi post (fun u t => We D A (ws' u) t) A) av.toArray s rm.cells rm.slots A) (F0 m 0 ls [])) : Mi l y wsM rm D tys av ws post ws' := by
  intro sz
  refine Met.ofW (cc := cc) (maxL := maxL) (ret := ret) hy hw ?_
  intro p e s m args below meth c s₁ B hml hv
  obtain ⟨rfl, hsz, hP, hK, hD0, hN⟩ := hv
  subst hsz
  have hD := hD0.self (sz := s.heap.size)
  rw [lg_entry_eq]
  exact body p e s m below meth c (va_A ws s.heap.size) _ ⟨B.exec, B.bytes, B.returns, atoms_spec (ws := wsM) B.pre, findClass_of_methodNamed B.named, B.notSynchronized, hml, hN, hK⟩ (name_of_methodNamed B.named B.method).1 hP hD va_S.rf (fun q h => Or.inr h) (lv_entry av hn)
theorem start_Ml {l : Launch} {y : MethodName} {wsM wsr : List Cond} {rm : Room} {D : va_G} {tys : List (ClassId × FieldType)} {av : List Value} {ws : va_W} {S : Type} {post : Int64 → S → Prop} {ws' : S → va_W} (cc : ByteArray) (maxL : Nat) (ret : Option FieldType) (hy : plainName y.cls = true) (hw : wsM = Cond.code y cc maxL ret :: wsr) (hn : (lg_sl av).length ≤ maxL)
    (body : ∀ (p : Program) (e : Env) (s : State) (m : MethodId) (below : List Frame) (meth : Method) (c : Code) (A : Nat → Prop) (ls : Array Slot), Bd l wsM cc maxL ret y.cls D tys p s m av.toArray meth c → meth.name = y.name → va_P D vwCl ws s.heap → va_D A ws → va_S A s.heap s.heap [] → (∀ q : Nat, s.heap.size ≤ q → A q) → lv_has ls maxL (lv_args 0 av) →
      W p l e rm s m av.toArray below meth c s.heap [] 0 0 (MQ below (va_Ql post (fun u t => We D A (ws' u) t) A) av.toArray s rm.cells rm.slots A) (F0 m 0 ls [])) : Ml l y wsM rm D tys av ws post ws' := by
  intro sz
  refine Met.ofW (cc := cc) (maxL := maxL) (ret := ret) hy hw ?_
  intro p e s m args below meth c s₁ B hml hv
  obtain ⟨rfl, hsz, hP, hK, hD0, hN⟩ := hv
  subst hsz
  have hD := hD0.self (sz := s.heap.size)
  rw [lg_entry_eq]
  exact body p e s m below meth c (va_A ws s.heap.size) _ ⟨B.exec, B.bytes, B.returns, atoms_spec (ws := wsM) B.pre, findClass_of_methodNamed B.named, B.notSynchronized, hml, hN, hK⟩ (name_of_methodNamed B.named B.method).1 hP hD va_S.rf (fun q h => Or.inr h) (lv_entry av hn)
theorem start_Mv {l : Launch} {y : MethodName} {wsM wsr : List Cond} {rm : Room} {D : va_G} {tys : List (ClassId × FieldType)} {av : List Value} {ws : va_W} {S : Type} {post : S → Prop} {ws' : S → va_W} (cc : ByteArray) (maxL : Nat) (ret : Option FieldType) (hy : plainName y.cls = true) (hw : wsM = Cond.code y cc maxL ret :: wsr) (hn : (lg_sl av).length ≤ maxL)
    (body : ∀ (p : Program) (e : Env) (s : State) (m : MethodId) (below : List Frame) (meth : Method) (c : Code) (A : Nat → Prop) (ls : Array Slot), Bd l wsM cc maxL ret y.cls D tys p s m av.toArray meth c → meth.name = y.name → va_P D vwCl ws s.heap → va_D A ws → va_S A s.heap s.heap [] → (∀ q : Nat, s.heap.size ≤ q → A q) → lv_has ls maxL (lv_args 0 av) →
      W p l e rm s m av.toArray below meth c s.heap [] 0 0 (MQ below (va_Qv post (fun u t => We D A (ws' u) t) A) av.toArray s rm.cells rm.slots A) (F0 m 0 ls [])) : Mv l y wsM rm D tys av ws post ws' := by
  intro sz
  refine Met.ofW (cc := cc) (maxL := maxL) (ret := ret) hy hw ?_
  intro p e s m args below meth c s₁ B hml hv
  obtain ⟨rfl, hsz, hP, hK, hD0, hN⟩ := hv
  subst hsz
  have hD := hD0.self (sz := s.heap.size)
  rw [lg_entry_eq]
  exact body p e s m below meth c (va_A ws s.heap.size) _ ⟨B.exec, B.bytes, B.returns, atoms_spec (ws := wsM) B.pre, findClass_of_methodNamed B.named, B.notSynchronized, hml, hN, hK⟩ (name_of_methodNamed B.named B.method).1 hP hD va_S.rf (fun q h => Or.inr h) (lv_entry av hn)
theorem start_Qi {l : Launch} {y : MethodName} {wsM wsr : List Cond} {rm : Room} {D : va_G} {tys : List (ClassId × FieldType)} {av : List Value} {ws : va_W} {post : Int32 → Prop} (cc : ByteArray) (maxL : Nat) (ret : Option FieldType) (hy : plainName y.cls = true) (hw : wsM = Cond.code y cc maxL ret :: wsr) (hn : (lg_sl av).length ≤ maxL)
    (body : ∀ (p : Program) (e : Env) (s : State) (m : MethodId) (below : List Frame) (meth : Method) (c : Code) (ls : Array Slot), Bd l wsM cc maxL ret y.cls D tys p s m av.toArray meth c → va_P D vwCl ws s.heap → va_D (fun _ => True) ws → lv_has ls maxL (lv_args 0 av) →
      W p l e rm s m av.toArray below meth c s.heap [] 0 0 (MQ below (vp_Si post) av.toArray s 0 0 (fun _ => False)) (F0 m 0 ls [])) : Qi l y wsM rm D tys av ws post := by
  intro sz
  refine Met.ofW (cc := cc) (maxL := maxL) (ret := ret) hy hw ?_
  intro p e s m args below meth c s₁ B hml hv
  obtain ⟨rfl, hsz, hP, hK, hD, hN⟩ := hv
  rw [lg_entry_eq]
  exact body p e s m below meth c _ ⟨B.exec, B.bytes, B.returns, atoms_spec (ws := wsM) B.pre, findClass_of_methodNamed B.named, B.notSynchronized, hml, hN, hK⟩ hP hD (lv_entry av hn)
theorem start_Ql {l : Launch} {y : MethodName} {wsM wsr : List Cond} {rm : Room} {D : va_G} {tys : List (ClassId × FieldType)} {av : List Value} {ws : va_W} {post : Int64 → Prop} (cc : ByteArray) (maxL : Nat) (ret : Option FieldType) (hy : plainName y.cls = true) (hw : wsM = Cond.code y cc maxL ret :: wsr) (hn : (lg_sl av).length ≤ maxL)
    (body : ∀ (p : Program) (e : Env) (s : State) (m : MethodId) (below : List Frame) (meth : Method) (c : Code) (ls : Array Slot), Bd l wsM cc maxL ret y.cls D tys p s m av.toArray meth c → va_P D vwCl ws s.heap → va_D (fun _ => True) ws → lv_has ls maxL (lv_args 0 av) →
      W p l e rm s m av.toArray below meth c s.heap [] 0 0 (MQ below (vp_Sl post) av.toArray s 0 0 (fun _ => False)) (F0 m 0 ls [])) : Ql l y wsM rm D tys av ws post := by
  intro sz
  refine Met.ofW (cc := cc) (maxL := maxL) (ret := ret) hy hw ?_
  intro p e s m args below meth c s₁ B hml hv
  obtain ⟨rfl, hsz, hP, hK, hD, hN⟩ := hv
  rw [lg_entry_eq]
  exact body p e s m below meth c _ ⟨B.exec, B.bytes, B.returns, atoms_spec (ws := wsM) B.pre, findClass_of_methodNamed B.named, B.notSynchronized, hml, hN, hK⟩ hP hD (lv_entry av hn)
theorem start_Qq {l : Launch} {y : MethodName} {wsM wsr : List Cond} {rm : Room} {D : va_G} {tys : List (ClassId × FieldType)} {av : List Value} {ws : va_W} {post : Option Nat → Prop} (cc : ByteArray) (maxL : Nat) (ret : Option FieldType) (hy : plainName y.cls = true) (hw : wsM = Cond.code y cc maxL ret :: wsr) (hn : (lg_sl av).length ≤ maxL)
    (body : ∀ (p : Program) (e : Env) (s : State) (m : MethodId) (below : List Frame) (meth : Method) (c : Code) (ls : Array Slot), Bd l wsM cc maxL ret y.cls D tys p s m av.toArray meth c → va_P D vwCl ws s.heap → va_D (fun _ => True) ws → lv_has ls maxL (lv_args 0 av) →
      W p l e rm s m av.toArray below meth c s.heap [] 0 0 (MQ below (va_Sq post) av.toArray s 0 0 (fun _ => False)) (F0 m 0 ls [])) : Qq l y wsM rm D tys av ws post := by
  intro sz
  refine Met.ofW (cc := cc) (maxL := maxL) (ret := ret) hy hw ?_
  intro p e s m args below meth c s₁ B hml hv
  obtain ⟨rfl, hsz, hP, hK, hD, hN⟩ := hv
  rw [lg_entry_eq]
  exact body p e s m below meth c _ ⟨B.exec, B.bytes, B.returns, atoms_spec (ws := wsM) B.pre, findClass_of_methodNamed B.named, B.notSynchronized, hml, hN, hK⟩ hP hD (lv_entry av hn)
section CC
variable {p : Program} {l : Launch} {e : Env} {R : Room} {s : State} {m : MethodId} {args : Array Value} {below : List Frame} {meth : Method} {c : Code} {H : Heap} {locs : List Loc} {cells slots mc ms : Nat} {Q : State → Prop}
variable {cc : ByteArray} {pc : Nat} {ls : Array Slot} {rest st0 : List Value} {D : va_G} {A A0 : Nat → Prop} {a : Array Value} {tys : List (ClassId × FieldType)} {ws wc wr : va_W} {H0 : Heap} {S : Type}
theorem preV {b : Nat} {As : List Value} {C : String} {q : vw_C} {fs : List Value} (hP : va_P D vwCl ws H) (hD : va_D A ws) (hK : va_K D vwCl tys s) (hN : NS s) (is : List Nat) (ci q0 : Nat) (hC : is.map (fun i => ws[i]?) = wc.map some) (hnd : va_nd is = true) (hc : vwCl[ci]? = some q) (he : ws[q0]? = some (b, .inr (ci, fs))) (hq : q.1 = C) : PreV s H C b (va_Pc (.ref b :: As) (Wd D tys wc H.size)) As := by
  subst hq
  exact ⟨Wd.blind, va_recv hK hP hc he, fun U hU hW => ⟨rfl, by rw [hU], by rw [hU]; exact hP.sub is (fm_of hC), va_K.moved hW.alike hK, (hD.sub is hnd hC).weaken (fun _ _ _ _ => trivial), NS.warm hW hN⟩⟩
theorem preS {As : List Value} (hP : va_P D vwCl ws H) (hD : va_D A ws) (hK : va_K D vwCl tys s) (hN : NS s) (is : List Nat) (hC : is.map (fun i => ws[i]?) = wc.map some) (hnd : va_nd is = true) : PreS s H (va_Pc As (Wd D tys wc H.size)) As :=
  ⟨Wd.blind, fun U hU hW => ⟨rfl, by rw [hU], by rw [hU]; exact hP.sub is (fm_of hC), va_K.moved hW.alike hK, (hD.sub is hnd hC).weaken (fun _ _ _ _ => trivial), NS.warm hW hN⟩⟩
theorem call_Mi {post : Int32 → S → Prop} {wc' wn : S → va_W} (hr : va_Run p l e R s m args below meth c H locs cells slots mc ms (F0 m pc ls st0) rest (va_Qi post (fun u t => We D (va_A wc H.size) (wc' u) t) (va_A wc H.size) a) (va_A wc H.size))
    (hP : va_P D vwCl ws H) (hD : va_D A0 ws) (hS : va_S A0 H0 H locs) (hA : ∀ q, H0.size ≤ q → A0 q) (isC isR perm : List Nat) (hC : isC.map (fun i => ws[i]?) = wc.map some) (hR : isR.map (fun i => ws[i]?) = wr.map some) (hn : va_nd isR = true) (hdis : ∀ i ∈ isR, i ∉ isC) (hp : ∀ u, perm.map (fun i => (wr ++ wc' u)[i]?) = (wn u).map some) (hpn : va_nd perm = true)
    (kk : ∀ (r : Int32) (u : S) (H1 : Heap) (locs1 : List Loc), post r u → va_P D vwCl (wn u) H1 → va_D A0 (wn u) → va_S A0 H0 H1 locs1 → H.size ≤ H1.size → W p l e R s m args below meth c H1 locs1 (cells + mc) (slots + ms) Q (F0 m (pc + 3) ls (.int r :: rest))) : W p l e R s m args below meth c H locs cells slots Q (F0 m pc ls st0) := by
  have hF := va_free hD hS hA isC hC
  refine va_calli hr hS (fun q _ h => hF q h) hF (fun r u t H1 locs1 ht hvm hw hB hz1 hk1 hS1 => ?_)
  obtain ⟨hP1, hD1⟩ := hB
  rw [ht] at hP1
  obtain ⟨hP2, hD2⟩ := va_join (wr := wr) (w1 := wc' u) hP hD isC isR hC hR hn hdis hk1 hF hP1 hD1
  exact kk r u H1 locs1 hw (hP2.sub perm (fm_of (hp u))) (hD2.sub perm hpn (hp u)) hS1 hz1
theorem call_Ml {post : Int64 → S → Prop} {wc' wn : S → va_W} (hr : va_Run p l e R s m args below meth c H locs cells slots mc ms (F0 m pc ls st0) rest (va_Ql post (fun u t => We D (va_A wc H.size) (wc' u) t) (va_A wc H.size) a) (va_A wc H.size))
    (hP : va_P D vwCl ws H) (hD : va_D A0 ws) (hS : va_S A0 H0 H locs) (hA : ∀ q, H0.size ≤ q → A0 q) (isC isR perm : List Nat) (hC : isC.map (fun i => ws[i]?) = wc.map some) (hR : isR.map (fun i => ws[i]?) = wr.map some) (hn : va_nd isR = true) (hdis : ∀ i ∈ isR, i ∉ isC) (hp : ∀ u, perm.map (fun i => (wr ++ wc' u)[i]?) = (wn u).map some) (hpn : va_nd perm = true)
    (kk : ∀ (r : Int64) (u : S) (H1 : Heap) (locs1 : List Loc), post r u → va_P D vwCl (wn u) H1 → va_D A0 (wn u) → va_S A0 H0 H1 locs1 → H.size ≤ H1.size → W p l e R s m args below meth c H1 locs1 (cells + mc) (slots + ms) Q (F0 m (pc + 3) ls (.long r :: rest))) : W p l e R s m args below meth c H locs cells slots Q (F0 m pc ls st0) := by
  have hF := va_free hD hS hA isC hC
  refine va_calll hr hS (fun q _ h => hF q h) hF (fun r u t H1 locs1 ht hvm hw hB hz1 hk1 hS1 => ?_)
  obtain ⟨hP1, hD1⟩ := hB
  rw [ht] at hP1
  obtain ⟨hP2, hD2⟩ := va_join (wr := wr) (w1 := wc' u) hP hD isC isR hC hR hn hdis hk1 hF hP1 hD1
  exact kk r u H1 locs1 hw (hP2.sub perm (fm_of (hp u))) (hD2.sub perm hpn (hp u)) hS1 hz1
theorem call_Mv {post : S → Prop} {wc' wn : S → va_W} (hr : va_Run p l e R s m args below meth c H locs cells slots mc ms (F0 m pc ls st0) rest (va_Qv post (fun u t => We D (va_A wc H.size) (wc' u) t) (va_A wc H.size) a) (va_A wc H.size))
    (hP : va_P D vwCl ws H) (hD : va_D A0 ws) (hS : va_S A0 H0 H locs) (hA : ∀ q, H0.size ≤ q → A0 q) (isC isR perm : List Nat) (hC : isC.map (fun i => ws[i]?) = wc.map some) (hR : isR.map (fun i => ws[i]?) = wr.map some) (hn : va_nd isR = true) (hdis : ∀ i ∈ isR, i ∉ isC) (hp : ∀ u, perm.map (fun i => (wr ++ wc' u)[i]?) = (wn u).map some) (hpn : va_nd perm = true)
    (kk : ∀ (u : S) (H1 : Heap) (locs1 : List Loc), post u → va_P D vwCl (wn u) H1 → va_D A0 (wn u) → va_S A0 H0 H1 locs1 → H.size ≤ H1.size → W p l e R s m args below meth c H1 locs1 (cells + mc) (slots + ms) Q (F0 m (pc + 3) ls (rest))) : W p l e R s m args below meth c H locs cells slots Q (F0 m pc ls st0) := by
  have hF := va_free hD hS hA isC hC
  refine va_callv hr hS (fun q _ h => hF q h) hF (fun u t H1 locs1 ht hvm hw hB hz1 hk1 hS1 => ?_)
  obtain ⟨hP1, hD1⟩ := hB
  rw [ht] at hP1
  obtain ⟨hP2, hD2⟩ := va_join (wr := wr) (w1 := wc' u) hP hD isC isR hC hR hn hdis hk1 hF hP1 hD1
  exact kk u H1 locs1 hw (hP2.sub perm (fm_of (hp u))) (hD2.sub perm hpn (hp u)) hS1 hz1
-- ends
theorem ret_Mi {post : Int32 → S → Prop} {ws' : S → va_W} (hx : p.tables.exec = Jvm.exec) (hb : c.code = cc) (hr : meth.sig.returnType = some .int) (hlk : meth.locks = false) {v : Int32} (u : S) (hv : post v u) (hP : va_P D vwCl (ws' u) H) (hD : va_D A (ws' u)) (hS : va_S A s.heap H locs) (hc : cells ≤ mc) (hs : slots ≤ ms) (hdg : decode cc pc = .ok (.ireturn, 1)) : W p l e R s m args below meth c H locs cells slots (MQ below (va_Qi post (fun u t => We D A (ws' u) t) A) args s mc ms A) (F0 m pc ls [.int v]) :=
  W.widen (k := mc) (n := ms) hc hs (W.iret (v := v) hx hb hr (fun t ht hW => ⟨⟨v, u, rfl, hv, ⟨by rw [ht]; exact hP, hD⟩⟩, hS.F ht⟩) hS.2.2 hdg hlk)
theorem ret_Mz {post : Int32 → S → Prop} {ws' : S → va_W} {ty : FieldType} (hx : p.tables.exec = Jvm.exec) (hb : c.code = cc) (hr : meth.sig.returnType = some ty) (hlk : meth.locks = false) {v : Int32} (hn : narrow ty (.int v) = .int v) (u : S) (hv : post v u) (hP : va_P D vwCl (ws' u) H) (hD : va_D A (ws' u)) (hS : va_S A s.heap H locs) (hc : cells ≤ mc) (hs : slots ≤ ms) (hdg : decode cc pc = .ok (.ireturn, 1)) : W p l e R s m args below meth c H locs cells slots (MQ below (va_Qi post (fun u t => We D A (ws' u) t) A) args s mc ms A) (F0 m pc ls [.int v]) :=
  W.widen (k := mc) (n := ms) hc hs (W.zret (v := v) hx hb hr hn (fun t ht hW => ⟨⟨v, u, rfl, hv, ⟨by rw [ht]; exact hP, hD⟩⟩, hS.F ht⟩) hS.2.2 hdg hlk)
theorem ret_Ml {post : Int64 → S → Prop} {ws' : S → va_W} (hx : p.tables.exec = Jvm.exec) (hb : c.code = cc) (hr : meth.sig.returnType = some .long) (hlk : meth.locks = false) {v : Int64} (u : S) (hv : post v u) (hP : va_P D vwCl (ws' u) H) (hD : va_D A (ws' u)) (hS : va_S A s.heap H locs) (hc : cells ≤ mc) (hs : slots ≤ ms) (hdg : decode cc pc = .ok (.lreturn, 1)) : W p l e R s m args below meth c H locs cells slots (MQ below (va_Ql post (fun u t => We D A (ws' u) t) A) args s mc ms A) (F0 m pc ls [.long v]) :=
  W.widen (k := mc) (n := ms) hc hs (W.lret (v := v) hx hb hr (fun t ht hW => ⟨⟨v, u, rfl, hv, ⟨by rw [ht]; exact hP, hD⟩⟩, hS.F ht⟩) hS.2.2 hdg hlk)
theorem ret_Mv {post : S → Prop} {ws' : S → va_W} (hx : p.tables.exec = Jvm.exec) (hb : c.code = cc) (hr : meth.sig.returnType = none) (hlk : meth.locks = false) (u : S) (hv : post u) (hP : va_P D vwCl (ws' u) H) (hD : va_D A (ws' u)) (hS : va_S A s.heap H locs) (hc : cells ≤ mc) (hs : slots ≤ ms) (hdg : decode cc pc = .ok (.return_, 1)) : W p l e R s m args below meth c H locs cells slots (MQ below (va_Qv post (fun u t => We D A (ws' u) t) A) args s mc ms A) (F0 m pc ls []) :=
  W.widen (k := mc) (n := ms) hc hs (W.vret hx hb hr (fun t ht hW => ⟨⟨u, rfl, hv, ⟨by rw [ht]; exact hP, hD⟩⟩, hS.F ht⟩) hS.2.2 hdg hlk)
theorem ret_Qi {post : Int32 → Prop} (hx : p.tables.exec = Jvm.exec) (hb : c.code = cc) (hr : meth.sig.returnType = some .int) (hlk : meth.locks = false) {v : Int32} (hv : post v) (hdg : decode cc pc = .ok (.ireturn, 1)) : W p l e R s m args below meth c s.heap [] 0 0 (MQ below (vp_Si post) args s 0 0 (fun _ => False)) (F0 m pc ls [.int v]) :=
  W.iret (v := v) hx hb hr (fun t ht hW => ⟨v, rfl, hv, ht⟩) (fun _ h => by cases h) hdg hlk
theorem ret_Qz {post : Int32 → Prop} {ty : FieldType} (hx : p.tables.exec = Jvm.exec) (hb : c.code = cc) (hr : meth.sig.returnType = some ty) (hlk : meth.locks = false) {v : Int32} (hn : narrow ty (.int v) = .int v) (hv : post v) (hdg : decode cc pc = .ok (.ireturn, 1)) : W p l e R s m args below meth c s.heap [] 0 0 (MQ below (vp_Si post) args s 0 0 (fun _ => False)) (F0 m pc ls [.int v]) :=
  W.zret (v := v) hx hb hr hn (fun t ht hW => ⟨v, rfl, hv, ht⟩) (fun _ h => by cases h) hdg hlk
theorem ret_Ql {post : Int64 → Prop} (hx : p.tables.exec = Jvm.exec) (hb : c.code = cc) (hr : meth.sig.returnType = some .long) (hlk : meth.locks = false) {v : Int64} (hv : post v) (hdg : decode cc pc = .ok (.lreturn, 1)) : W p l e R s m args below meth c s.heap [] 0 0 (MQ below (vp_Sl post) args s 0 0 (fun _ => False)) (F0 m pc ls [.long v]) :=
  W.lret (v := v) hx hb hr (fun t ht hW => ⟨v, rfl, hv, ht⟩) (fun _ h => by cases h) hdg hlk
theorem ret_Qq {post : Option Nat → Prop} {rt : FieldType} (hx : p.tables.exec = Jvm.exec) (hb : c.code = cc) (hr : meth.sig.returnType = some rt) (hrt : (∃ n, rt = .object n) ∨ ∃ t, rt = .array t) (hlk : meth.locks = false) {v : Value} (r : Option Nat) (hvr : v = va_rf r) (hv : post r) (hdg : decode cc pc = .ok (.areturn, 1)) : W p l e R s m args below meth c s.heap [] 0 0 (MQ below (va_Sq post) args s 0 0 (fun _ => False)) (F0 m pc ls [v]) := by
  subst hvr
  exact W.aret hx hb hr hrt (va_rf_or r) (fun t ht hW => ⟨r, rfl, hv, ht⟩) (fun _ h => by cases h) hdg hlk
end CC
end
section
/-- the array classes: int, byte, long, boolean, Block, int rows -/
abbrev TY (t : Nat → ClassId) : List (ClassId × FieldType) := [(t 0, .int), (t 1, .byte), (t 2, .long), (t 3, .boolean), (t 4, .object "MemoryMap$Block"), (t 5, .array .int)]
section NA
variable {p : Program} {l : Launch} {e : Env} {R : Room} {s : State} {m : MethodId} {args : Array Value} {below : List Frame} {meth : Method} {c : Code} {H : Heap} {locs : List Loc} {cells slots : Nat} {Q : State → Prop}
variable {cc : ByteArray} {pc : Nat} {ls : Array Slot} {rest : List Value} {D : va_G} {cl : List vw_C} {A : Nat → Prop} {tys : List (ClassId × FieldType)} {ws : va_W} {H0 : Heap}
set_option maxHeartbeats 200000 in
theorem r_newI (hx : p.tables.exec = Jvm.exec) (hb : c.code = cc) (harr : (Cond.arrayClass .int).before args s = true) (hK : va_K D cl tys s) (hP : va_P D cl ws H) (hD : va_D A ws) (hS : va_S A H0 H locs) (hA : ∀ q, H0.size ≤ q → A q) (t0 : Nat) {cI : ClassId} (ht : tys[t0]? = some (cI, .int)) {n : Nat} (hn : n ≤ 65536) (hcells : cells + 1 ≤ R.cells) (hslots : slots + n ≤ R.slots) (hdg : decode cc pc = .ok (.newarray .int, 2))
    (kk : ∀ (q : Nat) (H1 : Heap), va_P D cl (ws ++ [(q, .inl (cI, n, .inl (nF (fun _ => 0))))]) H1 → va_D A (ws ++ [(q, .inl (cI, n, .inl (nF (fun _ => 0))))]) → va_S A H0 H1 locs → W p l e R s m args below meth c H1 locs (cells + 1) (slots + n) Q (F0 m (pc + 2) ls (.ref q :: rest))) : W p l e R s m args below meth c H locs cells slots Q (F0 m pc ls (.int (nI n) :: rest)) := by
  refine va_newa (atype := .int) hx hb harr (ty := .int) rfl hK hP hD hS hA (N' := n) (a0 := (n, .inl (nF (fun _ => 0)))) (fun cA => by rw [vp_cell_i]; rfl) (nI_pos (by omega)) (nI_clamp (by omega)) (by show n * 4 ≤ _; omega) hcells hslots hdg (fun q cA H1 hK1 hP1 hD1 hS1 => ?_)
  have e1 := va_nm_int (hK1.2 tys.length (cA, .int) (by simp)).2
  have e2 := va_nm_int (hK.2 t0 _ ht).2
  cases Option.some.inj (e1.symm.trans e2)
  exact kk q H1 hP1 hD1 hS1
set_option maxHeartbeats 200000 in
theorem r_newB (hx : p.tables.exec = Jvm.exec) (hb : c.code = cc) (harr : (Cond.arrayClass .byte).before args s = true) (hK : va_K D cl tys s) (hP : va_P D cl ws H) (hD : va_D A ws) (hS : va_S A H0 H locs) (hA : ∀ q, H0.size ≤ q → A q) (t0 : Nat) {cI : ClassId} (ht : tys[t0]? = some (cI, .byte)) {n : Nat} (hn : n ≤ 65536) (hcells : cells + 1 ≤ R.cells) (hslots : slots + n ≤ R.slots) (hdg : decode cc pc = .ok (.newarray .byte, 2))
    (kk : ∀ (q : Nat) (H1 : Heap), va_P D cl (ws ++ [(q, .inl (cI, n, .inl (fun _ => (0 : Int32))))]) H1 → va_D A (ws ++ [(q, .inl (cI, n, .inl (fun _ => (0 : Int32))))]) → va_S A H0 H1 locs → W p l e R s m args below meth c H1 locs (cells + 1) (slots + n) Q (F0 m (pc + 2) ls (.ref q :: rest))) : W p l e R s m args below meth c H locs cells slots Q (F0 m pc ls (.int (nI n) :: rest)) := by
  refine va_newa (atype := .byte) hx hb harr (ty := .byte) rfl hK hP hD hS hA (N' := n) (a0 := (n, .inl (fun _ => (0 : Int32)))) (fun cA => by rw [vp_cell_i]; rfl) (nI_pos (by omega)) (nI_clamp (by omega)) (by show n * 1 ≤ _; omega) hcells hslots hdg (fun q cA H1 hK1 hP1 hD1 hS1 => ?_)
  have e1 := va_nm_byte (hK1.2 tys.length (cA, .byte) (by simp)).2
  have e2 := va_nm_byte (hK.2 t0 _ ht).2
  cases Option.some.inj (e1.symm.trans e2)
  exact kk q H1 hP1 hD1 hS1
set_option maxHeartbeats 200000 in
theorem r_newZ (hx : p.tables.exec = Jvm.exec) (hb : c.code = cc) (harr : (Cond.arrayClass .boolean).before args s = true) (hK : va_K D cl tys s) (hP : va_P D cl ws H) (hD : va_D A ws) (hS : va_S A H0 H locs) (hA : ∀ q, H0.size ≤ q → A q) (t0 : Nat) {cI : ClassId} (ht : tys[t0]? = some (cI, .boolean)) {n : Nat} (hn : n ≤ 65536) (hcells : cells + 1 ≤ R.cells) (hslots : slots + n ≤ R.slots) (hdg : decode cc pc = .ok (.newarray .boolean, 2))
    (kk : ∀ (q : Nat) (H1 : Heap), va_P D cl (ws ++ [(q, .inl (cI, n, .inl (fun _ => (0 : Int32))))]) H1 → va_D A (ws ++ [(q, .inl (cI, n, .inl (fun _ => (0 : Int32))))]) → va_S A H0 H1 locs → W p l e R s m args below meth c H1 locs (cells + 1) (slots + n) Q (F0 m (pc + 2) ls (.ref q :: rest))) : W p l e R s m args below meth c H locs cells slots Q (F0 m pc ls (.int (nI n) :: rest)) := by
  refine va_newa (atype := .boolean) hx hb harr (ty := .boolean) rfl hK hP hD hS hA (N' := n) (a0 := (n, .inl (fun _ => (0 : Int32)))) (fun cA => by rw [vp_cell_i]; rfl) (nI_pos (by omega)) (nI_clamp (by omega)) (by show n * 1 ≤ _; omega) hcells hslots hdg (fun q cA H1 hK1 hP1 hD1 hS1 => ?_)
  have e1 := va_nm_boolean (hK1.2 tys.length (cA, .boolean) (by simp)).2
  have e2 := va_nm_boolean (hK.2 t0 _ ht).2
  cases Option.some.inj (e1.symm.trans e2)
  exact kk q H1 hP1 hD1 hS1
set_option maxHeartbeats 200000 in
theorem r_newJ (hx : p.tables.exec = Jvm.exec) (hb : c.code = cc) (harr : (Cond.arrayClass .long).before args s = true) (hK : va_K D cl tys s) (hP : va_P D cl ws H) (hD : va_D A ws) (hS : va_S A H0 H locs) (hA : ∀ q, H0.size ≤ q → A q) (t0 : Nat) {cI : ClassId} (ht : tys[t0]? = some (cI, .long)) {n : Nat} (hn : n ≤ 65536) (hcells : cells + 1 ≤ R.cells) (hslots : slots + n ≤ R.slots) (hdg : decode cc pc = .ok (.newarray .long, 2))
    (kk : ∀ (q : Nat) (H1 : Heap), va_P D cl (ws ++ [(q, .inl (cI, n, .inr (.inl (lF (fun _ => 0)))))]) H1 → va_D A (ws ++ [(q, .inl (cI, n, .inr (.inl (lF (fun _ => 0)))))]) → va_S A H0 H1 locs → W p l e R s m args below meth c H1 locs (cells + 1) (slots + n) Q (F0 m (pc + 2) ls (.ref q :: rest))) : W p l e R s m args below meth c H locs cells slots Q (F0 m pc ls (.int (nI n) :: rest)) := by
  refine va_newa (atype := .long) hx hb harr (ty := .long) rfl hK hP hD hS hA (N' := n) (a0 := (n, .inr (.inl (lF (fun _ => 0))))) (fun cA => by rw [vp_cell_l]; rfl) (nI_pos (by omega)) (nI_clamp (by omega)) (by show n * 8 ≤ _; omega) hcells hslots hdg (fun q cA H1 hK1 hP1 hD1 hS1 => ?_)
  have e1 := va_nm_long (hK1.2 tys.length (cA, .long) (by simp)).2
  have e2 := va_nm_long (hK.2 t0 _ ht).2
  cases Option.some.inj (e1.symm.trans e2)
  exact kk q H1 hP1 hD1 hS1
end NA
end
section
theorem nx_and (a b : Nat) : nI a &&& nI b = nI (a &&& b) := by
  apply Int32.toBitVec_inj.mp
  apply BitVec.eq_of_toNat_eq
  simp [nI, Int32.toBitVec_ofNat', Nat.and_mod_two_pow]
abbrev rm_X7_isWithin : Room := { frames := 0, cells := 0, slots := 0, locals := 0 }
set_option maxHeartbeats 4000000 in
set_option maxRecDepth 100000 in
theorem c_X7_isWithin (l : Launch) (D : va_G) (t : Nat → ClassId) (v lo hi : Int64)  : Qi l yX7_isWithin wsX7_isWithin rm_X7_isWithin D (TY t) [.long v, .long lo, .long hi] [] (fun r => (r = nI 1 ∧ ¬ v < lo ∧ ¬ hi < v) ∨ (r = nI 0 ∧ (v < lo ∨ hi < v))) := by
  refine start_Qi cX7_isWithin 6 (some .boolean) (by decide) rfl (Nat.le_of_ble_eq_true rfl) ?_
  intro p e s m below meth c ls B hP hD hl
  obtain ⟨hx, hb, hr, hts, hown, hlk, hml, hN, hK⟩ := B
  have hl : lv_has ls 6 [(0, .long v), (2, .long lo), (4, .long hi)] := hl
  refine lv_lload_n hx hb dX7_isWithin_0 rfl (lv_at hl 0 rfl) ?_
  refine lv_lload_n hx hb dX7_isWithin_1 rfl (lv_at hl 1 rfl) ?_
  refine r_l_lt (tgt := 17) hx hb dX7_isWithin_2 dX7_isWithin_3 (by decide) (fun c1 => ?_) (fun c1 => ?_)
  · refine lv_iconst (v := (nI 0)) hx hb dX7_isWithin_17 (by decide) ?_
    exact ret_Qz hx hb hr hlk rfl (Or.inr ⟨rfl, Or.inl c1⟩) dX7_isWithin_18
  · refine lv_lload_n hx hb dX7_isWithin_6 rfl (lv_at hl 0 rfl) ?_
    refine lv_lload hx hb dX7_isWithin_7 (lv_at hl 2 rfl) ?_
    refine r_l_gt (tgt := 17) hx hb dX7_isWithin_9 dX7_isWithin_10 (by decide) (fun c2 => ?_) (fun c2 => ?_)
    · refine lv_iconst (v := (nI 0)) hx hb dX7_isWithin_17 (by decide) ?_
      exact ret_Qz hx hb hr hlk rfl (Or.inr ⟨rfl, Or.inr c2⟩) dX7_isWithin_18
    · refine lv_iconst (v := (nI 1)) hx hb dX7_isWithin_13 (by decide) ?_
      refine lv_goto (tgt := 18) hx hb dX7_isWithin_14 (by decide) ?_
      exact ret_Qz hx hb hr hlk rfl (Or.inl ⟨rfl, c1, c2⟩) dX7_isWithin_18

abbrev rm_X6_alignedUp : Room := { frames := 0, cells := 0, slots := 0, locals := 0 }
set_option maxHeartbeats 4000000 in
set_option maxRecDepth 100000 in
theorem c_X6_alignedUp (l : Launch) (D : va_G) (t : Nat → ClassId) (a d : Nat) (ha : a ≤ 1000000) (hd1 : 1 ≤ d) (hd2 : d ≤ 1000000) : Qi l yX6_alignedUp wsX6_alignedUp rm_X6_alignedUp D (TY t) [.int (nI a), .int (nI d)] [] (fun r => r = nI ((a + d - 1) / d * d)) := by
  refine start_Qi cX6_alignedUp 2 (some .int) (by decide) rfl (Nat.le_of_ble_eq_true rfl) ?_
  intro p e s m below meth c ls B hP hD hl
  obtain ⟨hx, hb, hr, hts, hown, hlk, hml, hN, hK⟩ := B
  have hl : lv_has ls 2 [(0, .int (nI a)), (1, .int (nI d))] := hl
  refine lv_iload_n hx hb dX6_alignedUp_0 rfl (lv_at hl 1 rfl) ?_
  refine lv_iconst (v := (nI 1)) hx hb dX6_alignedUp_1 (by decide) ?_
  refine r_icmp_ge (x := d) (y := 1) (tgt := 9) hx hb (by omega) (by omega) dX6_alignedUp_2 (by decide) (fun c1 => ?_) (fun c1 => ?_)
  · refine lv_iload_n hx hb dX6_alignedUp_9 rfl (lv_at hl 0 rfl) ?_
    refine lv_iload_n hx hb dX6_alignedUp_10 rfl (lv_at hl 1 rfl) ?_
    refine r_iadd (x := a) (y := d) hx hb dX6_alignedUp_11 ?_
    refine lv_iconst (v := (nI 1)) hx hb dX6_alignedUp_12 (by decide) ?_
    refine r_isub (x := (a + d)) (y := 1) hx hb (by omega) dX6_alignedUp_13 ?_
    refine lv_iload_n hx hb dX6_alignedUp_14 rfl (lv_at hl 1 rfl) ?_
    refine r_idiv (x := ((a + d) - 1)) (y := d) hx hb (by omega) (by omega) (by omega) dX6_alignedUp_15 ?_
    refine lv_iload_n hx hb dX6_alignedUp_16 rfl (lv_at hl 1 rfl) ?_
    refine r_imul (x := (((a + d) - 1) / d)) (y := d) hx hb dX6_alignedUp_17 ?_
    exact ret_Qi hx hb hr hlk (rfl) dX6_alignedUp_18
  · exact absurd c1 (by omega)

theorem i_X4_allow_X4 : ∀ w ∈ wsX40, w ∈ wsX4_allow := by decide +kernel
abbrev rm_X4_allow : Room := { frames := 0, cells := 0, slots := 0, locals := 0 }
set_option maxHeartbeats 4000000 in
set_option maxRecDepth 100000 in
theorem c_X4_allow (l : Launch) (D : va_G) (t : Nat → ClassId) (h a0 a1 a2 n : Nat) (rs re rr : Nat → Nat) (i k : Nat) (hi : i < 16) (hk : k ≤ 7) : Qi l yX4_allow wsX4_allow rm_X4_allow D (TY t) [.ref h, .int (nI i), .int (nI k)] [(h, .inr (5, [.ref a0, .ref a1, .ref a2, .int (nI n)])), (a0, .inl (t 0, 16, .inl (nF rs))), (a1, .inl (t 0, 16, .inl (nF re))), (a2, .inl (t 0, 16, .inl (nF rr)))] (fun r => (r = nI 1 ∧ rr i &&& k = k) ∨ (r = nI 0 ∧ rr i &&& k ≠ k)) := by
  refine start_Qi cX4_allow 3 (some .boolean) (by decide) rfl (Nat.le_of_ble_eq_true rfl) ?_
  intro p e s m below meth c ls B hP hD hl
  obtain ⟨hx, hb, hr, hts, hown, hlk, hml, hN, hK⟩ := B
  have hl : lv_has ls 3 [(0, .ref h), (1, .int (nI i)), (2, .int (nI k))] := hl
  refine lv_aload_n hx hb dX4_allow_0 rfl (lv_at hl 0 rfl) ?_
  refine va_get (D := D) (ci := 5) (v := .ref a2) (C := RX4) (T := TX4) (N := 4) hx hb hts i_X4_allow_X4 hown hK hP 0 rfl rfl 2 (by decide) (hts (.fieldLink RX4 18 "MemoryMap$Regions" "rights" "[I") (List.mem_of_getElem? (i := 1) rfl)) (fun _ h9 => h9) rfl dX4_allow_1 ?_
  refine lv_iload_n hx hb dX4_allow_4 rfl (lv_at hl 1 rfl) ?_
  refine r_iald hx hb hK hP 3 0 rfl rfl (i := i) (by omega) (by omega) dX4_allow_5 ?_
  refine lv_iload_n hx hb dX4_allow_6 rfl (lv_at hl 2 rfl) ?_
  refine lv_iand hx hb dX4_allow_7 ?_
  refine r_topi (nx_and _ _) ?_
  have hle : rr i &&& k ≤ k := Nat.and_le_right
  refine lv_iload_n hx hb dX4_allow_8 rfl (lv_at hl 2 rfl) ?_
  refine r_icmp_ne (x := (rr i &&& k)) (y := k) (tgt := 16) hx hb (by omega) (by omega) dX4_allow_9 (by decide) (fun c1 => ?_) (fun c1 => ?_)
  · refine lv_iconst (v := (nI 0)) hx hb dX4_allow_16 (by decide) ?_
    exact ret_Qz hx hb hr hlk rfl (Or.inr ⟨rfl, c1⟩) dX4_allow_17
  · refine lv_iconst (v := (nI 1)) hx hb dX4_allow_12 (by decide) ?_
    refine lv_goto (tgt := 17) hx hb dX4_allow_13 (by decide) ?_
    exact ret_Qz hx hb hr hlk rfl (Or.inl ⟨rfl, c1⟩) dX4_allow_17

theorem i_X4_overlap_X4 : ∀ w ∈ wsX40, w ∈ wsX4_overlap := by decide +kernel
abbrev rm_X4_overlap : Room := { frames := 0, cells := 0, slots := 0, locals := 0 }
set_option maxHeartbeats 4000000 in
set_option maxRecDepth 100000 in
theorem c_X4_overlap (l : Launch) (D : va_G) (t : Nat → ClassId) (h a0 a1 a2 n : Nat) (rs re rr : Nat → Nat) (st en : Nat) (hn : n ≤ 16) (hrs : ∀ k, rs k ≤ 65536) (hre : ∀ k, re k ≤ 65536) (hst : st ≤ 65536) (hen : en ≤ 65536) : Qi l yX4_overlap wsX4_overlap rm_X4_overlap D (TY t) [.ref h, .int (nI st), .int (nI en)] [(h, .inr (5, [.ref a0, .ref a1, .ref a2, .int (nI n)])), (a0, .inl (t 0, 16, .inl (nF rs))), (a1, .inl (t 0, 16, .inl (nF re))), (a2, .inl (t 0, 16, .inl (nF rr)))] (fun r => (r = nI 1 ∧ ∃ i, i < n ∧ st < re i ∧ rs i < en) ∨ (r = nI 0 ∧ ∀ i, i < n → ¬ (st < re i ∧ rs i < en))) := by
  refine start_Qi cX4_overlap 4 (some .boolean) (by decide) rfl (Nat.le_of_ble_eq_true rfl) ?_
  intro p e s m below meth c ls B hP hD hl
  obtain ⟨hx, hb, hr, hts, hown, hlk, hml, hN, hK⟩ := B
  have hl : lv_has ls 4 [(0, .ref h), (1, .int (nI st)), (2, .int (nI en))] := hl
  refine lv_iconst (v := (nI 0)) hx hb dX4_overlap_0 (by decide) ?_
  refine lv_istore_n (lv' := [(3, .int (nI 0)), (0, .ref h), (1, .int (nI st)), (2, .int (nI en))]) hx hb dX4_overlap_1 rfl hl (by decide) rfl (fun ls hl => ?_)
  refine W_loop (σ := Nat) (fun i => n - i) (fun i H locs ls => H = s.heap ∧ locs = [] ∧ i ≤ n ∧ (∀ j, j < i → ¬ (st < re j ∧ rs j < en)) ∧ lv_has ls 4 [(3, .int (nI i)), (0, .ref h), (1, .int (nI st)), (2, .int (nI en))]) ?_ 0 _ _ _ ⟨rfl, rfl, Nat.zero_le _, (fun j hj => absurd hj (Nat.not_lt_zero _)), hl⟩
  rintro i _ _ ls ⟨rfl, rfl, hi, hall, hl⟩ ih
  refine lv_iload_n hx hb dX4_overlap_2 rfl (lv_at hl 0 rfl) ?_
  refine lv_aload_n hx hb dX4_overlap_3 rfl (lv_at hl 1 rfl) ?_
  refine va_get (D := D) (ci := 5) (v := .int (nI n)) (C := RX4) (T := TX4) (N := 4) hx hb hts i_X4_overlap_X4 hown hK hP 0 rfl rfl 3 (by decide) (hts (.fieldLink RX4 21 "MemoryMap$Regions" "count" "I") (List.mem_of_getElem? (i := 1) rfl)) (fun _ h9 => h9) rfl dX4_overlap_4 ?_
  refine r_icmp_ge (x := i) (y := n) (tgt := 38) hx hb (by omega) (by omega) dX4_overlap_7 (by decide) (fun c1 => ?_) (fun c1 => ?_)
  · refine lv_iconst (v := (nI 0)) hx hb dX4_overlap_38 (by decide) ?_
    exact ret_Qz hx hb hr hlk rfl (Or.inr ⟨rfl, fun j hj => hall j (by omega)⟩) dX4_overlap_39
  · refine lv_iload_n hx hb dX4_overlap_10 rfl (lv_at hl 2 rfl) ?_
    refine lv_aload_n hx hb dX4_overlap_11 rfl (lv_at hl 1 rfl) ?_
    refine va_get (D := D) (ci := 5) (v := .ref a1) (C := RX4) (T := TX4) (N := 4) hx hb hts i_X4_overlap_X4 hown hK hP 0 rfl rfl 1 (by decide) (hts (.fieldLink RX4 15 "MemoryMap$Regions" "ends" "[I") (List.mem_of_getElem? (i := 2) rfl)) (fun _ h9 => h9) rfl dX4_overlap_12 ?_
    refine lv_iload_n hx hb dX4_overlap_15 rfl (lv_at hl 0 rfl) ?_
    refine r_iald hx hb hK hP 2 0 rfl rfl (i := i) (by omega) (by omega) dX4_overlap_16 ?_
    have hb_0 := hre i
    refine r_icmp_ge (x := st) (y := (re i)) (tgt := 32) hx hb (by omega) (by omega) dX4_overlap_17 (by decide) (fun c2 => ?_) (fun c2 => ?_)
    · refine lv_iinc (v := (nI (i + 1))) (lv' := [(3, .int (nI (i + 1))), (0, .ref h), (1, .int (nI st)), (2, .int (nI en))]) hx hb dX4_overlap_32 hl (k := 0) rfl (r_inc1 _) (by decide) rfl (fun ls hl => ?_)
      refine lv_goto (tgt := 2) hx hb dX4_overlap_35 (by decide) ?_
      refine ih (i + 1) _ _ _ ⟨rfl, rfl, by omega, fun j hj => ?_, lv_sub hl [0, 1, 2, 3] rfl⟩ (by omega)
      rcases Nat.lt_succ_iff_lt_or_eq.mp hj with hj | rfl
      · exact hall j hj
      · exact fun q => absurd q.1 (by omega)
    · refine lv_aload_n hx hb dX4_overlap_20 rfl (lv_at hl 1 rfl) ?_
      refine va_get (D := D) (ci := 5) (v := .ref a0) (C := RX4) (T := TX4) (N := 4) hx hb hts i_X4_overlap_X4 hown hK hP 0 rfl rfl 0 (by decide) (hts (.fieldLink RX4 9 "MemoryMap$Regions" "starts" "[I") (List.mem_of_getElem? (i := 3) rfl)) (fun _ h9 => h9) rfl dX4_overlap_21 ?_
      refine lv_iload_n hx hb dX4_overlap_24 rfl (lv_at hl 0 rfl) ?_
      refine r_iald hx hb hK hP 1 0 rfl rfl (i := i) (by omega) (by omega) dX4_overlap_25 ?_
      have hb_1 := hrs i
      refine lv_iload_n hx hb dX4_overlap_26 rfl (lv_at hl 3 rfl) ?_
      refine r_icmp_ge (x := (rs i)) (y := en) (tgt := 32) hx hb (by omega) (by omega) dX4_overlap_27 (by decide) (fun c3 => ?_) (fun c3 => ?_)
      · refine lv_iinc (v := (nI (i + 1))) (lv' := [(3, .int (nI (i + 1))), (0, .ref h), (1, .int (nI st)), (2, .int (nI en))]) hx hb dX4_overlap_32 hl (k := 0) rfl (r_inc1 _) (by decide) rfl (fun ls hl => ?_)
        refine lv_goto (tgt := 2) hx hb dX4_overlap_35 (by decide) ?_
        refine ih (i + 1) _ _ _ ⟨rfl, rfl, by omega, fun j hj => ?_, lv_sub hl [0, 1, 2, 3] rfl⟩ (by omega)
        rcases Nat.lt_succ_iff_lt_or_eq.mp hj with hj | rfl
        · exact hall j hj
        · exact fun q => absurd q.2 (by omega)
      · refine lv_iconst (v := (nI 1)) hx hb dX4_overlap_30 (by decide) ?_
        exact ret_Qz hx hb hr hlk rfl (Or.inl ⟨rfl, i, c1, c2, c3⟩) dX4_overlap_31

theorem i_X4_add_X4 : ∀ w ∈ wsX40, w ∈ wsX4_add := by decide +kernel
abbrev rm_X4_add : Room := { frames := 0, cells := 0, slots := 0, locals := 0 }
set_option maxHeartbeats 4000000 in
set_option maxRecDepth 100000 in
theorem c_X4_add (l : Launch) (D : va_G) (t : Nat → ClassId) (h a0 a1 a2 n : Nat) (rs re rr : Nat → Nat) (st en ri : Nat) (hn : n ≤ 16) : Mi l yX4_add wsX4_add rm_X4_add D (TY t) [.ref h, .int (nI st), .int (nI en), .int (nI ri)] [(h, .inr (5, [.ref a0, .ref a1, .ref a2, .int (nI n)])), (a0, .inl (t 0, 16, .inl (nF rs))), (a1, .inl (t 0, 16, .inl (nF re))), (a2, .inl (t 0, 16, .inl (nF rr)))] (S := Nat × (Nat → Nat) × (Nat → Nat) × (Nat → Nat)) (fun r u => (16 ≤ n ∧ r = (-4) ∧ u = (n, rs, re, rr)) ∨ (n < 16 ∧ r = nI (n + 1) ∧ u = (n + 1, va_up rs n st, va_up re n en, va_up rr n ri))) (fun u => [(h, .inr (5, [.ref a0, .ref a1, .ref a2, .int (nI (u.1))])), (a0, .inl (t 0, 16, .inl (nF u.2.1))), (a1, .inl (t 0, 16, .inl (nF u.2.2.1))), (a2, .inl (t 0, 16, .inl (nF u.2.2.2)))]) := by
  refine start_Mi cX4_add 4 (some .int) (by decide) rfl (Nat.le_of_ble_eq_true rfl) ?_
  intro p e s m below meth c A ls B hin hP hD hS hA hl
  obtain ⟨hx, hb, hr, hts, hown, hlk, hml, hN, hK⟩ := B
  have hl : lv_has ls 4 [(0, .ref h), (1, .int (nI st)), (2, .int (nI en)), (3, .int (nI ri))] := hl
  refine lv_aload_n hx hb dX4_add_0 rfl (lv_at hl 0 rfl) ?_
  refine va_get (D := D) (ci := 5) (v := .int (nI n)) (C := RX4) (T := TX4) (N := 4) hx hb hts i_X4_add_X4 hown hK hP 0 rfl rfl 3 (by decide) (hts (.fieldLink RX4 21 "MemoryMap$Regions" "count" "I") (List.mem_of_getElem? (i := 1) rfl)) (fun _ h9 => h9) rfl dX4_add_1 ?_
  refine lv_bipush (v := (nI 16)) hx hb dX4_add_4 (by decide) ?_
  refine r_icmp_lt (x := n) (y := 16) (tgt := 12) hx hb (by omega) (by omega) dX4_add_6 (by decide) (fun c1 => ?_) (fun c1 => ?_)
  · refine lv_aload_n hx hb dX4_add_12 rfl (lv_at hl 0 rfl) ?_
    refine va_get (D := D) (ci := 5) (v := .ref a0) (C := RX4) (T := TX4) (N := 4) hx hb hts i_X4_add_X4 hown hK hP 0 rfl rfl 0 (by decide) (hts (.fieldLink RX4 9 "MemoryMap$Regions" "starts" "[I") (List.mem_of_getElem? (i := 2) rfl)) (fun _ h9 => h9) rfl dX4_add_13 ?_
    refine lv_aload_n hx hb dX4_add_16 rfl (lv_at hl 0 rfl) ?_
    refine va_get (D := D) (ci := 5) (v := .int (nI n)) (C := RX4) (T := TX4) (N := 4) hx hb hts i_X4_add_X4 hown hK hP 0 rfl rfl 3 (by decide) (hts (.fieldLink RX4 21 "MemoryMap$Regions" "count" "I") (List.mem_of_getElem? (i := 1) rfl)) (fun _ h9 => h9) rfl dX4_add_17 ?_
    refine lv_iload_n hx hb dX4_add_20 rfl (lv_at hl 1 rfl) ?_
    refine r_iast hx hb hK hP hD hS 1 0 rfl rfl (i := n) (by omega) (by omega) dX4_add_21 (fun H locs hP hD hS => ?_)
    have hP : va_P D vwCl [(h, .inr (5, [.ref a0, .ref a1, .ref a2, .int (nI n)])), (a0, .inl (t 0, 16, .inl (nF (va_up rs n st)))), (a1, .inl (t 0, 16, .inl (nF re))), (a2, .inl (t 0, 16, .inl (nF rr)))] H := hP
    have hD : va_D A [(h, .inr (5, [.ref a0, .ref a1, .ref a2, .int (nI n)])), (a0, .inl (t 0, 16, .inl (nF (va_up rs n st)))), (a1, .inl (t 0, 16, .inl (nF re))), (a2, .inl (t 0, 16, .inl (nF rr)))] := hD
    refine lv_aload_n hx hb dX4_add_22 rfl (lv_at hl 0 rfl) ?_
    refine va_get (D := D) (ci := 5) (v := .ref a1) (C := RX4) (T := TX4) (N := 4) hx hb hts i_X4_add_X4 hown hK hP 0 rfl rfl 1 (by decide) (hts (.fieldLink RX4 15 "MemoryMap$Regions" "ends" "[I") (List.mem_of_getElem? (i := 3) rfl)) (fun _ h9 => h9) rfl dX4_add_23 ?_
    refine lv_aload_n hx hb dX4_add_26 rfl (lv_at hl 0 rfl) ?_
    refine va_get (D := D) (ci := 5) (v := .int (nI n)) (C := RX4) (T := TX4) (N := 4) hx hb hts i_X4_add_X4 hown hK hP 0 rfl rfl 3 (by decide) (hts (.fieldLink RX4 21 "MemoryMap$Regions" "count" "I") (List.mem_of_getElem? (i := 1) rfl)) (fun _ h9 => h9) rfl dX4_add_27 ?_
    refine lv_iload_n hx hb dX4_add_30 rfl (lv_at hl 2 rfl) ?_
    refine r_iast hx hb hK hP hD hS 2 0 rfl rfl (i := n) (by omega) (by omega) dX4_add_31 (fun H locs hP hD hS => ?_)
    have hP : va_P D vwCl [(h, .inr (5, [.ref a0, .ref a1, .ref a2, .int (nI n)])), (a0, .inl (t 0, 16, .inl (nF (va_up rs n st)))), (a1, .inl (t 0, 16, .inl (nF (va_up re n en)))), (a2, .inl (t 0, 16, .inl (nF rr)))] H := hP
    have hD : va_D A [(h, .inr (5, [.ref a0, .ref a1, .ref a2, .int (nI n)])), (a0, .inl (t 0, 16, .inl (nF (va_up rs n st)))), (a1, .inl (t 0, 16, .inl (nF (va_up re n en)))), (a2, .inl (t 0, 16, .inl (nF rr)))] := hD
    refine lv_aload_n hx hb dX4_add_32 rfl (lv_at hl 0 rfl) ?_
    refine va_get (D := D) (ci := 5) (v := .ref a2) (C := RX4) (T := TX4) (N := 4) hx hb hts i_X4_add_X4 hown hK hP 0 rfl rfl 2 (by decide) (hts (.fieldLink RX4 18 "MemoryMap$Regions" "rights" "[I") (List.mem_of_getElem? (i := 4) rfl)) (fun _ h9 => h9) rfl dX4_add_33 ?_
    refine lv_aload_n hx hb dX4_add_36 rfl (lv_at hl 0 rfl) ?_
    refine va_get (D := D) (ci := 5) (v := .int (nI n)) (C := RX4) (T := TX4) (N := 4) hx hb hts i_X4_add_X4 hown hK hP 0 rfl rfl 3 (by decide) (hts (.fieldLink RX4 21 "MemoryMap$Regions" "count" "I") (List.mem_of_getElem? (i := 1) rfl)) (fun _ h9 => h9) rfl dX4_add_37 ?_
    refine lv_iload_n hx hb dX4_add_40 rfl (lv_at hl 3 rfl) ?_
    refine r_iast hx hb hK hP hD hS 3 0 rfl rfl (i := n) (by omega) (by omega) dX4_add_41 (fun H locs hP hD hS => ?_)
    have hP : va_P D vwCl [(h, .inr (5, [.ref a0, .ref a1, .ref a2, .int (nI n)])), (a0, .inl (t 0, 16, .inl (nF (va_up rs n st)))), (a1, .inl (t 0, 16, .inl (nF (va_up re n en)))), (a2, .inl (t 0, 16, .inl (nF (va_up rr n ri))))] H := hP
    have hD : va_D A [(h, .inr (5, [.ref a0, .ref a1, .ref a2, .int (nI n)])), (a0, .inl (t 0, 16, .inl (nF (va_up rs n st)))), (a1, .inl (t 0, 16, .inl (nF (va_up re n en)))), (a2, .inl (t 0, 16, .inl (nF (va_up rr n ri))))] := hD
    refine lv_aload_n hx hb dX4_add_42 rfl (lv_at hl 0 rfl) ?_
    refine lv_dup hx hb dX4_add_43 rfl ?_
    refine va_get (D := D) (ci := 5) (v := .int (nI n)) (C := RX4) (T := TX4) (N := 4) hx hb hts i_X4_add_X4 hown hK hP 0 rfl rfl 3 (by decide) (hts (.fieldLink RX4 21 "MemoryMap$Regions" "count" "I") (List.mem_of_getElem? (i := 1) rfl)) (fun _ h9 => h9) rfl dX4_add_44 ?_
    refine lv_iconst (v := (nI 1)) hx hb dX4_add_47 (by decide) ?_
    refine r_iadd (x := n) (y := 1) hx hb dX4_add_48 ?_
    refine va_put (D := D) (ci := 5) (v := .int (nI (n + 1))) (ty := .int) (C := RX4) (T := TX4) (N := 4) hx hb hts i_X4_add_X4 tyX4 tyX4_ok nmX4 hown hK hP hD hS 0 rfl rfl 3 (by decide) (hts (.fieldLink RX4 21 "MemoryMap$Regions" "count" "I") (List.mem_of_getElem? (i := 1) rfl)) (fun _ h9 => h9) rfl (by decide +kernel) rfl rfl (Nat.le_of_ble_eq_true rfl) dX4_add_49 (fun H locs hP hD hS => ?_)
    have hP : va_P D vwCl [(h, .inr (5, [.ref a0, .ref a1, .ref a2, .int (nI (n + 1))])), (a0, .inl (t 0, 16, .inl (nF (va_up rs n st)))), (a1, .inl (t 0, 16, .inl (nF (va_up re n en)))), (a2, .inl (t 0, 16, .inl (nF (va_up rr n ri))))] H := hP
    have hD : va_D A [(h, .inr (5, [.ref a0, .ref a1, .ref a2, .int (nI (n + 1))])), (a0, .inl (t 0, 16, .inl (nF (va_up rs n st)))), (a1, .inl (t 0, 16, .inl (nF (va_up re n en)))), (a2, .inl (t 0, 16, .inl (nF (va_up rr n ri))))] := hD
    refine lv_aload_n hx hb dX4_add_52 rfl (lv_at hl 0 rfl) ?_
    refine va_get (D := D) (ci := 5) (v := .int (nI (n + 1))) (C := RX4) (T := TX4) (N := 4) hx hb hts i_X4_add_X4 hown hK hP 0 rfl rfl 3 (by decide) (hts (.fieldLink RX4 21 "MemoryMap$Regions" "count" "I") (List.mem_of_getElem? (i := 1) rfl)) (fun _ h9 => h9) rfl dX4_add_53 ?_
    exact ret_Mi hx hb hr hlk ((n + 1, va_up rs n st, va_up re n en, va_up rr n ri)) (Or.inr ⟨c1, rfl, rfl⟩) hP hD hS (Nat.le_of_ble_eq_true rfl) (Nat.le_of_ble_eq_true rfl) dX4_add_56
  · refine lv_bipush (v := ((-4))) hx hb dX4_add_9 (by decide) ?_
    exact ret_Mi hx hb hr hlk ((n, rs, re, rr)) (Or.inl ⟨c1, rfl, rfl⟩) hP hD hS (Nat.le_of_ble_eq_true rfl) (Nat.le_of_ble_eq_true rfl) dX4_add_11
end
section
/-- g2 is g with v put in at place p of n -/
def InsAt (g g2 : Nat → Nat) (n p v : Nat) : Prop := p ≤ n ∧ (∀ i, i < p → g2 i = g i) ∧ g2 p = v ∧ ∀ i, p < i → i ≤ n → g2 i = g (i - 1)
theorem va_upc {g : Nat → Nat} {k v i : Nat} : va_up g k v i = if i = k then v else g i := rfl
theorem i_X4_init_X4 : ∀ w ∈ wsX40, w ∈ wsX4_init := by decide +kernel
abbrev rm_X4_init : Room := { frames := 1, cells := 3, slots := 48, locals := 12 }
set_option maxHeartbeats 4000000 in
set_option maxRecDepth 100000 in
theorem c_X4_init (l : Launch) (D : va_G) (t : Nat → ClassId) (h : Nat)  : Mv l yX4_init wsX4_init rm_X4_init D (TY t) [.ref h] [(h, .inr (5, [.null, .null, .null, .int (nI 0)]))] (S := Nat × Nat × Nat) (fun _ => True) (fun u => [(h, .inr (5, [.ref u.1, .ref u.2.1, .ref u.2.2, .int (nI 0)])), (u.1, .inl (t 0, 16, .inl (nF (fun _ => 0)))), (u.2.1, .inl (t 0, 16, .inl (nF (fun _ => 0)))), (u.2.2, .inl (t 0, 16, .inl (nF (fun _ => 0))))]) := by
  refine start_Mv cX4_init 1 none (by decide) rfl (Nat.le_of_ble_eq_true rfl) ?_
  intro p e s m below meth c A ls B hin hP hD hS hA hl
  obtain ⟨hx, hb, hr, hts, hown, hlk, hml, hN, hK⟩ := B
  have hl : lv_has ls 1 [(0, .ref h)] := hl
  refine lv_aload_n hx hb dX4_init_0 rfl (lv_at hl 0 rfl) ?_
  refine W.objInit hx hb hown (hts (.methodLink RX4 3 objectInit) (List.mem_of_getElem? (i := 1) rfl)) (hts (.instanceMethod objectInit) (List.mem_of_getElem? (i := 2) rfl)) (hts (.code objectInit ⟨#[0xb1]⟩ 1 none) (List.mem_of_getElem? (i := 3) rfl)) rfl (by rw [hml]; exact hl.1) rfl dX4_init_1 (Nat.le_of_ble_eq_true rfl) (Nat.le_of_ble_eq_true rfl) ?_
  refine W.eq (g2 := F0 m 4 ls []) rfl ?_
  refine lv_aload_n hx hb dX4_init_4 rfl (lv_at hl 0 rfl) ?_
  refine lv_bipush (v := (nI 16)) hx hb dX4_init_5 (by decide) ?_
  refine r_newI hx hb (hts (.arrayClass .int) (List.mem_of_getElem? (i := 4) rfl)) hK hP hD hS hA 0 rfl (Nat.le_of_ble_eq_true rfl) (Nat.le_of_ble_eq_true rfl) (Nat.le_of_ble_eq_true rfl) dX4_init_7 (fun q_1 H hP hD hS => ?_)
  have hP : va_P D vwCl [(h, .inr (5, [.null, .null, .null, .int (nI 0)])), (q_1, .inl (t 0, 16, .inl (nF (fun _ => 0))))] H := hP
  have hD : va_D A [(h, .inr (5, [.null, .null, .null, .int (nI 0)])), (q_1, .inl (t 0, 16, .inl (nF (fun _ => 0))))] := hD
  refine va_putF (D := D) (ci := 5) (v := .ref q_1) (ty := .array .int) (C := RX4) (T := TX4) (N := 4) hx hb hts i_X4_init_X4 tyX4 tyX4_ok nmX4 hown hK hP hD hS 0 rfl rfl 0 (by decide) (hts (.fieldLink RX4 9 "MemoryMap$Regions" "starts" "[I") (List.mem_of_getElem? (i := 5) rfl)) (fun _ h9 => h9) rfl hin rfl (by decide +kernel) rfl rfl (Nat.le_of_ble_eq_true rfl) dX4_init_9 (fun H locs hP hD hS => ?_)
  have hP : va_P D vwCl [(h, .inr (5, [.ref q_1, .null, .null, .int (nI 0)])), (q_1, .inl (t 0, 16, .inl (nF (fun _ => 0))))] H := hP
  have hD : va_D A [(h, .inr (5, [.ref q_1, .null, .null, .int (nI 0)])), (q_1, .inl (t 0, 16, .inl (nF (fun _ => 0))))] := hD
  refine lv_aload_n hx hb dX4_init_12 rfl (lv_at hl 0 rfl) ?_
  refine lv_bipush (v := (nI 16)) hx hb dX4_init_13 (by decide) ?_
  refine r_newI hx hb (hts (.arrayClass .int) (List.mem_of_getElem? (i := 4) rfl)) hK hP hD hS hA 0 rfl (Nat.le_of_ble_eq_true rfl) (Nat.le_of_ble_eq_true rfl) (Nat.le_of_ble_eq_true rfl) dX4_init_15 (fun q_2 H hP hD hS => ?_)
  have hP : va_P D vwCl [(h, .inr (5, [.ref q_1, .null, .null, .int (nI 0)])), (q_1, .inl (t 0, 16, .inl (nF (fun _ => 0)))), (q_2, .inl (t 0, 16, .inl (nF (fun _ => 0))))] H := hP
  have hD : va_D A [(h, .inr (5, [.ref q_1, .null, .null, .int (nI 0)])), (q_1, .inl (t 0, 16, .inl (nF (fun _ => 0)))), (q_2, .inl (t 0, 16, .inl (nF (fun _ => 0))))] := hD
  refine va_putF (D := D) (ci := 5) (v := .ref q_2) (ty := .array .int) (C := RX4) (T := TX4) (N := 4) hx hb hts i_X4_init_X4 tyX4 tyX4_ok nmX4 hown hK hP hD hS 0 rfl rfl 1 (by decide) (hts (.fieldLink RX4 15 "MemoryMap$Regions" "ends" "[I") (List.mem_of_getElem? (i := 6) rfl)) (fun _ h9 => h9) rfl hin rfl (by decide +kernel) rfl rfl (Nat.le_of_ble_eq_true rfl) dX4_init_17 (fun H locs hP hD hS => ?_)
  have hP : va_P D vwCl [(h, .inr (5, [.ref q_1, .ref q_2, .null, .int (nI 0)])), (q_1, .inl (t 0, 16, .inl (nF (fun _ => 0)))), (q_2, .inl (t 0, 16, .inl (nF (fun _ => 0))))] H := hP
  have hD : va_D A [(h, .inr (5, [.ref q_1, .ref q_2, .null, .int (nI 0)])), (q_1, .inl (t 0, 16, .inl (nF (fun _ => 0)))), (q_2, .inl (t 0, 16, .inl (nF (fun _ => 0))))] := hD
  refine lv_aload_n hx hb dX4_init_20 rfl (lv_at hl 0 rfl) ?_
  refine lv_bipush (v := (nI 16)) hx hb dX4_init_21 (by decide) ?_
  refine r_newI hx hb (hts (.arrayClass .int) (List.mem_of_getElem? (i := 4) rfl)) hK hP hD hS hA 0 rfl (Nat.le_of_ble_eq_true rfl) (Nat.le_of_ble_eq_true rfl) (Nat.le_of_ble_eq_true rfl) dX4_init_23 (fun q_3 H hP hD hS => ?_)
  have hP : va_P D vwCl [(h, .inr (5, [.ref q_1, .ref q_2, .null, .int (nI 0)])), (q_1, .inl (t 0, 16, .inl (nF (fun _ => 0)))), (q_2, .inl (t 0, 16, .inl (nF (fun _ => 0)))), (q_3, .inl (t 0, 16, .inl (nF (fun _ => 0))))] H := hP
  have hD : va_D A [(h, .inr (5, [.ref q_1, .ref q_2, .null, .int (nI 0)])), (q_1, .inl (t 0, 16, .inl (nF (fun _ => 0)))), (q_2, .inl (t 0, 16, .inl (nF (fun _ => 0)))), (q_3, .inl (t 0, 16, .inl (nF (fun _ => 0))))] := hD
  refine va_putF (D := D) (ci := 5) (v := .ref q_3) (ty := .array .int) (C := RX4) (T := TX4) (N := 4) hx hb hts i_X4_init_X4 tyX4 tyX4_ok nmX4 hown hK hP hD hS 0 rfl rfl 2 (by decide) (hts (.fieldLink RX4 18 "MemoryMap$Regions" "rights" "[I") (List.mem_of_getElem? (i := 7) rfl)) (fun _ h9 => h9) rfl hin rfl (by decide +kernel) rfl rfl (Nat.le_of_ble_eq_true rfl) dX4_init_25 (fun H locs hP hD hS => ?_)
  have hP : va_P D vwCl [(h, .inr (5, [.ref q_1, .ref q_2, .ref q_3, .int (nI 0)])), (q_1, .inl (t 0, 16, .inl (nF (fun _ => 0)))), (q_2, .inl (t 0, 16, .inl (nF (fun _ => 0)))), (q_3, .inl (t 0, 16, .inl (nF (fun _ => 0))))] H := hP
  have hD : va_D A [(h, .inr (5, [.ref q_1, .ref q_2, .ref q_3, .int (nI 0)])), (q_1, .inl (t 0, 16, .inl (nF (fun _ => 0)))), (q_2, .inl (t 0, 16, .inl (nF (fun _ => 0)))), (q_3, .inl (t 0, 16, .inl (nF (fun _ => 0))))] := hD
  exact ret_Mv hx hb hr hlk ((q_1, q_2, q_3)) (trivial) hP hD hS (Nat.le_of_ble_eq_true rfl) (Nat.le_of_ble_eq_true rfl) dX4_init_28

theorem i_X5_init_X5 : ∀ w ∈ wsX50, w ∈ wsX5_init := by decide +kernel
abbrev rm_X5_init : Room := { frames := 1, cells := 4, slots := 160, locals := 12 }
set_option maxHeartbeats 4000000 in
set_option maxRecDepth 100000 in
theorem c_X5_init (l : Launch) (D : va_G) (t : Nat → ClassId) (h : Nat)  : Mv l yX5_init wsX5_init rm_X5_init D (TY t) [.ref h] [(h, .inr (6, [.null, .null, .null, .null, .int (nI 0)]))] (S := Nat × Nat × Nat × Nat) (fun _ => True) (fun u => [(h, .inr (6, [.ref u.1, .ref u.2.1, .ref u.2.2.1, .ref u.2.2.2, .int (nI 0)])), (u.1, .inl (t 0, 40, .inl (nF (fun _ => 0)))), (u.2.1, .inl (t 0, 40, .inl (nF (fun _ => 0)))), (u.2.2.1, .inl (t 0, 40, .inl (nF (fun _ => 0)))), (u.2.2.2, .inl (t 0, 40, .inl (nF (fun _ => 0))))]) := by
  refine start_Mv cX5_init 1 none (by decide) rfl (Nat.le_of_ble_eq_true rfl) ?_
  intro p e s m below meth c A ls B hin hP hD hS hA hl
  obtain ⟨hx, hb, hr, hts, hown, hlk, hml, hN, hK⟩ := B
  have hl : lv_has ls 1 [(0, .ref h)] := hl
  refine lv_aload_n hx hb dX5_init_0 rfl (lv_at hl 0 rfl) ?_
  refine W.objInit hx hb hown (hts (.methodLink RX5 3 objectInit) (List.mem_of_getElem? (i := 1) rfl)) (hts (.instanceMethod objectInit) (List.mem_of_getElem? (i := 2) rfl)) (hts (.code objectInit ⟨#[0xb1]⟩ 1 none) (List.mem_of_getElem? (i := 3) rfl)) rfl (by rw [hml]; exact hl.1) rfl dX5_init_1 (Nat.le_of_ble_eq_true rfl) (Nat.le_of_ble_eq_true rfl) ?_
  refine W.eq (g2 := F0 m 4 ls []) rfl ?_
  refine lv_aload_n hx hb dX5_init_4 rfl (lv_at hl 0 rfl) ?_
  refine lv_bipush (v := (nI 40)) hx hb dX5_init_5 (by decide) ?_
  refine r_newI hx hb (hts (.arrayClass .int) (List.mem_of_getElem? (i := 4) rfl)) hK hP hD hS hA 0 rfl (Nat.le_of_ble_eq_true rfl) (Nat.le_of_ble_eq_true rfl) (Nat.le_of_ble_eq_true rfl) dX5_init_7 (fun q_1 H hP hD hS => ?_)
  have hP : va_P D vwCl [(h, .inr (6, [.null, .null, .null, .null, .int (nI 0)])), (q_1, .inl (t 0, 40, .inl (nF (fun _ => 0))))] H := hP
  have hD : va_D A [(h, .inr (6, [.null, .null, .null, .null, .int (nI 0)])), (q_1, .inl (t 0, 40, .inl (nF (fun _ => 0))))] := hD
  refine va_putF (D := D) (ci := 6) (v := .ref q_1) (ty := .array .int) (C := RX5) (T := TX5) (N := 5) hx hb hts i_X5_init_X5 tyX5 tyX5_ok nmX5 hown hK hP hD hS 0 rfl rfl 0 (by decide) (hts (.fieldLink RX5 9 "MemoryMap$Sections" "lengths" "[I") (List.mem_of_getElem? (i := 5) rfl)) (fun _ h9 => h9) rfl hin rfl (by decide +kernel) rfl rfl (Nat.le_of_ble_eq_true rfl) dX5_init_9 (fun H locs hP hD hS => ?_)
  have hP : va_P D vwCl [(h, .inr (6, [.ref q_1, .null, .null, .null, .int (nI 0)])), (q_1, .inl (t 0, 40, .inl (nF (fun _ => 0))))] H := hP
  have hD : va_D A [(h, .inr (6, [.ref q_1, .null, .null, .null, .int (nI 0)])), (q_1, .inl (t 0, 40, .inl (nF (fun _ => 0))))] := hD
  refine lv_aload_n hx hb dX5_init_12 rfl (lv_at hl 0 rfl) ?_
  refine lv_bipush (v := (nI 40)) hx hb dX5_init_13 (by decide) ?_
  refine r_newI hx hb (hts (.arrayClass .int) (List.mem_of_getElem? (i := 4) rfl)) hK hP hD hS hA 0 rfl (Nat.le_of_ble_eq_true rfl) (Nat.le_of_ble_eq_true rfl) (Nat.le_of_ble_eq_true rfl) dX5_init_15 (fun q_2 H hP hD hS => ?_)
  have hP : va_P D vwCl [(h, .inr (6, [.ref q_1, .null, .null, .null, .int (nI 0)])), (q_1, .inl (t 0, 40, .inl (nF (fun _ => 0)))), (q_2, .inl (t 0, 40, .inl (nF (fun _ => 0))))] H := hP
  have hD : va_D A [(h, .inr (6, [.ref q_1, .null, .null, .null, .int (nI 0)])), (q_1, .inl (t 0, 40, .inl (nF (fun _ => 0)))), (q_2, .inl (t 0, 40, .inl (nF (fun _ => 0))))] := hD
  refine va_putF (D := D) (ci := 6) (v := .ref q_2) (ty := .array .int) (C := RX5) (T := TX5) (N := 5) hx hb hts i_X5_init_X5 tyX5 tyX5_ok nmX5 hown hK hP hD hS 0 rfl rfl 1 (by decide) (hts (.fieldLink RX5 15 "MemoryMap$Sections" "aligns" "[I") (List.mem_of_getElem? (i := 6) rfl)) (fun _ h9 => h9) rfl hin rfl (by decide +kernel) rfl rfl (Nat.le_of_ble_eq_true rfl) dX5_init_17 (fun H locs hP hD hS => ?_)
  have hP : va_P D vwCl [(h, .inr (6, [.ref q_1, .ref q_2, .null, .null, .int (nI 0)])), (q_1, .inl (t 0, 40, .inl (nF (fun _ => 0)))), (q_2, .inl (t 0, 40, .inl (nF (fun _ => 0))))] H := hP
  have hD : va_D A [(h, .inr (6, [.ref q_1, .ref q_2, .null, .null, .int (nI 0)])), (q_1, .inl (t 0, 40, .inl (nF (fun _ => 0)))), (q_2, .inl (t 0, 40, .inl (nF (fun _ => 0))))] := hD
  refine lv_aload_n hx hb dX5_init_20 rfl (lv_at hl 0 rfl) ?_
  refine lv_bipush (v := (nI 40)) hx hb dX5_init_21 (by decide) ?_
  refine r_newI hx hb (hts (.arrayClass .int) (List.mem_of_getElem? (i := 4) rfl)) hK hP hD hS hA 0 rfl (Nat.le_of_ble_eq_true rfl) (Nat.le_of_ble_eq_true rfl) (Nat.le_of_ble_eq_true rfl) dX5_init_23 (fun q_3 H hP hD hS => ?_)
  have hP : va_P D vwCl [(h, .inr (6, [.ref q_1, .ref q_2, .null, .null, .int (nI 0)])), (q_1, .inl (t 0, 40, .inl (nF (fun _ => 0)))), (q_2, .inl (t 0, 40, .inl (nF (fun _ => 0)))), (q_3, .inl (t 0, 40, .inl (nF (fun _ => 0))))] H := hP
  have hD : va_D A [(h, .inr (6, [.ref q_1, .ref q_2, .null, .null, .int (nI 0)])), (q_1, .inl (t 0, 40, .inl (nF (fun _ => 0)))), (q_2, .inl (t 0, 40, .inl (nF (fun _ => 0)))), (q_3, .inl (t 0, 40, .inl (nF (fun _ => 0))))] := hD
  refine va_putF (D := D) (ci := 6) (v := .ref q_3) (ty := .array .int) (C := RX5) (T := TX5) (N := 5) hx hb hts i_X5_init_X5 tyX5 tyX5_ok nmX5 hown hK hP hD hS 0 rfl rfl 2 (by decide) (hts (.fieldLink RX5 18 "MemoryMap$Sections" "kinds" "[I") (List.mem_of_getElem? (i := 7) rfl)) (fun _ h9 => h9) rfl hin rfl (by decide +kernel) rfl rfl (Nat.le_of_ble_eq_true rfl) dX5_init_25 (fun H locs hP hD hS => ?_)
  have hP : va_P D vwCl [(h, .inr (6, [.ref q_1, .ref q_2, .ref q_3, .null, .int (nI 0)])), (q_1, .inl (t 0, 40, .inl (nF (fun _ => 0)))), (q_2, .inl (t 0, 40, .inl (nF (fun _ => 0)))), (q_3, .inl (t 0, 40, .inl (nF (fun _ => 0))))] H := hP
  have hD : va_D A [(h, .inr (6, [.ref q_1, .ref q_2, .ref q_3, .null, .int (nI 0)])), (q_1, .inl (t 0, 40, .inl (nF (fun _ => 0)))), (q_2, .inl (t 0, 40, .inl (nF (fun _ => 0)))), (q_3, .inl (t 0, 40, .inl (nF (fun _ => 0))))] := hD
  refine lv_aload_n hx hb dX5_init_28 rfl (lv_at hl 0 rfl) ?_
  refine lv_bipush (v := (nI 40)) hx hb dX5_init_29 (by decide) ?_
  refine r_newI hx hb (hts (.arrayClass .int) (List.mem_of_getElem? (i := 4) rfl)) hK hP hD hS hA 0 rfl (Nat.le_of_ble_eq_true rfl) (Nat.le_of_ble_eq_true rfl) (Nat.le_of_ble_eq_true rfl) dX5_init_31 (fun q_4 H hP hD hS => ?_)
  have hP : va_P D vwCl [(h, .inr (6, [.ref q_1, .ref q_2, .ref q_3, .null, .int (nI 0)])), (q_1, .inl (t 0, 40, .inl (nF (fun _ => 0)))), (q_2, .inl (t 0, 40, .inl (nF (fun _ => 0)))), (q_3, .inl (t 0, 40, .inl (nF (fun _ => 0)))), (q_4, .inl (t 0, 40, .inl (nF (fun _ => 0))))] H := hP
  have hD : va_D A [(h, .inr (6, [.ref q_1, .ref q_2, .ref q_3, .null, .int (nI 0)])), (q_1, .inl (t 0, 40, .inl (nF (fun _ => 0)))), (q_2, .inl (t 0, 40, .inl (nF (fun _ => 0)))), (q_3, .inl (t 0, 40, .inl (nF (fun _ => 0)))), (q_4, .inl (t 0, 40, .inl (nF (fun _ => 0))))] := hD
  refine va_putF (D := D) (ci := 6) (v := .ref q_4) (ty := .array .int) (C := RX5) (T := TX5) (N := 5) hx hb hts i_X5_init_X5 tyX5 tyX5_ok nmX5 hown hK hP hD hS 0 rfl rfl 3 (by decide) (hts (.fieldLink RX5 21 "MemoryMap$Sections" "greatestFirst" "[I") (List.mem_of_getElem? (i := 8) rfl)) (fun _ h9 => h9) rfl hin rfl (by decide +kernel) rfl rfl (Nat.le_of_ble_eq_true rfl) dX5_init_33 (fun H locs hP hD hS => ?_)
  have hP : va_P D vwCl [(h, .inr (6, [.ref q_1, .ref q_2, .ref q_3, .ref q_4, .int (nI 0)])), (q_1, .inl (t 0, 40, .inl (nF (fun _ => 0)))), (q_2, .inl (t 0, 40, .inl (nF (fun _ => 0)))), (q_3, .inl (t 0, 40, .inl (nF (fun _ => 0)))), (q_4, .inl (t 0, 40, .inl (nF (fun _ => 0))))] H := hP
  have hD : va_D A [(h, .inr (6, [.ref q_1, .ref q_2, .ref q_3, .ref q_4, .int (nI 0)])), (q_1, .inl (t 0, 40, .inl (nF (fun _ => 0)))), (q_2, .inl (t 0, 40, .inl (nF (fun _ => 0)))), (q_3, .inl (t 0, 40, .inl (nF (fun _ => 0)))), (q_4, .inl (t 0, 40, .inl (nF (fun _ => 0))))] := hD
  exact ret_Mv hx hb hr hlk ((q_1, q_2, q_3, q_4)) (trivial) hP hD hS (Nat.le_of_ble_eq_true rfl) (Nat.le_of_ble_eq_true rfl) dX5_init_36

theorem i_X6_init_X6 : ∀ w ∈ wsX60, w ∈ wsX6_init := by decide +kernel
abbrev rm_X6_init : Room := { frames := 1, cells := 2, slots := 80, locals := 12 }
set_option maxHeartbeats 4000000 in
set_option maxRecDepth 100000 in
theorem c_X6_init (l : Launch) (D : va_G) (t : Nat → ClassId) (h : Nat)  : Mv l yX6_init wsX6_init rm_X6_init D (TY t) [.ref h] [(h, .inr (7, [.null, .null, .int (nI 0)]))] (S := Nat × Nat) (fun _ => True) (fun u => [(h, .inr (7, [.ref u.1, .ref u.2, .int (nI 0)])), (u.1, .inl (t 0, 40, .inl (nF (fun _ => 0)))), (u.2, .inl (t 0, 40, .inl (nF (fun _ => 0))))]) := by
  refine start_Mv cX6_init 1 none (by decide) rfl (Nat.le_of_ble_eq_true rfl) ?_
  intro p e s m below meth c A ls B hin hP hD hS hA hl
  obtain ⟨hx, hb, hr, hts, hown, hlk, hml, hN, hK⟩ := B
  have hl : lv_has ls 1 [(0, .ref h)] := hl
  refine lv_aload_n hx hb dX6_init_0 rfl (lv_at hl 0 rfl) ?_
  refine W.objInit hx hb hown (hts (.methodLink RX6 3 objectInit) (List.mem_of_getElem? (i := 1) rfl)) (hts (.instanceMethod objectInit) (List.mem_of_getElem? (i := 2) rfl)) (hts (.code objectInit ⟨#[0xb1]⟩ 1 none) (List.mem_of_getElem? (i := 3) rfl)) rfl (by rw [hml]; exact hl.1) rfl dX6_init_1 (Nat.le_of_ble_eq_true rfl) (Nat.le_of_ble_eq_true rfl) ?_
  refine W.eq (g2 := F0 m 4 ls []) rfl ?_
  refine lv_aload_n hx hb dX6_init_4 rfl (lv_at hl 0 rfl) ?_
  refine lv_bipush (v := (nI 40)) hx hb dX6_init_5 (by decide) ?_
  refine r_newI hx hb (hts (.arrayClass .int) (List.mem_of_getElem? (i := 4) rfl)) hK hP hD hS hA 0 rfl (Nat.le_of_ble_eq_true rfl) (Nat.le_of_ble_eq_true rfl) (Nat.le_of_ble_eq_true rfl) dX6_init_7 (fun q_1 H hP hD hS => ?_)
  have hP : va_P D vwCl [(h, .inr (7, [.null, .null, .int (nI 0)])), (q_1, .inl (t 0, 40, .inl (nF (fun _ => 0))))] H := hP
  have hD : va_D A [(h, .inr (7, [.null, .null, .int (nI 0)])), (q_1, .inl (t 0, 40, .inl (nF (fun _ => 0))))] := hD
  refine va_putF (D := D) (ci := 7) (v := .ref q_1) (ty := .array .int) (C := RX6) (T := TX6) (N := 3) hx hb hts i_X6_init_X6 tyX6 tyX6_ok nmX6 hown hK hP hD hS 0 rfl rfl 0 (by decide) (hts (.fieldLink RX6 9 "MemoryMap$Taken" "starts" "[I") (List.mem_of_getElem? (i := 5) rfl)) (fun _ h9 => h9) rfl hin rfl (by decide +kernel) rfl rfl (Nat.le_of_ble_eq_true rfl) dX6_init_9 (fun H locs hP hD hS => ?_)
  have hP : va_P D vwCl [(h, .inr (7, [.ref q_1, .null, .int (nI 0)])), (q_1, .inl (t 0, 40, .inl (nF (fun _ => 0))))] H := hP
  have hD : va_D A [(h, .inr (7, [.ref q_1, .null, .int (nI 0)])), (q_1, .inl (t 0, 40, .inl (nF (fun _ => 0))))] := hD
  refine lv_aload_n hx hb dX6_init_12 rfl (lv_at hl 0 rfl) ?_
  refine lv_bipush (v := (nI 40)) hx hb dX6_init_13 (by decide) ?_
  refine r_newI hx hb (hts (.arrayClass .int) (List.mem_of_getElem? (i := 4) rfl)) hK hP hD hS hA 0 rfl (Nat.le_of_ble_eq_true rfl) (Nat.le_of_ble_eq_true rfl) (Nat.le_of_ble_eq_true rfl) dX6_init_15 (fun q_2 H hP hD hS => ?_)
  have hP : va_P D vwCl [(h, .inr (7, [.ref q_1, .null, .int (nI 0)])), (q_1, .inl (t 0, 40, .inl (nF (fun _ => 0)))), (q_2, .inl (t 0, 40, .inl (nF (fun _ => 0))))] H := hP
  have hD : va_D A [(h, .inr (7, [.ref q_1, .null, .int (nI 0)])), (q_1, .inl (t 0, 40, .inl (nF (fun _ => 0)))), (q_2, .inl (t 0, 40, .inl (nF (fun _ => 0))))] := hD
  refine va_putF (D := D) (ci := 7) (v := .ref q_2) (ty := .array .int) (C := RX6) (T := TX6) (N := 3) hx hb hts i_X6_init_X6 tyX6 tyX6_ok nmX6 hown hK hP hD hS 0 rfl rfl 1 (by decide) (hts (.fieldLink RX6 15 "MemoryMap$Taken" "ends" "[I") (List.mem_of_getElem? (i := 6) rfl)) (fun _ h9 => h9) rfl hin rfl (by decide +kernel) rfl rfl (Nat.le_of_ble_eq_true rfl) dX6_init_17 (fun H locs hP hD hS => ?_)
  have hP : va_P D vwCl [(h, .inr (7, [.ref q_1, .ref q_2, .int (nI 0)])), (q_1, .inl (t 0, 40, .inl (nF (fun _ => 0)))), (q_2, .inl (t 0, 40, .inl (nF (fun _ => 0))))] H := hP
  have hD : va_D A [(h, .inr (7, [.ref q_1, .ref q_2, .int (nI 0)])), (q_1, .inl (t 0, 40, .inl (nF (fun _ => 0)))), (q_2, .inl (t 0, 40, .inl (nF (fun _ => 0))))] := hD
  exact ret_Mv hx hb hr hlk ((q_1, q_2)) (trivial) hP hD hS (Nat.le_of_ble_eq_true rfl) (Nat.le_of_ble_eq_true rfl) dX6_init_20

theorem i_X5_enterInOrder_X5 : ∀ w ∈ wsX50, w ∈ wsX5_enterInOrder := by decide +kernel
abbrev rm_X5_enterInOrder : Room := { frames := 0, cells := 0, slots := 0, locals := 0 }
set_option maxHeartbeats 4000000 in
set_option maxRecDepth 100000 in
theorem c_X5_enterInOrder (l : Launch) (D : va_G) (t : Nat → ClassId) (h a0 a1 a2 a3 n : Nat) (sl sa sk gf : Nat → Nat) (hn : n < 40) (hsl : ∀ k, sl k ≤ 65536) (hgf : ∀ k, k < n → gf k < n) : Mv l yX5_enterInOrder wsX5_enterInOrder rm_X5_enterInOrder D (TY t) [.ref h, .int (nI n)] [(h, .inr (6, [.ref a0, .ref a1, .ref a2, .ref a3, .int (nI n)])), (a0, .inl (t 0, 40, .inl (nF sl))), (a1, .inl (t 0, 40, .inl (nF sa))), (a2, .inl (t 0, 40, .inl (nF sk))), (a3, .inl (t 0, 40, .inl (nF gf)))] (S := Nat → Nat) (fun u : Nat → Nat => ∃ p, InsAt gf u n p n ∧ (p = 0 ∨ sl n ≤ sl (gf (p - 1))) ∧ ∀ i, p ≤ i → i < n → sl (gf i) < sl n) (fun u => [(h, .inr (6, [.ref a0, .ref a1, .ref a2, .ref a3, .int (nI n)])), (a0, .inl (t 0, 40, .inl (nF sl))), (a1, .inl (t 0, 40, .inl (nF sa))), (a2, .inl (t 0, 40, .inl (nF sk))), (a3, .inl (t 0, 40, .inl (nF u)))]) := by
  refine start_Mv cX5_enterInOrder 3 none (by decide) rfl (Nat.le_of_ble_eq_true rfl) ?_
  intro p e s m below meth c A ls B hin hP hD hS hA hl
  obtain ⟨hx, hb, hr, hts, hown, hlk, hml, hN, hK⟩ := B
  have hl : lv_has ls 3 [(0, .ref h), (1, .int (nI n))] := hl
  refine lv_iload_n hx hb dX5_enterInOrder_0 rfl (lv_at hl 1 rfl) ?_
  refine lv_istore_n (lv' := [(2, .int (nI n)), (0, .ref h), (1, .int (nI n))]) hx hb dX5_enterInOrder_1 rfl hl (by decide) rfl (fun ls hl => ?_)
  refine W_loop (σ := Nat × (Nat → Nat)) (fun x => x.1) (fun x H locs ls => match x with | (k, g) => va_P D vwCl [(h, .inr (6, [.ref a0, .ref a1, .ref a2, .ref a3, .int (nI n)])), (a0, .inl (t 0, 40, .inl (nF sl))), (a1, .inl (t 0, 40, .inl (nF sa))), (a2, .inl (t 0, 40, .inl (nF sk))), (a3, .inl (t 0, 40, .inl (nF g)))] H ∧ va_D A [(h, .inr (6, [.ref a0, .ref a1, .ref a2, .ref a3, .int (nI n)])), (a0, .inl (t 0, 40, .inl (nF sl))), (a1, .inl (t 0, 40, .inl (nF sa))), (a2, .inl (t 0, 40, .inl (nF sk))), (a3, .inl (t 0, 40, .inl (nF g)))] ∧ va_S A s.heap H locs ∧ lv_has ls 3 [(2, .int (nI k)), (0, .ref h), (1, .int (nI n))] ∧ k ≤ n ∧ (∀ i, i < k → g i = gf i) ∧ (∀ i, k < i → i ≤ n → g i = gf (i - 1)) ∧ (∀ i, k ≤ i → i < n → sl (gf i) < sl n)) ?_ (n, gf) _ _ _ ⟨hP, hD, hS, hl, Nat.le_refl _, fun _ _ => rfl, fun i h1 h2 => absurd h1 (by omega), fun i h1 h2 => absurd h1 (by omega)⟩
  rintro ⟨k, g⟩ H locs ls ⟨hP, hD, hS, hl, hk, h1, h2, h3⟩ ih
  refine lv_iload_n hx hb dX5_enterInOrder_2 rfl (lv_at hl 0 rfl) ?_
  refine r_if_le (x := k) (tgt := 48) hx hb (by omega) dX5_enterInOrder_3 (by decide) (fun c1 => ?_) (fun c1 => ?_)
  · subst c1
    have hl : lv_has ls 3 [(2, .int (nI 0)), (0, .ref h), (1, .int (nI n))] := hl
    refine lv_aload_n hx hb dX5_enterInOrder_48 rfl (lv_at hl 1 rfl) ?_
    refine va_get (D := D) (ci := 6) (v := .ref a3) (C := RX5) (T := TX5) (N := 5) hx hb hts i_X5_enterInOrder_X5 hown hK hP 0 rfl rfl 3 (by decide) (hts (.fieldLink RX5 21 "MemoryMap$Sections" "greatestFirst" "[I") (List.mem_of_getElem? (i := 2) rfl)) (fun _ h9 => h9) rfl dX5_enterInOrder_49 ?_
    refine lv_iload_n hx hb dX5_enterInOrder_52 rfl (lv_at hl 0 rfl) ?_
    refine lv_iload_n hx hb dX5_enterInOrder_53 rfl (lv_at hl 2 rfl) ?_
    refine r_iast hx hb hK hP hD hS 4 0 rfl rfl (i := 0) (by omega) (by omega) dX5_enterInOrder_54 (fun H locs hP hD hS => ?_)
    have hP : va_P D vwCl [(h, .inr (6, [.ref a0, .ref a1, .ref a2, .ref a3, .int (nI n)])), (a0, .inl (t 0, 40, .inl (nF sl))), (a1, .inl (t 0, 40, .inl (nF sa))), (a2, .inl (t 0, 40, .inl (nF sk))), (a3, .inl (t 0, 40, .inl (nF (va_up g 0 n))))] H := hP
    have hD : va_D A [(h, .inr (6, [.ref a0, .ref a1, .ref a2, .ref a3, .int (nI n)])), (a0, .inl (t 0, 40, .inl (nF sl))), (a1, .inl (t 0, 40, .inl (nF sa))), (a2, .inl (t 0, 40, .inl (nF sk))), (a3, .inl (t 0, 40, .inl (nF (va_up g 0 n))))] := hD
    exact ret_Mv hx hb hr hlk (va_up g 0 n) (⟨0, ⟨Nat.zero_le _, fun i hi => absurd hi (Nat.not_lt_zero _), by rw [va_upc, if_pos rfl], fun i q1 q2 => by rw [va_upc, if_neg (by omega)]; exact h2 i q1 q2⟩, Or.inl rfl, fun i q1 q2 => h3 i q1 q2⟩) hP hD hS (Nat.le_of_ble_eq_true rfl) (Nat.le_of_ble_eq_true rfl) dX5_enterInOrder_55
  · refine lv_aload_n hx hb dX5_enterInOrder_6 rfl (lv_at hl 1 rfl) ?_
    refine va_get (D := D) (ci := 6) (v := .ref a0) (C := RX5) (T := TX5) (N := 5) hx hb hts i_X5_enterInOrder_X5 hown hK hP 0 rfl rfl 0 (by decide) (hts (.fieldLink RX5 9 "MemoryMap$Sections" "lengths" "[I") (List.mem_of_getElem? (i := 1) rfl)) (fun _ h9 => h9) rfl dX5_enterInOrder_7 ?_
    refine lv_aload_n hx hb dX5_enterInOrder_10 rfl (lv_at hl 1 rfl) ?_
    refine va_get (D := D) (ci := 6) (v := .ref a3) (C := RX5) (T := TX5) (N := 5) hx hb hts i_X5_enterInOrder_X5 hown hK hP 0 rfl rfl 3 (by decide) (hts (.fieldLink RX5 21 "MemoryMap$Sections" "greatestFirst" "[I") (List.mem_of_getElem? (i := 2) rfl)) (fun _ h9 => h9) rfl dX5_enterInOrder_11 ?_
    refine lv_iload_n hx hb dX5_enterInOrder_14 rfl (lv_at hl 0 rfl) ?_
    refine lv_iconst (v := (nI 1)) hx hb dX5_enterInOrder_15 (by decide) ?_
    refine r_isub (x := k) (y := 1) hx hb (by omega) dX5_enterInOrder_16 ?_
    refine r_iald hx hb hK hP 4 0 rfl rfl (i := k - 1) (by omega) (by omega) dX5_enterInOrder_17 ?_
    have hg1 : g (k - 1) = gf (k - 1) := h1 _ (by omega)
    have hg2 := hgf (k - 1) (by omega)
    have hg3 : g (k - 1) < 40 := by omega
    refine r_iald hx hb hK hP 1 0 rfl rfl (i := g (k - 1)) (by omega) (by omega) dX5_enterInOrder_18 ?_
    have hb_0 := hsl (g (k - 1))
    refine lv_aload_n hx hb dX5_enterInOrder_19 rfl (lv_at hl 1 rfl) ?_
    refine va_get (D := D) (ci := 6) (v := .ref a0) (C := RX5) (T := TX5) (N := 5) hx hb hts i_X5_enterInOrder_X5 hown hK hP 0 rfl rfl 0 (by decide) (hts (.fieldLink RX5 9 "MemoryMap$Sections" "lengths" "[I") (List.mem_of_getElem? (i := 1) rfl)) (fun _ h9 => h9) rfl dX5_enterInOrder_20 ?_
    refine lv_iload_n hx hb dX5_enterInOrder_23 rfl (lv_at hl 2 rfl) ?_
    refine r_iald hx hb hK hP 1 0 rfl rfl (i := n) (by omega) (by omega) dX5_enterInOrder_24 ?_
    have hb_1 := hsl n
    refine r_icmp_ge (x := (sl (g (k - 1)))) (y := (sl n)) (tgt := 48) hx hb (by omega) (by omega) dX5_enterInOrder_25 (by decide) (fun c2 => ?_) (fun c2 => ?_)
    · refine lv_aload_n hx hb dX5_enterInOrder_48 rfl (lv_at hl 1 rfl) ?_
      refine va_get (D := D) (ci := 6) (v := .ref a3) (C := RX5) (T := TX5) (N := 5) hx hb hts i_X5_enterInOrder_X5 hown hK hP 0 rfl rfl 3 (by decide) (hts (.fieldLink RX5 21 "MemoryMap$Sections" "greatestFirst" "[I") (List.mem_of_getElem? (i := 2) rfl)) (fun _ h9 => h9) rfl dX5_enterInOrder_49 ?_
      refine lv_iload_n hx hb dX5_enterInOrder_52 rfl (lv_at hl 0 rfl) ?_
      refine lv_iload_n hx hb dX5_enterInOrder_53 rfl (lv_at hl 2 rfl) ?_
      refine r_iast hx hb hK hP hD hS 4 0 rfl rfl (i := k) (by omega) (by omega) dX5_enterInOrder_54 (fun H locs hP hD hS => ?_)
      have hP : va_P D vwCl [(h, .inr (6, [.ref a0, .ref a1, .ref a2, .ref a3, .int (nI n)])), (a0, .inl (t 0, 40, .inl (nF sl))), (a1, .inl (t 0, 40, .inl (nF sa))), (a2, .inl (t 0, 40, .inl (nF sk))), (a3, .inl (t 0, 40, .inl (nF (va_up g k n))))] H := hP
      have hD : va_D A [(h, .inr (6, [.ref a0, .ref a1, .ref a2, .ref a3, .int (nI n)])), (a0, .inl (t 0, 40, .inl (nF sl))), (a1, .inl (t 0, 40, .inl (nF sa))), (a2, .inl (t 0, 40, .inl (nF sk))), (a3, .inl (t 0, 40, .inl (nF (va_up g k n))))] := hD
      exact ret_Mv hx hb hr hlk (va_up g k n) (⟨k, ⟨hk, fun i hi => by rw [va_upc, if_neg (by omega)]; exact h1 i hi, by rw [va_upc, if_pos rfl], fun i q1 q2 => by rw [va_upc, if_neg (by omega)]; exact h2 i q1 q2⟩, Or.inr (by rw [← hg1]; exact c2), h3⟩) hP hD hS (Nat.le_of_ble_eq_true rfl) (Nat.le_of_ble_eq_true rfl) dX5_enterInOrder_55
    · refine lv_aload_n hx hb dX5_enterInOrder_28 rfl (lv_at hl 1 rfl) ?_
      refine va_get (D := D) (ci := 6) (v := .ref a3) (C := RX5) (T := TX5) (N := 5) hx hb hts i_X5_enterInOrder_X5 hown hK hP 0 rfl rfl 3 (by decide) (hts (.fieldLink RX5 21 "MemoryMap$Sections" "greatestFirst" "[I") (List.mem_of_getElem? (i := 2) rfl)) (fun _ h9 => h9) rfl dX5_enterInOrder_29 ?_
      refine lv_iload_n hx hb dX5_enterInOrder_32 rfl (lv_at hl 0 rfl) ?_
      refine lv_aload_n hx hb dX5_enterInOrder_33 rfl (lv_at hl 1 rfl) ?_
      refine va_get (D := D) (ci := 6) (v := .ref a3) (C := RX5) (T := TX5) (N := 5) hx hb hts i_X5_enterInOrder_X5 hown hK hP 0 rfl rfl 3 (by decide) (hts (.fieldLink RX5 21 "MemoryMap$Sections" "greatestFirst" "[I") (List.mem_of_getElem? (i := 2) rfl)) (fun _ h9 => h9) rfl dX5_enterInOrder_34 ?_
      refine lv_iload_n hx hb dX5_enterInOrder_37 rfl (lv_at hl 0 rfl) ?_
      refine lv_iconst (v := (nI 1)) hx hb dX5_enterInOrder_38 (by decide) ?_
      refine r_isub (x := k) (y := 1) hx hb (by omega) dX5_enterInOrder_39 ?_
      refine r_iald hx hb hK hP 4 0 rfl rfl (i := k - 1) (by omega) (by omega) dX5_enterInOrder_40 ?_
      refine r_iast hx hb hK hP hD hS 4 0 rfl rfl (i := k) (by omega) (by omega) dX5_enterInOrder_41 (fun H locs hP hD hS => ?_)
      have hP : va_P D vwCl [(h, .inr (6, [.ref a0, .ref a1, .ref a2, .ref a3, .int (nI n)])), (a0, .inl (t 0, 40, .inl (nF sl))), (a1, .inl (t 0, 40, .inl (nF sa))), (a2, .inl (t 0, 40, .inl (nF sk))), (a3, .inl (t 0, 40, .inl (nF (va_up g k (g (k - 1))))))] H := hP
      have hD : va_D A [(h, .inr (6, [.ref a0, .ref a1, .ref a2, .ref a3, .int (nI n)])), (a0, .inl (t 0, 40, .inl (nF sl))), (a1, .inl (t 0, 40, .inl (nF sa))), (a2, .inl (t 0, 40, .inl (nF sk))), (a3, .inl (t 0, 40, .inl (nF (va_up g k (g (k - 1))))))] := hD
      refine lv_iinc (v := (nI (k - 1))) (lv' := [(2, .int (nI (k - 1))), (0, .ref h), (1, .int (nI n))]) hx hb dX5_enterInOrder_42 hl (k := 0) rfl (r_dec1 (by omega)) (by decide) rfl (fun ls hl => ?_)
      refine lv_goto (tgt := 2) hx hb dX5_enterInOrder_45 (by decide) ?_
      refine ih (k - 1, va_up g k (g (k - 1))) _ _ _ ⟨hP, hD, hS, lv_sub hl [0, 1, 2] rfl, by omega, fun i hi => ?_, fun i q1 q2 => ?_, fun i q1 q2 => ?_⟩ (by show k - 1 < k; omega)
      · rw [va_upc, if_neg (by omega)]; exact h1 i (by omega)
      · rw [va_upc]
        split
        · next e => rw [e]; exact hg1
        · exact h2 i (by omega) q2
      · rcases Nat.lt_or_ge i k with q | q
        · have e : i = k - 1 := by omega
          rw [e, ← hg1]; exact c2
        · exact h3 i q q2

theorem i_X5_add_X5 : ∀ w ∈ wsX50, w ∈ wsX5_add := by decide +kernel
abbrev rm_X5_add : Room := { frames := 1, cells := 0, slots := 0, locals := 22 }
set_option maxHeartbeats 4000000 in
set_option maxRecDepth 100000 in
theorem c_X5_add (l : Launch) (D : va_G) (t : Nat → ClassId) (h a0 a1 a2 a3 n : Nat) (sl sa sk gf : Nat → Nat) (ln al ki : Nat) (hn : n ≤ 40) (hsl : ∀ k, sl k ≤ 65536) (hln : ln ≤ 65536) (hgf : ∀ k, k < n → gf k < n) : Mi l yX5_add wsX5_add rm_X5_add D (TY t) [.ref h, .int (nI ln), .int (nI al), .int (nI ki)] [(h, .inr (6, [.ref a0, .ref a1, .ref a2, .ref a3, .int (nI n)])), (a0, .inl (t 0, 40, .inl (nF sl))), (a1, .inl (t 0, 40, .inl (nF sa))), (a2, .inl (t 0, 40, .inl (nF sk))), (a3, .inl (t 0, 40, .inl (nF gf)))] (S := Nat × (Nat → Nat) × (Nat → Nat) × (Nat → Nat) × (Nat → Nat)) (fun r u => (40 ≤ n ∧ r = (-4) ∧ u = (n, sl, sa, sk, gf)) ∨ (n < 40 ∧ r = nI (n + 1) ∧ ∃ g, u = (n + 1, va_up sl n ln, va_up sa n al, va_up sk n ki, g) ∧ ∃ p, InsAt gf g n p n ∧ (p = 0 ∨ ln ≤ sl (gf (p - 1))) ∧ ∀ i, p ≤ i → i < n → sl (gf i) < ln)) (fun u => [(h, .inr (6, [.ref a0, .ref a1, .ref a2, .ref a3, .int (nI (u.1))])), (a0, .inl (t 0, 40, .inl (nF u.2.1))), (a1, .inl (t 0, 40, .inl (nF u.2.2.1))), (a2, .inl (t 0, 40, .inl (nF u.2.2.2.1))), (a3, .inl (t 0, 40, .inl (nF u.2.2.2.2)))]) := by
  refine start_Mi cX5_add 4 (some .int) (by decide) rfl (Nat.le_of_ble_eq_true rfl) ?_
  intro p e s m below meth c A ls B hin hP hD hS hA hl
  obtain ⟨hx, hb, hr, hts, hown, hlk, hml, hN, hK⟩ := B
  have hl : lv_has ls 4 [(0, .ref h), (1, .int (nI ln)), (2, .int (nI al)), (3, .int (nI ki))] := hl
  refine lv_aload_n hx hb dX5_add_0 rfl (lv_at hl 0 rfl) ?_
  refine va_get (D := D) (ci := 6) (v := .int (nI n)) (C := RX5) (T := TX5) (N := 5) hx hb hts i_X5_add_X5 hown hK hP 0 rfl rfl 4 (by decide) (hts (.fieldLink RX5 24 "MemoryMap$Sections" "count" "I") (List.mem_of_getElem? (i := 1) rfl)) (fun _ h9 => h9) rfl dX5_add_1 ?_
  refine lv_bipush (v := (nI 40)) hx hb dX5_add_4 (by decide) ?_
  refine r_icmp_lt (x := n) (y := 40) (tgt := 12) hx hb (by omega) (by omega) dX5_add_6 (by decide) (fun c1 => ?_) (fun c1 => ?_)
  · refine lv_aload_n hx hb dX5_add_12 rfl (lv_at hl 0 rfl) ?_
    refine va_get (D := D) (ci := 6) (v := .ref a0) (C := RX5) (T := TX5) (N := 5) hx hb hts i_X5_add_X5 hown hK hP 0 rfl rfl 0 (by decide) (hts (.fieldLink RX5 9 "MemoryMap$Sections" "lengths" "[I") (List.mem_of_getElem? (i := 2) rfl)) (fun _ h9 => h9) rfl dX5_add_13 ?_
    refine lv_aload_n hx hb dX5_add_16 rfl (lv_at hl 0 rfl) ?_
    refine va_get (D := D) (ci := 6) (v := .int (nI n)) (C := RX5) (T := TX5) (N := 5) hx hb hts i_X5_add_X5 hown hK hP 0 rfl rfl 4 (by decide) (hts (.fieldLink RX5 24 "MemoryMap$Sections" "count" "I") (List.mem_of_getElem? (i := 1) rfl)) (fun _ h9 => h9) rfl dX5_add_17 ?_
    refine lv_iload_n hx hb dX5_add_20 rfl (lv_at hl 1 rfl) ?_
    refine r_iast hx hb hK hP hD hS 1 0 rfl rfl (i := n) (by omega) (by omega) dX5_add_21 (fun H locs hP hD hS => ?_)
    have hP : va_P D vwCl [(h, .inr (6, [.ref a0, .ref a1, .ref a2, .ref a3, .int (nI n)])), (a0, .inl (t 0, 40, .inl (nF (va_up sl n ln)))), (a1, .inl (t 0, 40, .inl (nF sa))), (a2, .inl (t 0, 40, .inl (nF sk))), (a3, .inl (t 0, 40, .inl (nF gf)))] H := hP
    have hD : va_D A [(h, .inr (6, [.ref a0, .ref a1, .ref a2, .ref a3, .int (nI n)])), (a0, .inl (t 0, 40, .inl (nF (va_up sl n ln)))), (a1, .inl (t 0, 40, .inl (nF sa))), (a2, .inl (t 0, 40, .inl (nF sk))), (a3, .inl (t 0, 40, .inl (nF gf)))] := hD
    refine lv_aload_n hx hb dX5_add_22 rfl (lv_at hl 0 rfl) ?_
    refine va_get (D := D) (ci := 6) (v := .ref a1) (C := RX5) (T := TX5) (N := 5) hx hb hts i_X5_add_X5 hown hK hP 0 rfl rfl 1 (by decide) (hts (.fieldLink RX5 15 "MemoryMap$Sections" "aligns" "[I") (List.mem_of_getElem? (i := 3) rfl)) (fun _ h9 => h9) rfl dX5_add_23 ?_
    refine lv_aload_n hx hb dX5_add_26 rfl (lv_at hl 0 rfl) ?_
    refine va_get (D := D) (ci := 6) (v := .int (nI n)) (C := RX5) (T := TX5) (N := 5) hx hb hts i_X5_add_X5 hown hK hP 0 rfl rfl 4 (by decide) (hts (.fieldLink RX5 24 "MemoryMap$Sections" "count" "I") (List.mem_of_getElem? (i := 1) rfl)) (fun _ h9 => h9) rfl dX5_add_27 ?_
    refine lv_iload_n hx hb dX5_add_30 rfl (lv_at hl 2 rfl) ?_
    refine r_iast hx hb hK hP hD hS 2 0 rfl rfl (i := n) (by omega) (by omega) dX5_add_31 (fun H locs hP hD hS => ?_)
    have hP : va_P D vwCl [(h, .inr (6, [.ref a0, .ref a1, .ref a2, .ref a3, .int (nI n)])), (a0, .inl (t 0, 40, .inl (nF (va_up sl n ln)))), (a1, .inl (t 0, 40, .inl (nF (va_up sa n al)))), (a2, .inl (t 0, 40, .inl (nF sk))), (a3, .inl (t 0, 40, .inl (nF gf)))] H := hP
    have hD : va_D A [(h, .inr (6, [.ref a0, .ref a1, .ref a2, .ref a3, .int (nI n)])), (a0, .inl (t 0, 40, .inl (nF (va_up sl n ln)))), (a1, .inl (t 0, 40, .inl (nF (va_up sa n al)))), (a2, .inl (t 0, 40, .inl (nF sk))), (a3, .inl (t 0, 40, .inl (nF gf)))] := hD
    refine lv_aload_n hx hb dX5_add_32 rfl (lv_at hl 0 rfl) ?_
    refine va_get (D := D) (ci := 6) (v := .ref a2) (C := RX5) (T := TX5) (N := 5) hx hb hts i_X5_add_X5 hown hK hP 0 rfl rfl 2 (by decide) (hts (.fieldLink RX5 18 "MemoryMap$Sections" "kinds" "[I") (List.mem_of_getElem? (i := 4) rfl)) (fun _ h9 => h9) rfl dX5_add_33 ?_
    refine lv_aload_n hx hb dX5_add_36 rfl (lv_at hl 0 rfl) ?_
    refine va_get (D := D) (ci := 6) (v := .int (nI n)) (C := RX5) (T := TX5) (N := 5) hx hb hts i_X5_add_X5 hown hK hP 0 rfl rfl 4 (by decide) (hts (.fieldLink RX5 24 "MemoryMap$Sections" "count" "I") (List.mem_of_getElem? (i := 1) rfl)) (fun _ h9 => h9) rfl dX5_add_37 ?_
    refine lv_iload_n hx hb dX5_add_40 rfl (lv_at hl 3 rfl) ?_
    refine r_iast hx hb hK hP hD hS 3 0 rfl rfl (i := n) (by omega) (by omega) dX5_add_41 (fun H locs hP hD hS => ?_)
    have hP : va_P D vwCl [(h, .inr (6, [.ref a0, .ref a1, .ref a2, .ref a3, .int (nI n)])), (a0, .inl (t 0, 40, .inl (nF (va_up sl n ln)))), (a1, .inl (t 0, 40, .inl (nF (va_up sa n al)))), (a2, .inl (t 0, 40, .inl (nF (va_up sk n ki)))), (a3, .inl (t 0, 40, .inl (nF gf)))] H := hP
    have hD : va_D A [(h, .inr (6, [.ref a0, .ref a1, .ref a2, .ref a3, .int (nI n)])), (a0, .inl (t 0, 40, .inl (nF (va_up sl n ln)))), (a1, .inl (t 0, 40, .inl (nF (va_up sa n al)))), (a2, .inl (t 0, 40, .inl (nF (va_up sk n ki)))), (a3, .inl (t 0, 40, .inl (nF gf)))] := hD
    refine lv_aload_n hx hb dX5_add_42 rfl (lv_at hl 0 rfl) ?_
    refine lv_aload_n hx hb dX5_add_43 rfl (lv_at hl 0 rfl) ?_
    refine va_get (D := D) (ci := 6) (v := .int (nI n)) (C := RX5) (T := TX5) (N := 5) hx hb hts i_X5_add_X5 hown hK hP 0 rfl rfl 4 (by decide) (hts (.fieldLink RX5 24 "MemoryMap$Sections" "count" "I") (List.mem_of_getElem? (i := 1) rfl)) (fun _ h9 => h9) rfl dX5_add_44 ?_
    have hsl2 : ∀ k, va_up sl n ln k ≤ 65536 := fun k => by rw [va_upc]; split; exact hln; exact hsl k
    refine call_Mv (wr := []) (wn := fun g : Nat → Nat => [(h, .inr (6, [.ref a0, .ref a1, .ref a2, .ref a3, .int (nI n)])), (a0, .inl (t 0, 40, .inl (nF (va_up sl n ln)))), (a1, .inl (t 0, 40, .inl (nF (va_up sa n al)))), (a2, .inl (t 0, 40, .inl (nF (va_up sk n ki)))), (a3, .inl (t 0, 40, .inl (nF g)))]) (va_runV (As := [.int (nI n)]) (rest := []) ⟨hx, hb, hml, hown, hts⟩ (c_X5_enterInOrder l D t h a0 a1 a2 a3 n (va_up sl n ln) (va_up sa n al) (va_up sk n ki) gf c1 hsl2 hgf _) (cwV 1 hts gX5_add_X5_enterInOrder rfl rfl rfl (by decide +kernel) ⟨Nat.le_of_ble_eq_true rfl, Nat.le_of_ble_eq_true rfl⟩) (preV hP hD hK hN [0, 1, 2, 3, 4] 6 0 rfl (by decide) rfl rfl rfl) rfl rfl hl.1 rfl (lv_room (Nat.le_of_ble_eq_true rfl)) dX5_add_47 ⟨Nat.le_of_ble_eq_true rfl, Nat.le_of_ble_eq_true rfl⟩) hP hD hS hA [0, 1, 2, 3, 4] [] [0, 1, 2, 3, 4] rfl rfl (by decide) (by decide) (fun _ => rfl) (by decide) (fun g H locs hw hP hD hS hz => ?_)
    have hP : va_P D vwCl [(h, .inr (6, [.ref a0, .ref a1, .ref a2, .ref a3, .int (nI n)])), (a0, .inl (t 0, 40, .inl (nF (va_up sl n ln)))), (a1, .inl (t 0, 40, .inl (nF (va_up sa n al)))), (a2, .inl (t 0, 40, .inl (nF (va_up sk n ki)))), (a3, .inl (t 0, 40, .inl (nF g)))] H := hP
    have hD : va_D A [(h, .inr (6, [.ref a0, .ref a1, .ref a2, .ref a3, .int (nI n)])), (a0, .inl (t 0, 40, .inl (nF (va_up sl n ln)))), (a1, .inl (t 0, 40, .inl (nF (va_up sa n al)))), (a2, .inl (t 0, 40, .inl (nF (va_up sk n ki)))), (a3, .inl (t 0, 40, .inl (nF g)))] := hD
    refine lv_aload_n hx hb dX5_add_50 rfl (lv_at hl 0 rfl) ?_
    refine lv_dup hx hb dX5_add_51 rfl ?_
    refine va_get (D := D) (ci := 6) (v := .int (nI n)) (C := RX5) (T := TX5) (N := 5) hx hb hts i_X5_add_X5 hown hK hP 0 rfl rfl 4 (by decide) (hts (.fieldLink RX5 24 "MemoryMap$Sections" "count" "I") (List.mem_of_getElem? (i := 1) rfl)) (fun _ h9 => h9) rfl dX5_add_52 ?_
    refine lv_iconst (v := (nI 1)) hx hb dX5_add_55 (by decide) ?_
    refine r_iadd (x := n) (y := 1) hx hb dX5_add_56 ?_
    refine va_put (D := D) (ci := 6) (v := .int (nI (n + 1))) (ty := .int) (C := RX5) (T := TX5) (N := 5) hx hb hts i_X5_add_X5 tyX5 tyX5_ok nmX5 hown hK hP hD hS 0 rfl rfl 4 (by decide) (hts (.fieldLink RX5 24 "MemoryMap$Sections" "count" "I") (List.mem_of_getElem? (i := 1) rfl)) (fun _ h9 => h9) rfl (by decide +kernel) rfl rfl (Nat.le_of_ble_eq_true rfl) dX5_add_57 (fun H locs hP hD hS => ?_)
    have hP : va_P D vwCl [(h, .inr (6, [.ref a0, .ref a1, .ref a2, .ref a3, .int (nI (n + 1))])), (a0, .inl (t 0, 40, .inl (nF (va_up sl n ln)))), (a1, .inl (t 0, 40, .inl (nF (va_up sa n al)))), (a2, .inl (t 0, 40, .inl (nF (va_up sk n ki)))), (a3, .inl (t 0, 40, .inl (nF g)))] H := hP
    have hD : va_D A [(h, .inr (6, [.ref a0, .ref a1, .ref a2, .ref a3, .int (nI (n + 1))])), (a0, .inl (t 0, 40, .inl (nF (va_up sl n ln)))), (a1, .inl (t 0, 40, .inl (nF (va_up sa n al)))), (a2, .inl (t 0, 40, .inl (nF (va_up sk n ki)))), (a3, .inl (t 0, 40, .inl (nF g)))] := hD
    refine lv_aload_n hx hb dX5_add_60 rfl (lv_at hl 0 rfl) ?_
    refine va_get (D := D) (ci := 6) (v := .int (nI (n + 1))) (C := RX5) (T := TX5) (N := 5) hx hb hts i_X5_add_X5 hown hK hP 0 rfl rfl 4 (by decide) (hts (.fieldLink RX5 24 "MemoryMap$Sections" "count" "I") (List.mem_of_getElem? (i := 1) rfl)) (fun _ h9 => h9) rfl dX5_add_61 ?_
    obtain ⟨p, hp, hp1, hp2⟩ := hw
    have e0 : va_up sl n ln n = ln := va_up_self _ _ _
    have e1 : ∀ i, i < n → va_up sl n ln (gf i) = sl (gf i) := fun i hi => va_up_ne _ _ (Nat.ne_of_lt (hgf i hi))
    rw [e0] at hp1 hp2
    exact ret_Mi hx hb hr hlk ((n + 1, va_up sl n ln, va_up sa n al, va_up sk n ki, g)) (Or.inr ⟨c1, rfl, g, rfl, p, hp, (Nat.eq_zero_or_pos p).imp id (fun z => hp1.elim (fun q => absurd q (by omega)) (fun q => by rw [e1 _ (by have := hp.1; omega)] at q; exact q)), fun i q1 q2 => by have q := hp2 i q1 q2; rw [e1 i q2] at q; exact q⟩) hP hD hS (Nat.le_of_ble_eq_true rfl) (Nat.le_of_ble_eq_true rfl) dX5_add_64
  · refine lv_bipush (v := ((-4))) hx hb dX5_add_9 (by decide) ?_
    exact ret_Mi hx hb hr hlk ((n, sl, sa, sk, gf)) (Or.inl ⟨c1, rfl, rfl⟩) hP hD hS (Nat.le_of_ble_eq_true rfl) (Nat.le_of_ble_eq_true rfl) dX5_add_11
end
section
/-- the least multiple of d from a on -/
def upA (a d : Nat) : Nat := (a + d - 1) / d * d
theorem upA_dvd (a d : Nat) : d ∣ upA a d := Nat.dvd_mul_left _ _
theorem upA_ge {a d : Nat} (h : 1 ≤ d) : a ≤ upA a d := by
  unfold upA
  have h1 := Nat.div_add_mod (a + d - 1) d
  have h2 := Nat.mod_lt (a + d - 1) (show d > 0 by omega)
  rw [Nat.mul_comm] at h1
  omega
theorem upA_lt {a d : Nat} (h : 1 ≤ d) : upA a d < a + d := by
  unfold upA
  have h1 := Nat.div_mul_le_self (a + d - 1) d
  omega
theorem upA_least {a d b : Nat} (h : 1 ≤ d) (hb : d ∣ b) (hab : a ≤ b) : upA a d ≤ b := by
  obtain ⟨k, rfl⟩ := hb
  unfold upA
  have h1 : (a + d - 1) / d ≤ k := by
    rw [Nat.div_le_iff_le_mul_add_pred (by omega)]
    omega
  rw [Nat.mul_comm d k]
  exact Nat.mul_le_mul_right d h1
/-- so many octets from a on are free of the c stretches -/
def Fre (ts te : Nat → Nat) (c a len : Nat) : Prop := ∀ i, i < c → te i ≤ a ∨ a + len ≤ ts i
theorem i_X6_clear_X6 : ∀ w ∈ wsX60, w ∈ wsX6_clear := by decide +kernel
abbrev rm_X6_clear : Room := { frames := 0, cells := 0, slots := 0, locals := 0 }
set_option maxHeartbeats 4000000 in
set_option maxRecDepth 100000 in
theorem c_X6_clear (l : Launch) (D : va_G) (t : Nat → ClassId) (h a0 a1 n : Nat) (ts te : Nat → Nat)  : Mv l yX6_clear wsX6_clear rm_X6_clear D (TY t) [.ref h] [(h, .inr (7, [.ref a0, .ref a1, .int (nI n)])), (a0, .inl (t 0, 40, .inl (nF ts))), (a1, .inl (t 0, 40, .inl (nF te)))] (S := Unit) (fun _ => True) (fun _ => [(h, .inr (7, [.ref a0, .ref a1, .int (nI 0)])), (a0, .inl (t 0, 40, .inl (nF ts))), (a1, .inl (t 0, 40, .inl (nF te)))]) := by
  refine start_Mv cX6_clear 1 none (by decide) rfl (Nat.le_of_ble_eq_true rfl) ?_
  intro p e s m below meth c A ls B hin hP hD hS hA hl
  obtain ⟨hx, hb, hr, hts, hown, hlk, hml, hN, hK⟩ := B
  have hl : lv_has ls 1 [(0, .ref h)] := hl
  refine lv_aload_n hx hb dX6_clear_0 rfl (lv_at hl 0 rfl) ?_
  refine lv_iconst (v := (nI 0)) hx hb dX6_clear_1 (by decide) ?_
  refine va_put (D := D) (ci := 7) (v := .int (nI 0)) (ty := .int) (C := RX6) (T := TX6) (N := 3) hx hb hts i_X6_clear_X6 tyX6 tyX6_ok nmX6 hown hK hP hD hS 0 rfl rfl 2 (by decide) (hts (.fieldLink RX6 18 "MemoryMap$Taken" "count" "I") (List.mem_of_getElem? (i := 1) rfl)) (fun _ h9 => h9) rfl (by decide +kernel) rfl rfl (Nat.le_of_ble_eq_true rfl) dX6_clear_2 (fun H locs hP hD hS => ?_)
  have hP : va_P D vwCl [(h, .inr (7, [.ref a0, .ref a1, .int (nI 0)])), (a0, .inl (t 0, 40, .inl (nF ts))), (a1, .inl (t 0, 40, .inl (nF te)))] H := hP
  have hD : va_D A [(h, .inr (7, [.ref a0, .ref a1, .int (nI 0)])), (a0, .inl (t 0, 40, .inl (nF ts))), (a1, .inl (t 0, 40, .inl (nF te)))] := hD
  exact ret_Mv hx hb hr hlk (()) (trivial) hP hD hS (Nat.le_of_ble_eq_true rfl) (Nat.le_of_ble_eq_true rfl) dX6_clear_5

theorem i_X6_leastFree_X6 : ∀ w ∈ wsX60, w ∈ wsX6_leastFree := by decide +kernel
abbrev rm_X6_leastFree : Room := { frames := 1, cells := 0, slots := 0, locals := 21 }
set_option maxHeartbeats 4000000 in
set_option maxRecDepth 100000 in
theorem c_X6_leastFree (l : Launch) (D : va_G) (t : Nat → ClassId) (h a0 a1 n : Nat) (ts te : Nat → Nat) (fr len al : Nat) (hn : n ≤ 40) (hts1 : ∀ k, ts k ≤ 65536) (hte1 : ∀ k, te k ≤ 65536) (hso : ∀ i j, i < j → j < n → te i ≤ ts j) (hlt : ∀ i, i < n → ts i < te i) (hfr : fr ≤ 65536) (hlen : len ≤ 65536) (hal : 1 ≤ al) (hal2 : al ≤ 65536) : Qi l yX6_leastFree wsX6_leastFree rm_X6_leastFree D (TY t) [.ref h, .int (nI fr), .int (nI len), .int (nI al)] [(h, .inr (7, [.ref a0, .ref a1, .int (nI n)])), (a0, .inl (t 0, 40, .inl (nF ts))), (a1, .inl (t 0, 40, .inl (nF te)))] (fun r => ∃ a, r = nI a ∧ al ∣ a ∧ fr ≤ a ∧ Fre ts te n a len ∧ (∀ b, fr ≤ b → b < a → al ∣ b → ¬ Fre ts te n b len) ∧ a ≤ 200000) := by
  refine start_Qi cX6_leastFree 6 (some .int) (by decide) rfl (Nat.le_of_ble_eq_true rfl) ?_
  intro p e s m below meth c ls B hP hD hl
  obtain ⟨hx, hb, hr, hts, hown, hlk, hml, hN, hK⟩ := B
  have hl : lv_has ls 6 [(0, .ref h), (1, .int (nI fr)), (2, .int (nI len)), (3, .int (nI al))] := hl
  refine lv_iload_n hx hb dX6_leastFree_0 rfl (lv_at hl 1 rfl) ?_
  refine lv_iload_n hx hb dX6_leastFree_1 rfl (lv_at hl 3 rfl) ?_
  refine vp_callSi (va_Run.run (va_runS (As := [.int (nI fr), .int (nI al)]) (rest := []) ⟨hx, hb, hml, hown, hts⟩ (c_X6_alignedUp l D t fr al (by omega) hal (by omega) _) (va_cwS 2 hts gX6_leastFree_X6_alignedUp rfl rfl rfl (by decide +kernel) ⟨Nat.le_of_ble_eq_true rfl, Nat.le_of_ble_eq_true rfl⟩) (preS hP hD hK hN [] rfl (by decide)) rfl rfl hl.1 rfl (lv_room (Nat.le_of_ble_eq_true rfl)) dX6_leastFree_2 ⟨Nat.le_of_ble_eq_true rfl, Nat.le_of_ble_eq_true rfl⟩)) (fun r hw => ?_)
  obtain ⟨z, rfl, hz⟩ : ∃ z, r = nI z ∧ z = upA fr al := ⟨_, hw, rfl⟩
  refine lv_istore (lv' := [(4, .int (nI z)), (0, .ref h), (1, .int (nI fr)), (2, .int (nI len)), (3, .int (nI al))]) hx hb dX6_leastFree_5 hl (by decide) rfl (fun ls hl => ?_)
  refine lv_iconst (v := (nI 0)) hx hb dX6_leastFree_7 (by decide) ?_
  refine lv_istore (lv' := [(5, .int (nI 0)), (4, .int (nI z)), (0, .ref h), (1, .int (nI fr)), (2, .int (nI len)), (3, .int (nI al))]) hx hb dX6_leastFree_8 hl (by decide) rfl (fun ls hl => ?_)
  have hz1 := upA_ge (a := fr) hal
  have hz2 := upA_lt (a := fr) hal
  refine W_loop (σ := Nat × Nat) (fun x => n - x.1) (fun x H locs ls => match x with | (i, z) => H = s.heap ∧ locs = [] ∧ lv_has ls 6 [(5, .int (nI i)), (4, .int (nI z)), (0, .ref h), (1, .int (nI fr)), (2, .int (nI len)), (3, .int (nI al))] ∧ i ≤ n ∧ al ∣ z ∧ fr ≤ z ∧ (∀ j, j < i → te j ≤ z) ∧ (∀ b, fr ≤ b → b < z → al ∣ b → ¬ Fre ts te n b len) ∧ z ≤ 200000) ?_ (0, z) _ _ _ ⟨rfl, rfl, hl, Nat.zero_le _, by rw [hz]; exact upA_dvd _ _, by omega, fun j hj => absurd hj (Nat.not_lt_zero _), fun b h1 h2 h3 => absurd (upA_least hal h3 h1) (by omega), by omega⟩
  clear hz hz1 hz2 hl
  rintro ⟨i, z⟩ _ _ ls ⟨rfl, rfl, hl, hi, hd, hge, hbe, hmin, hzb⟩ ih
  refine lv_iload hx hb dX6_leastFree_10 (lv_at hl 0 rfl) ?_
  refine lv_aload_n hx hb dX6_leastFree_12 rfl (lv_at hl 2 rfl) ?_
  refine va_get (D := D) (ci := 7) (v := .int (nI n)) (C := RX6) (T := TX6) (N := 3) hx hb hts i_X6_leastFree_X6 hown hK hP 0 rfl rfl 2 (by decide) (hts (.fieldLink RX6 18 "MemoryMap$Taken" "count" "I") (List.mem_of_getElem? (i := 1) rfl)) (fun _ h9 => h9) rfl dX6_leastFree_13 ?_
  refine r_icmp_ge (x := i) (y := n) (tgt := 64) hx hb (by omega) (by omega) dX6_leastFree_16 (by decide) (fun c1 => ?_) (fun c1 => ?_)
  · refine lv_iload hx hb dX6_leastFree_64 (lv_at hl 1 rfl) ?_
    exact ret_Qi hx hb hr hlk (⟨z, rfl, hd, hge, fun j hj => Or.inl (hbe j (by omega)), hmin, hzb⟩) dX6_leastFree_66
  · refine lv_aload_n hx hb dX6_leastFree_19 rfl (lv_at hl 2 rfl) ?_
    refine va_get (D := D) (ci := 7) (v := .ref a0) (C := RX6) (T := TX6) (N := 3) hx hb hts i_X6_leastFree_X6 hown hK hP 0 rfl rfl 0 (by decide) (hts (.fieldLink RX6 9 "MemoryMap$Taken" "starts" "[I") (List.mem_of_getElem? (i := 2) rfl)) (fun _ h9 => h9) rfl dX6_leastFree_20 ?_
    refine lv_iload hx hb dX6_leastFree_23 (lv_at hl 0 rfl) ?_
    refine r_iald hx hb hK hP 1 0 rfl rfl (i := i) (by omega) (by omega) dX6_leastFree_25 ?_
    have hb_0 := hts1 i
    refine lv_iload hx hb dX6_leastFree_26 (lv_at hl 1 rfl) ?_
    refine lv_iload_n hx hb dX6_leastFree_28 rfl (lv_at hl 4 rfl) ?_
    refine r_iadd (x := z) (y := len) hx hb dX6_leastFree_29 ?_
    refine r_icmp_ge (x := (ts i)) (y := (z + len)) (tgt := 64) hx hb (by omega) (by omega) dX6_leastFree_30 (by decide) (fun c2 => ?_) (fun c2 => ?_)
    · refine lv_iload hx hb dX6_leastFree_64 (lv_at hl 1 rfl) ?_
      exact ret_Qi hx hb hr hlk (⟨z, rfl, hd, hge, fun j hj => (Nat.lt_or_ge j i).elim (fun q => Or.inl (hbe j q)) (fun q => Or.inr ((Nat.eq_or_lt_of_le q).elim (fun e => e ▸ c2) (fun q2 => by have := hso i j q2 hj; have := hlt i c1; omega))), hmin, hzb⟩) dX6_leastFree_66
    · refine lv_aload_n hx hb dX6_leastFree_33 rfl (lv_at hl 2 rfl) ?_
      refine va_get (D := D) (ci := 7) (v := .ref a1) (C := RX6) (T := TX6) (N := 3) hx hb hts i_X6_leastFree_X6 hown hK hP 0 rfl rfl 1 (by decide) (hts (.fieldLink RX6 15 "MemoryMap$Taken" "ends" "[I") (List.mem_of_getElem? (i := 3) rfl)) (fun _ h9 => h9) rfl dX6_leastFree_34 ?_
      refine lv_iload hx hb dX6_leastFree_37 (lv_at hl 0 rfl) ?_
      refine r_iald hx hb hK hP 2 0 rfl rfl (i := i) (by omega) (by omega) dX6_leastFree_39 ?_
      have hb_1 := hte1 i
      refine lv_iload hx hb dX6_leastFree_40 (lv_at hl 1 rfl) ?_
      refine r_icmp_le (x := (te i)) (y := z) (tgt := 58) hx hb (by omega) (by omega) dX6_leastFree_42 (by decide) (fun c3 => ?_) (fun c3 => ?_)
      · refine lv_iinc (v := (nI (i + 1))) (lv' := [(5, .int (nI (i + 1))), (4, .int (nI z)), (0, .ref h), (1, .int (nI fr)), (2, .int (nI len)), (3, .int (nI al))]) hx hb dX6_leastFree_58 hl (k := 0) rfl (r_inc1 _) (by decide) rfl (fun ls hl => ?_)
        refine lv_goto (tgt := 10) hx hb dX6_leastFree_61 (by decide) ?_
        refine ih (i + 1, z) _ _ _ ⟨rfl, rfl, lv_sub hl [0, 1, 2, 3, 4, 5] rfl, by omega, hd, hge, fun j hj => ?_, hmin, hzb⟩ (by show n - (i + 1) < n - i; omega)
        rcases Nat.lt_succ_iff_lt_or_eq.mp hj with hj | rfl
        · exact hbe j hj
        · exact c3
      · refine lv_aload_n hx hb dX6_leastFree_45 rfl (lv_at hl 2 rfl) ?_
        refine va_get (D := D) (ci := 7) (v := .ref a1) (C := RX6) (T := TX6) (N := 3) hx hb hts i_X6_leastFree_X6 hown hK hP 0 rfl rfl 1 (by decide) (hts (.fieldLink RX6 15 "MemoryMap$Taken" "ends" "[I") (List.mem_of_getElem? (i := 3) rfl)) (fun _ h9 => h9) rfl dX6_leastFree_46 ?_
        refine lv_iload hx hb dX6_leastFree_49 (lv_at hl 0 rfl) ?_
        refine r_iald hx hb hK hP 2 0 rfl rfl (i := i) (by omega) (by omega) dX6_leastFree_51 ?_
        have hb_2 := hte1 i
        refine lv_iload_n hx hb dX6_leastFree_52 rfl (lv_at hl 5 rfl) ?_
        have hteb := hte1 i
        refine vp_callSi (va_Run.run (va_runS (As := [.int (nI (te i)), .int (nI al)]) (rest := []) ⟨hx, hb, hml, hown, hts⟩ (c_X6_alignedUp l D t (te i) al (by omega) hal (by omega) _) (va_cwS 2 hts gX6_leastFree_X6_alignedUp rfl rfl rfl (by decide +kernel) ⟨Nat.le_of_ble_eq_true rfl, Nat.le_of_ble_eq_true rfl⟩) (preS hP hD hK hN [] rfl (by decide)) rfl rfl hl.1 rfl (lv_room (Nat.le_of_ble_eq_true rfl)) dX6_leastFree_53 ⟨Nat.le_of_ble_eq_true rfl, Nat.le_of_ble_eq_true rfl⟩)) (fun r hw => ?_)
        obtain ⟨y, rfl, hy⟩ : ∃ z, r = nI z ∧ z = upA (te i) al := ⟨_, hw, rfl⟩
        have hy1 := upA_ge (a := te i) hal
        have hy2 := upA_lt (a := te i) hal
        refine lv_istore (lv' := [(4, .int (nI y)), (5, .int (nI i)), (0, .ref h), (1, .int (nI fr)), (2, .int (nI len)), (3, .int (nI al))]) hx hb dX6_leastFree_56 hl (by decide) rfl (fun ls hl => ?_)
        refine lv_iinc (v := (nI (i + 1))) (lv' := [(5, .int (nI (i + 1))), (4, .int (nI y)), (0, .ref h), (1, .int (nI fr)), (2, .int (nI len)), (3, .int (nI al))]) hx hb dX6_leastFree_58 hl (k := 1) rfl (r_inc1 _) (by decide) rfl (fun ls hl => ?_)
        refine lv_goto (tgt := 10) hx hb dX6_leastFree_61 (by decide) ?_
        refine ih (i + 1, y) _ _ _ ⟨rfl, rfl, lv_sub hl [0, 1, 2, 3, 4, 5] rfl, by omega, by rw [hy]; exact upA_dvd _ _, by omega, fun j hj => ?_, fun b q1 q2 q3 => ?_, by omega⟩ (by show n - (i + 1) < n - i; omega)
        · rcases Nat.lt_succ_iff_lt_or_eq.mp hj with hj | rfl
          · have := hbe j hj; omega
          · omega
        · rcases Nat.lt_or_ge b z with q | q
          · exact hmin b q1 q q3
          · intro hf
            rcases hf i c1 with f | f
            · have := upA_least hal q3 f; omega
            · omega

theorem i_X6_add_X6 : ∀ w ∈ wsX60, w ∈ wsX6_add := by decide +kernel
abbrev rm_X6_add : Room := { frames := 0, cells := 0, slots := 0, locals := 0 }
set_option maxHeartbeats 4000000 in
set_option maxRecDepth 100000 in
theorem c_X6_add (l : Launch) (D : va_G) (t : Nat → ClassId) (h a0 a1 n : Nat) (ts te : Nat → Nat) (st en : Nat) (hn : n < 40) (hts1 : ∀ k, ts k ≤ 65536) (hst : st ≤ 65536) : Mv l yX6_add wsX6_add rm_X6_add D (TY t) [.ref h, .int (nI st), .int (nI en)] [(h, .inr (7, [.ref a0, .ref a1, .int (nI n)])), (a0, .inl (t 0, 40, .inl (nF ts))), (a1, .inl (t 0, 40, .inl (nF te)))] (S := Nat × (Nat → Nat) × (Nat → Nat)) (fun u => ∃ g1 g2, u = (n + 1, g1, g2) ∧ ∃ p, InsAt ts g1 n p st ∧ InsAt te g2 n p en ∧ (p = 0 ∨ ts (p - 1) ≤ st) ∧ (∀ i, p ≤ i → i < n → st < ts i) ∧ (∀ k, n < k → g1 k = ts k ∧ g2 k = te k)) (fun u => [(h, .inr (7, [.ref a0, .ref a1, .int (nI (u.1))])), (a0, .inl (t 0, 40, .inl (nF u.2.1))), (a1, .inl (t 0, 40, .inl (nF u.2.2)))]) := by
  refine start_Mv cX6_add 4 none (by decide) rfl (Nat.le_of_ble_eq_true rfl) ?_
  intro p e s m below meth c A ls B hin hP hD hS hA hl
  obtain ⟨hx, hb, hr, hts, hown, hlk, hml, hN, hK⟩ := B
  have hl : lv_has ls 4 [(0, .ref h), (1, .int (nI st)), (2, .int (nI en))] := hl
  refine lv_aload_n hx hb dX6_add_0 rfl (lv_at hl 0 rfl) ?_
  refine va_get (D := D) (ci := 7) (v := .int (nI n)) (C := RX6) (T := TX6) (N := 3) hx hb hts i_X6_add_X6 hown hK hP 0 rfl rfl 2 (by decide) (hts (.fieldLink RX6 18 "MemoryMap$Taken" "count" "I") (List.mem_of_getElem? (i := 1) rfl)) (fun _ h9 => h9) rfl dX6_add_1 ?_
  refine lv_bipush (v := (nI 40)) hx hb dX6_add_4 (by decide) ?_
  refine r_icmp_lt (x := n) (y := 40) (tgt := 10) hx hb (by omega) (by omega) dX6_add_6 (by decide) (fun c1 => ?_) (fun c1 => ?_)
  · refine lv_aload_n hx hb dX6_add_10 rfl (lv_at hl 0 rfl) ?_
    refine va_get (D := D) (ci := 7) (v := .int (nI n)) (C := RX6) (T := TX6) (N := 3) hx hb hts i_X6_add_X6 hown hK hP 0 rfl rfl 2 (by decide) (hts (.fieldLink RX6 18 "MemoryMap$Taken" "count" "I") (List.mem_of_getElem? (i := 1) rfl)) (fun _ h9 => h9) rfl dX6_add_11 ?_
    refine lv_istore_n (lv' := [(3, .int (nI n)), (0, .ref h), (1, .int (nI st)), (2, .int (nI en))]) hx hb dX6_add_14 rfl hl (by decide) rfl (fun ls hl => ?_)
    refine W_loop (σ := Nat × (Nat → Nat) × (Nat → Nat)) (fun x => x.1) (fun x H locs ls => match x with | (k, f, g) => va_P D vwCl [(h, .inr (7, [.ref a0, .ref a1, .int (nI n)])), (a0, .inl (t 0, 40, .inl (nF f))), (a1, .inl (t 0, 40, .inl (nF g)))] H ∧ va_D A [(h, .inr (7, [.ref a0, .ref a1, .int (nI n)])), (a0, .inl (t 0, 40, .inl (nF f))), (a1, .inl (t 0, 40, .inl (nF g)))] ∧ va_S A s.heap H locs ∧ lv_has ls 4 [(3, .int (nI k)), (0, .ref h), (1, .int (nI st)), (2, .int (nI en))] ∧ k ≤ n ∧ (∀ i, i < k → f i = ts i ∧ g i = te i) ∧ (∀ i, k < i → i ≤ n → f i = ts (i - 1) ∧ g i = te (i - 1)) ∧ (∀ i, k ≤ i → i < n → st < ts i) ∧ (∀ i, n < i → f i = ts i ∧ g i = te i)) ?_ (n, ts, te) _ _ _ ⟨hP, hD, hS, hl, Nat.le_refl _, fun _ _ => ⟨rfl, rfl⟩, fun i h1 h2 => absurd h1 (by omega), fun i h1 h2 => absurd h1 (by omega), fun _ _ => ⟨rfl, rfl⟩⟩
    rintro ⟨k, f, g⟩ H locs ls ⟨hP, hD, hS, hl, hk, h1, h2, h3, h4⟩ ih
    refine lv_iload_n hx hb dX6_add_15 rfl (lv_at hl 0 rfl) ?_
    refine r_if_le (x := k) (tgt := 65) hx hb (by omega) dX6_add_16 (by decide) (fun c2 => ?_) (fun c2 => ?_)
    · subst c2
      have hl : lv_has ls 4 [(3, .int (nI 0)), (0, .ref h), (1, .int (nI st)), (2, .int (nI en))] := hl
      refine lv_aload_n hx hb dX6_add_65 rfl (lv_at hl 1 rfl) ?_
      refine va_get (D := D) (ci := 7) (v := .ref a0) (C := RX6) (T := TX6) (N := 3) hx hb hts i_X6_add_X6 hown hK hP 0 rfl rfl 0 (by decide) (hts (.fieldLink RX6 9 "MemoryMap$Taken" "starts" "[I") (List.mem_of_getElem? (i := 2) rfl)) (fun _ h9 => h9) rfl dX6_add_66 ?_
      refine lv_iload_n hx hb dX6_add_69 rfl (lv_at hl 0 rfl) ?_
      refine lv_iload_n hx hb dX6_add_70 rfl (lv_at hl 2 rfl) ?_
      refine r_iast hx hb hK hP hD hS 1 0 rfl rfl (i := 0) (by omega) (by omega) dX6_add_71 (fun H locs hP hD hS => ?_)
      have hP : va_P D vwCl [(h, .inr (7, [.ref a0, .ref a1, .int (nI n)])), (a0, .inl (t 0, 40, .inl (nF (va_up f 0 st)))), (a1, .inl (t 0, 40, .inl (nF g)))] H := hP
      have hD : va_D A [(h, .inr (7, [.ref a0, .ref a1, .int (nI n)])), (a0, .inl (t 0, 40, .inl (nF (va_up f 0 st)))), (a1, .inl (t 0, 40, .inl (nF g)))] := hD
      refine lv_aload_n hx hb dX6_add_72 rfl (lv_at hl 1 rfl) ?_
      refine va_get (D := D) (ci := 7) (v := .ref a1) (C := RX6) (T := TX6) (N := 3) hx hb hts i_X6_add_X6 hown hK hP 0 rfl rfl 1 (by decide) (hts (.fieldLink RX6 15 "MemoryMap$Taken" "ends" "[I") (List.mem_of_getElem? (i := 3) rfl)) (fun _ h9 => h9) rfl dX6_add_73 ?_
      refine lv_iload_n hx hb dX6_add_76 rfl (lv_at hl 0 rfl) ?_
      refine lv_iload_n hx hb dX6_add_77 rfl (lv_at hl 3 rfl) ?_
      refine r_iast hx hb hK hP hD hS 2 0 rfl rfl (i := 0) (by omega) (by omega) dX6_add_78 (fun H locs hP hD hS => ?_)
      have hP : va_P D vwCl [(h, .inr (7, [.ref a0, .ref a1, .int (nI n)])), (a0, .inl (t 0, 40, .inl (nF (va_up f 0 st)))), (a1, .inl (t 0, 40, .inl (nF (va_up g 0 en))))] H := hP
      have hD : va_D A [(h, .inr (7, [.ref a0, .ref a1, .int (nI n)])), (a0, .inl (t 0, 40, .inl (nF (va_up f 0 st)))), (a1, .inl (t 0, 40, .inl (nF (va_up g 0 en))))] := hD
      refine lv_aload_n hx hb dX6_add_79 rfl (lv_at hl 1 rfl) ?_
      refine lv_dup hx hb dX6_add_80 rfl ?_
      refine va_get (D := D) (ci := 7) (v := .int (nI n)) (C := RX6) (T := TX6) (N := 3) hx hb hts i_X6_add_X6 hown hK hP 0 rfl rfl 2 (by decide) (hts (.fieldLink RX6 18 "MemoryMap$Taken" "count" "I") (List.mem_of_getElem? (i := 1) rfl)) (fun _ h9 => h9) rfl dX6_add_81 ?_
      refine lv_iconst (v := (nI 1)) hx hb dX6_add_84 (by decide) ?_
      refine r_iadd (x := n) (y := 1) hx hb dX6_add_85 ?_
      refine va_put (D := D) (ci := 7) (v := .int (nI (n + 1))) (ty := .int) (C := RX6) (T := TX6) (N := 3) hx hb hts i_X6_add_X6 tyX6 tyX6_ok nmX6 hown hK hP hD hS 0 rfl rfl 2 (by decide) (hts (.fieldLink RX6 18 "MemoryMap$Taken" "count" "I") (List.mem_of_getElem? (i := 1) rfl)) (fun _ h9 => h9) rfl (by decide +kernel) rfl rfl (Nat.le_of_ble_eq_true rfl) dX6_add_86 (fun H locs hP hD hS => ?_)
      have hP : va_P D vwCl [(h, .inr (7, [.ref a0, .ref a1, .int (nI (n + 1))])), (a0, .inl (t 0, 40, .inl (nF (va_up f 0 st)))), (a1, .inl (t 0, 40, .inl (nF (va_up g 0 en))))] H := hP
      have hD : va_D A [(h, .inr (7, [.ref a0, .ref a1, .int (nI (n + 1))])), (a0, .inl (t 0, 40, .inl (nF (va_up f 0 st)))), (a1, .inl (t 0, 40, .inl (nF (va_up g 0 en))))] := hD
      refine ret_Mv hx hb hr hlk (n + 1, va_up f 0 st, va_up g 0 en) ⟨_, _, rfl, 0, ?_, ?_, Or.inl rfl, h3, fun i q => ?_⟩ hP hD hS (Nat.le_of_ble_eq_true rfl) (Nat.le_of_ble_eq_true rfl) dX6_add_89
      · exact ⟨by omega, fun i hi => by rw [va_upc, if_neg (by omega)]; exact (h1 i hi).1, by rw [va_upc, if_pos rfl], fun i q1 q2 => by rw [va_upc, if_neg (by omega)]; exact (h2 i q1 q2).1⟩
      · exact ⟨by omega, fun i hi => by rw [va_upc, if_neg (by omega)]; exact (h1 i hi).2, by rw [va_upc, if_pos rfl], fun i q1 q2 => by rw [va_upc, if_neg (by omega)]; exact (h2 i q1 q2).2⟩
      · rw [va_upc, va_upc, if_neg (by omega), if_neg (by omega)]; exact h4 i q
    · refine lv_aload_n hx hb dX6_add_19 rfl (lv_at hl 1 rfl) ?_
      refine va_get (D := D) (ci := 7) (v := .ref a0) (C := RX6) (T := TX6) (N := 3) hx hb hts i_X6_add_X6 hown hK hP 0 rfl rfl 0 (by decide) (hts (.fieldLink RX6 9 "MemoryMap$Taken" "starts" "[I") (List.mem_of_getElem? (i := 2) rfl)) (fun _ h9 => h9) rfl dX6_add_20 ?_
      refine lv_iload_n hx hb dX6_add_23 rfl (lv_at hl 0 rfl) ?_
      refine lv_iconst (v := (nI 1)) hx hb dX6_add_24 (by decide) ?_
      refine r_isub (x := k) (y := 1) hx hb (by omega) dX6_add_25 ?_
      refine r_iald hx hb hK hP 1 0 rfl rfl (i := k - 1) (by omega) (by omega) dX6_add_26 ?_
      have hg1 := (h1 (k - 1) (by omega)).1
      have hg1b := (h1 (k - 1) (by omega)).2
      have hg2 := hts1 (k - 1)
      refine lv_iload_n hx hb dX6_add_27 rfl (lv_at hl 2 rfl) ?_
      refine r_icmp_le (x := (f (k - 1))) (y := st) (tgt := 65) hx hb (by omega) (by omega) dX6_add_28 (by decide) (fun c3 => ?_) (fun c3 => ?_)
      · refine lv_aload_n hx hb dX6_add_65 rfl (lv_at hl 1 rfl) ?_
        refine va_get (D := D) (ci := 7) (v := .ref a0) (C := RX6) (T := TX6) (N := 3) hx hb hts i_X6_add_X6 hown hK hP 0 rfl rfl 0 (by decide) (hts (.fieldLink RX6 9 "MemoryMap$Taken" "starts" "[I") (List.mem_of_getElem? (i := 2) rfl)) (fun _ h9 => h9) rfl dX6_add_66 ?_
        refine lv_iload_n hx hb dX6_add_69 rfl (lv_at hl 0 rfl) ?_
        refine lv_iload_n hx hb dX6_add_70 rfl (lv_at hl 2 rfl) ?_
        refine r_iast hx hb hK hP hD hS 1 0 rfl rfl (i := k) (by omega) (by omega) dX6_add_71 (fun H locs hP hD hS => ?_)
        have hP : va_P D vwCl [(h, .inr (7, [.ref a0, .ref a1, .int (nI n)])), (a0, .inl (t 0, 40, .inl (nF (va_up f k st)))), (a1, .inl (t 0, 40, .inl (nF g)))] H := hP
        have hD : va_D A [(h, .inr (7, [.ref a0, .ref a1, .int (nI n)])), (a0, .inl (t 0, 40, .inl (nF (va_up f k st)))), (a1, .inl (t 0, 40, .inl (nF g)))] := hD
        refine lv_aload_n hx hb dX6_add_72 rfl (lv_at hl 1 rfl) ?_
        refine va_get (D := D) (ci := 7) (v := .ref a1) (C := RX6) (T := TX6) (N := 3) hx hb hts i_X6_add_X6 hown hK hP 0 rfl rfl 1 (by decide) (hts (.fieldLink RX6 15 "MemoryMap$Taken" "ends" "[I") (List.mem_of_getElem? (i := 3) rfl)) (fun _ h9 => h9) rfl dX6_add_73 ?_
        refine lv_iload_n hx hb dX6_add_76 rfl (lv_at hl 0 rfl) ?_
        refine lv_iload_n hx hb dX6_add_77 rfl (lv_at hl 3 rfl) ?_
        refine r_iast hx hb hK hP hD hS 2 0 rfl rfl (i := k) (by omega) (by omega) dX6_add_78 (fun H locs hP hD hS => ?_)
        have hP : va_P D vwCl [(h, .inr (7, [.ref a0, .ref a1, .int (nI n)])), (a0, .inl (t 0, 40, .inl (nF (va_up f k st)))), (a1, .inl (t 0, 40, .inl (nF (va_up g k en))))] H := hP
        have hD : va_D A [(h, .inr (7, [.ref a0, .ref a1, .int (nI n)])), (a0, .inl (t 0, 40, .inl (nF (va_up f k st)))), (a1, .inl (t 0, 40, .inl (nF (va_up g k en))))] := hD
        refine lv_aload_n hx hb dX6_add_79 rfl (lv_at hl 1 rfl) ?_
        refine lv_dup hx hb dX6_add_80 rfl ?_
        refine va_get (D := D) (ci := 7) (v := .int (nI n)) (C := RX6) (T := TX6) (N := 3) hx hb hts i_X6_add_X6 hown hK hP 0 rfl rfl 2 (by decide) (hts (.fieldLink RX6 18 "MemoryMap$Taken" "count" "I") (List.mem_of_getElem? (i := 1) rfl)) (fun _ h9 => h9) rfl dX6_add_81 ?_
        refine lv_iconst (v := (nI 1)) hx hb dX6_add_84 (by decide) ?_
        refine r_iadd (x := n) (y := 1) hx hb dX6_add_85 ?_
        refine va_put (D := D) (ci := 7) (v := .int (nI (n + 1))) (ty := .int) (C := RX6) (T := TX6) (N := 3) hx hb hts i_X6_add_X6 tyX6 tyX6_ok nmX6 hown hK hP hD hS 0 rfl rfl 2 (by decide) (hts (.fieldLink RX6 18 "MemoryMap$Taken" "count" "I") (List.mem_of_getElem? (i := 1) rfl)) (fun _ h9 => h9) rfl (by decide +kernel) rfl rfl (Nat.le_of_ble_eq_true rfl) dX6_add_86 (fun H locs hP hD hS => ?_)
        have hP : va_P D vwCl [(h, .inr (7, [.ref a0, .ref a1, .int (nI (n + 1))])), (a0, .inl (t 0, 40, .inl (nF (va_up f k st)))), (a1, .inl (t 0, 40, .inl (nF (va_up g k en))))] H := hP
        have hD : va_D A [(h, .inr (7, [.ref a0, .ref a1, .int (nI (n + 1))])), (a0, .inl (t 0, 40, .inl (nF (va_up f k st)))), (a1, .inl (t 0, 40, .inl (nF (va_up g k en))))] := hD
        refine ret_Mv hx hb hr hlk (n + 1, va_up f k st, va_up g k en) ⟨_, _, rfl, k, ?_, ?_, Or.inr (by rw [← hg1]; exact c3), h3, fun i q => ?_⟩ hP hD hS (Nat.le_of_ble_eq_true rfl) (Nat.le_of_ble_eq_true rfl) dX6_add_89
        · exact ⟨by omega, fun i hi => by rw [va_upc, if_neg (by omega)]; exact (h1 i hi).1, by rw [va_upc, if_pos rfl], fun i q1 q2 => by rw [va_upc, if_neg (by omega)]; exact (h2 i q1 q2).1⟩
        · exact ⟨by omega, fun i hi => by rw [va_upc, if_neg (by omega)]; exact (h1 i hi).2, by rw [va_upc, if_pos rfl], fun i q1 q2 => by rw [va_upc, if_neg (by omega)]; exact (h2 i q1 q2).2⟩
        · rw [va_upc, va_upc, if_neg (by omega), if_neg (by omega)]; exact h4 i q
      · refine lv_aload_n hx hb dX6_add_31 rfl (lv_at hl 1 rfl) ?_
        refine va_get (D := D) (ci := 7) (v := .ref a0) (C := RX6) (T := TX6) (N := 3) hx hb hts i_X6_add_X6 hown hK hP 0 rfl rfl 0 (by decide) (hts (.fieldLink RX6 9 "MemoryMap$Taken" "starts" "[I") (List.mem_of_getElem? (i := 2) rfl)) (fun _ h9 => h9) rfl dX6_add_32 ?_
        refine lv_iload_n hx hb dX6_add_35 rfl (lv_at hl 0 rfl) ?_
        refine lv_aload_n hx hb dX6_add_36 rfl (lv_at hl 1 rfl) ?_
        refine va_get (D := D) (ci := 7) (v := .ref a0) (C := RX6) (T := TX6) (N := 3) hx hb hts i_X6_add_X6 hown hK hP 0 rfl rfl 0 (by decide) (hts (.fieldLink RX6 9 "MemoryMap$Taken" "starts" "[I") (List.mem_of_getElem? (i := 2) rfl)) (fun _ h9 => h9) rfl dX6_add_37 ?_
        refine lv_iload_n hx hb dX6_add_40 rfl (lv_at hl 0 rfl) ?_
        refine lv_iconst (v := (nI 1)) hx hb dX6_add_41 (by decide) ?_
        refine r_isub (x := k) (y := 1) hx hb (by omega) dX6_add_42 ?_
        refine r_iald hx hb hK hP 1 0 rfl rfl (i := k - 1) (by omega) (by omega) dX6_add_43 ?_
        refine r_iast hx hb hK hP hD hS 1 0 rfl rfl (i := k) (by omega) (by omega) dX6_add_44 (fun H locs hP hD hS => ?_)
        have hP : va_P D vwCl [(h, .inr (7, [.ref a0, .ref a1, .int (nI n)])), (a0, .inl (t 0, 40, .inl (nF (va_up f k (f (k - 1)))))), (a1, .inl (t 0, 40, .inl (nF g)))] H := hP
        have hD : va_D A [(h, .inr (7, [.ref a0, .ref a1, .int (nI n)])), (a0, .inl (t 0, 40, .inl (nF (va_up f k (f (k - 1)))))), (a1, .inl (t 0, 40, .inl (nF g)))] := hD
        refine lv_aload_n hx hb dX6_add_45 rfl (lv_at hl 1 rfl) ?_
        refine va_get (D := D) (ci := 7) (v := .ref a1) (C := RX6) (T := TX6) (N := 3) hx hb hts i_X6_add_X6 hown hK hP 0 rfl rfl 1 (by decide) (hts (.fieldLink RX6 15 "MemoryMap$Taken" "ends" "[I") (List.mem_of_getElem? (i := 3) rfl)) (fun _ h9 => h9) rfl dX6_add_46 ?_
        refine lv_iload_n hx hb dX6_add_49 rfl (lv_at hl 0 rfl) ?_
        refine lv_aload_n hx hb dX6_add_50 rfl (lv_at hl 1 rfl) ?_
        refine va_get (D := D) (ci := 7) (v := .ref a1) (C := RX6) (T := TX6) (N := 3) hx hb hts i_X6_add_X6 hown hK hP 0 rfl rfl 1 (by decide) (hts (.fieldLink RX6 15 "MemoryMap$Taken" "ends" "[I") (List.mem_of_getElem? (i := 3) rfl)) (fun _ h9 => h9) rfl dX6_add_51 ?_
        refine lv_iload_n hx hb dX6_add_54 rfl (lv_at hl 0 rfl) ?_
        refine lv_iconst (v := (nI 1)) hx hb dX6_add_55 (by decide) ?_
        refine r_isub (x := k) (y := 1) hx hb (by omega) dX6_add_56 ?_
        refine r_iald hx hb hK hP 2 0 rfl rfl (i := k - 1) (by omega) (by omega) dX6_add_57 ?_
        refine r_iast hx hb hK hP hD hS 2 0 rfl rfl (i := k) (by omega) (by omega) dX6_add_58 (fun H locs hP hD hS => ?_)
        have hP : va_P D vwCl [(h, .inr (7, [.ref a0, .ref a1, .int (nI n)])), (a0, .inl (t 0, 40, .inl (nF (va_up f k (f (k - 1)))))), (a1, .inl (t 0, 40, .inl (nF (va_up g k (g (k - 1))))))] H := hP
        have hD : va_D A [(h, .inr (7, [.ref a0, .ref a1, .int (nI n)])), (a0, .inl (t 0, 40, .inl (nF (va_up f k (f (k - 1)))))), (a1, .inl (t 0, 40, .inl (nF (va_up g k (g (k - 1))))))] := hD
        refine lv_iinc (v := (nI (k - 1))) (lv' := [(3, .int (nI (k - 1))), (0, .ref h), (1, .int (nI st)), (2, .int (nI en))]) hx hb dX6_add_59 hl (k := 0) rfl (r_dec1 (by omega)) (by decide) rfl (fun ls hl => ?_)
        refine lv_goto (tgt := 15) hx hb dX6_add_62 (by decide) ?_
        refine ih (k - 1, va_up f k (f (k - 1)), va_up g k (g (k - 1))) _ _ _ ⟨hP, hD, hS, lv_sub hl [0, 1, 2, 3] rfl, by omega, fun i hi => ?_, fun i q1 q2 => ?_, fun i q1 q2 => ?_, fun i q => ?_⟩ (by show k - 1 < k; omega)
        · rw [va_upc, va_upc, if_neg (by omega), if_neg (by omega)]; exact h1 i (by omega)
        · rw [va_upc, va_upc]
          by_cases e : i = k
          · rw [if_pos e, if_pos e, e]; exact ⟨hg1, hg1b⟩
          · rw [if_neg e, if_neg e]; exact h2 i (by omega) q2
        · rcases Nat.lt_or_ge i k with q | q
          · have e : i = k - 1 := by omega
            rw [e, ← hg1]; exact c3
          · exact h3 i q q2
        · rw [va_upc, va_upc, if_neg (by omega), if_neg (by omega)]; exact h4 i q
  · exact absurd c1 (by omega)
end
section
/-- the sum of the first octets -/
def mixF (x : Int32) : Int32 := ((x <<< (nI 5 &&& 31)) ||| ((x.toUInt32 >>> ((nI 27).toUInt32 &&& Int32.toUInt32 31)).toInt32)) * (-1028477379)
def sumF (f : Nat → Int32) : Nat → Int32
  | 0 => nI 1
  | k + 1 => mixF (sumF f k ^^^ (f k &&& nI 255))
theorem sumF_congr {f g : Nat → Int32} : ∀ n : Nat, (∀ j, j < n → f j = g j) → sumF f n = sumF g n
  | 0, _ => rfl
  | n + 1, h => by
    show mixF _ = mixF _
    rw [sumF_congr n (fun j hj => h j (by omega)), h n (Nat.lt_succ_self n)]
theorem rngI {i : Int32} {lo hi : Nat} (hh : hi < 2 ^ 31) (hl : lo < 2 ^ 31) (h1 : ¬ i.toInt64 < lN lo) (h2 : ¬ lN hi < i.toInt64) : ∃ k, lo ≤ k ∧ k ≤ hi ∧ i = nI k := by
  rw [Int64.lt_iff_toInt_lt, Int32.toInt_toInt64, lN_toInt hl] at h1
  rw [Int64.lt_iff_toInt_lt, Int32.toInt_toInt64, lN_toInt hh] at h2
  refine ⟨i.toInt.toNat, by omega, by omega, ?_⟩
  apply Int32.toInt_inj.mp
  rw [nI_toInt (by omega)]
  omega
theorem rngI' {i : Int32} {lo hi : Nat} (hh : hi < 2 ^ 31) (hl : lo < 2 ^ 31) (h : i.toInt64 < lN lo ∨ lN hi < i.toInt64) : ∀ k, lo ≤ k → k ≤ hi → i ≠ nI k := by
  rw [Int64.lt_iff_toInt_lt, Int64.lt_iff_toInt_lt, Int32.toInt_toInt64, lN_toInt hl, lN_toInt hh] at h
  intro k h1 h2 e
  rw [e, nI_toInt (by omega)] at h
  omega
theorem rngL {v : Int64} {lo hi : Nat} (hh : hi < 2 ^ 31) (hl : lo < 2 ^ 31) (h1 : ¬ v < lN lo) (h2 : ¬ lN hi < v) : ∃ k, lo ≤ k ∧ k ≤ hi ∧ v = lN k := by
  rw [Int64.lt_iff_toInt_lt, lN_toInt hl] at h1
  rw [Int64.lt_iff_toInt_lt, lN_toInt hh] at h2
  refine ⟨v.toInt.toNat, by omega, by omega, ?_⟩
  apply Int64.toInt_inj.mp
  rw [lN_toInt (by omega)]
  omega
theorem rngL' {v : Int64} {lo hi : Nat} (hh : hi < 2 ^ 31) (hl : lo < 2 ^ 31) (h : v < lN lo ∨ lN hi < v) : ∀ k, lo ≤ k → k ≤ hi → v ≠ lN k := by
  rw [Int64.lt_iff_toInt_lt, Int64.lt_iff_toInt_lt, lN_toInt hl, lN_toInt hh] at h
  intro k h1 h2 e
  rw [e, lN_toInt (by omega)] at h
  omega
theorem byte2 (z : Int32) : z.toInt8.toInt32.toInt8.toInt32 = z.toInt8.toInt32 := pk_vb z
theorem upd_at {f : Nat → Int32} {i : Nat} {x : Int32} : upd f i x i = x := pk_us
abbrev rm_X1_sumOf : Room := { frames := 0, cells := 0, slots := 0, locals := 0 }
set_option maxHeartbeats 4000000 in
set_option maxRecDepth 100000 in
theorem c_X1_sumOf (l : Launch) (D : va_G) (t : Nat → ClassId) (a n : Nat) (f : Nat → Int32) (hn : n ≤ 32) : Qi l yX1_sumOf wsX1_sumOf rm_X1_sumOf D (TY t) [.ref a] [(a, .inl (t 1, n, .inl f))] (fun r => r = sumF f n) := by
  refine start_Qi cX1_sumOf 4 (some .int) (by decide) rfl (Nat.le_of_ble_eq_true rfl) ?_
  intro p e s m below meth c ls B hP hD hl
  obtain ⟨hx, hb, hr, hts, hown, hlk, hml, hN, hK⟩ := B
  have hl : lv_has ls 4 [(0, .ref a)] := hl
  refine lv_iconst (v := (nI 1)) hx hb dX1_sumOf_0 (by decide) ?_
  refine lv_istore_n (lv' := [(1, .int (nI 1)), (0, .ref a)]) hx hb dX1_sumOf_1 rfl hl (by decide) rfl (fun ls hl => ?_)
  refine lv_iconst (v := (nI 0)) hx hb dX1_sumOf_2 (by decide) ?_
  refine lv_istore_n (lv' := [(2, .int (nI 0)), (1, .int (nI 1)), (0, .ref a)]) hx hb dX1_sumOf_3 rfl hl (by decide) rfl (fun ls hl => ?_)
  refine W_loop (σ := Nat) (fun i => n - i) (fun i H locs ls => H = s.heap ∧ locs = [] ∧ i ≤ n ∧ lv_has ls 4 [(2, .int (nI i)), (1, .int (sumF f i)), (0, .ref a)]) ?_ 0 _ _ _ ⟨rfl, rfl, Nat.zero_le _, hl⟩
  rintro i _ _ ls ⟨rfl, rfl, hi, hl⟩ ih
  refine lv_iload_n hx hb dX1_sumOf_4 rfl (lv_at hl 0 rfl) ?_
  refine lv_aload_n hx hb dX1_sumOf_5 rfl (lv_at hl 2 rfl) ?_
  refine va_alen (v := nI n) hx hb hK hP 0 1 rfl rfl rfl dX1_sumOf_6 ?_
  refine r_icmp_ge (x := i) (y := n) (tgt := 38) hx hb (by omega) (by omega) dX1_sumOf_7 (by decide) (fun c1 => ?_) (fun c1 => ?_)
  · refine lv_iload_n hx hb dX1_sumOf_38 rfl (lv_at hl 1 rfl) ?_
    have e : i = n := by omega
    exact ret_Qi hx hb hr hlk (by rw [e]) dX1_sumOf_39
  · refine lv_iload_n hx hb dX1_sumOf_10 rfl (lv_at hl 1 rfl) ?_
    refine lv_aload_n hx hb dX1_sumOf_11 rfl (lv_at hl 2 rfl) ?_
    refine lv_iload_n hx hb dX1_sumOf_12 rfl (lv_at hl 0 rfl) ?_
    refine r_baldI hx hb hK hP 0 1 rfl rfl (i := i) (by omega) (by omega) dX1_sumOf_13 ?_
    refine lv_sipush (v := (nI 255)) hx hb dX1_sumOf_14 (by decide) ?_
    refine lv_iand hx hb dX1_sumOf_17 ?_
    refine lv_ixor hx hb dX1_sumOf_18 ?_
    refine lv_istore_n (lv' := [(3, .int ((((sumF f i)) ^^^ ((((((f i))) &&& ((nI 255)))))))), (2, .int (nI i)), (1, .int (sumF f i)), (0, .ref a)]) hx hb dX1_sumOf_19 rfl hl (by decide) rfl (fun ls hl => ?_)
    refine lv_iload_n hx hb dX1_sumOf_20 rfl (lv_at hl 0 rfl) ?_
    refine lv_iconst (v := (nI 5)) hx hb dX1_sumOf_21 (by decide) ?_
    refine lv_ishl hx hb dX1_sumOf_22 ?_
    refine lv_iload_n hx hb dX1_sumOf_23 rfl (lv_at hl 0 rfl) ?_
    refine lv_bipush (v := (nI 27)) hx hb dX1_sumOf_24 (by decide) ?_
    refine lv_iushr (v := ((((((sumF f i)) ^^^ ((((((f i))) &&& ((nI 255)))))))).toUInt32 >>> (((nI 27)).toUInt32 &&& Int32.toUInt32 31)).toInt32) hx hb dX1_sumOf_26 rfl ?_
    refine lv_ior hx hb dX1_sumOf_27 ?_
    refine lv_ldc hx hb hown (hts (.constant RX1 35 (-1028477379)) (List.mem_of_getElem? (i := 1) rfl)) dX1_sumOf_28 ?_
    refine lv_imul hx hb dX1_sumOf_30 ?_
    refine lv_istore_n (lv' := [(1, .int (((((((((((((sumF f i)) ^^^ ((((((f i))) &&& ((nI 255)))))))) <<< (((nI 5)) &&& 31)))) ||| ((((((((sumF f i)) ^^^ ((((((f i))) &&& ((nI 255)))))))).toUInt32 >>> (((nI 27)).toUInt32 &&& Int32.toUInt32 31)).toInt32))))) * (((-1028477379)))))), (3, .int ((((sumF f i)) ^^^ ((((((f i))) &&& ((nI 255)))))))), (2, .int (nI i)), (0, .ref a)]) hx hb dX1_sumOf_31 rfl hl (by decide) rfl (fun ls hl => ?_)
    refine lv_iinc (v := (nI (i + 1))) (lv' := [(2, .int (nI (i + 1))), (1, .int (((((((((((((sumF f i)) ^^^ ((((((f i))) &&& ((nI 255)))))))) <<< (((nI 5)) &&& 31)))) ||| ((((((((sumF f i)) ^^^ ((((((f i))) &&& ((nI 255)))))))).toUInt32 >>> (((nI 27)).toUInt32 &&& Int32.toUInt32 31)).toInt32))))) * (((-1028477379)))))), (3, .int ((((sumF f i)) ^^^ ((((((f i))) &&& ((nI 255)))))))), (0, .ref a)]) hx hb dX1_sumOf_32 hl (k := 2) rfl (r_inc1 _) (by decide) rfl (fun ls hl => ?_)
    refine lv_goto (tgt := 4) hx hb dX1_sumOf_35 (by decide) ?_
    exact ih (i + 1) _ _ _ ⟨rfl, rfl, by omega, lv_sub hl [0, 1, 3] rfl⟩ (by omega)

theorem i_X1_init_X1 : ∀ w ∈ wsX10, w ∈ wsX1_init := by decide +kernel
abbrev rm_X1_init : Room := { frames := 1, cells := 1, slots := 32, locals := 23 }
set_option maxHeartbeats 4000000 in
set_option maxRecDepth 100000 in
theorem c_X1_init (l : Launch) (D : va_G) (t : Nat → ClassId) (h n : Nat) (hn : n ≤ 32) : Mv l yX1_init wsX1_init rm_X1_init D (TY t) [.ref h, .int (nI n)] [(h, .inr (2, [.null, .int (nI 0)]))] (S := Nat) (fun _ : Nat => True) (fun u => [(h, .inr (2, [.ref u, .int (sumF (fun _ => (0 : Int32)) n)])), (u, .inl (t 1, n, .inl (fun _ => (0 : Int32))))]) := by
  refine start_Mv cX1_init 2 none (by decide) rfl (Nat.le_of_ble_eq_true rfl) ?_
  intro p e s m below meth c A ls B hin hP hD hS hA hl
  obtain ⟨hx, hb, hr, hts, hown, hlk, hml, hN, hK⟩ := B
  have hl : lv_has ls 2 [(0, .ref h), (1, .int (nI n))] := hl
  refine lv_aload_n hx hb dX1_init_0 rfl (lv_at hl 0 rfl) ?_
  refine W.objInit hx hb hown (hts (.methodLink RX1 3 objectInit) (List.mem_of_getElem? (i := 1) rfl)) (hts (.instanceMethod objectInit) (List.mem_of_getElem? (i := 2) rfl)) (hts (.code objectInit ⟨#[0xb1]⟩ 1 none) (List.mem_of_getElem? (i := 3) rfl)) rfl (by rw [hml]; exact hl.1) rfl dX1_init_1 (Nat.le_of_ble_eq_true rfl) (Nat.le_of_ble_eq_true rfl) ?_
  refine W.eq (g2 := F0 m 4 ls []) rfl ?_
  refine lv_aload_n hx hb dX1_init_4 rfl (lv_at hl 0 rfl) ?_
  refine lv_iload_n hx hb dX1_init_5 rfl (lv_at hl 1 rfl) ?_
  refine r_newB hx hb (hts (.arrayClass .byte) (List.mem_of_getElem? (i := 4) rfl)) hK hP hD hS hA 1 rfl (by omega) (Nat.le_of_ble_eq_true rfl) (by show _ ≤ 32; omega) dX1_init_6 (fun q_1 H hP hD hS => ?_)
  refine W.widen (k := 1) (n := 32) (Nat.le_of_ble_eq_true rfl) (by omega) ?_
  have hP : va_P D vwCl [(h, .inr (2, [.null, .int (nI 0)])), (q_1, .inl (t 1, n, .inl (fun _ => (0 : Int32))))] H := hP
  have hD : va_D A [(h, .inr (2, [.null, .int (nI 0)])), (q_1, .inl (t 1, n, .inl (fun _ => (0 : Int32))))] := hD
  refine va_putF (D := D) (ci := 2) (v := .ref q_1) (ty := .array .byte) (C := RX1) (T := TX1) (N := 2) hx hb hts i_X1_init_X1 tyX1 tyX1_ok nmX1 hown hK hP hD hS 0 rfl rfl 0 (by decide) (hts (.fieldLink RX1 9 "MemoryMap$Copy" "octets" "[B") (List.mem_of_getElem? (i := 5) rfl)) (fun _ h9 => h9) rfl hin rfl (by decide +kernel) rfl rfl (Nat.le_of_ble_eq_true rfl) dX1_init_8 (fun H locs hP hD hS => ?_)
  have hP : va_P D vwCl [(h, .inr (2, [.ref q_1, .int (nI 0)])), (q_1, .inl (t 1, n, .inl (fun _ => (0 : Int32))))] H := hP
  have hD : va_D A [(h, .inr (2, [.ref q_1, .int (nI 0)])), (q_1, .inl (t 1, n, .inl (fun _ => (0 : Int32))))] := hD
  refine lv_aload_n hx hb dX1_init_11 rfl (lv_at hl 0 rfl) ?_
  refine lv_aload_n hx hb dX1_init_12 rfl (lv_at hl 0 rfl) ?_
  refine va_get (D := D) (ci := 2) (v := .ref q_1) (C := RX1) (T := TX1) (N := 2) hx hb hts i_X1_init_X1 hown hK hP 0 rfl rfl 0 (by decide) (hts (.fieldLink RX1 9 "MemoryMap$Copy" "octets" "[B") (List.mem_of_getElem? (i := 5) rfl)) (fun _ h9 => h9) rfl dX1_init_13 ?_
  refine vp_callSi (va_Run.run (va_runS (As := [.ref q_1]) (rest := [.ref h]) ⟨hx, hb, hml, hown, hts⟩ (c_X1_sumOf l D t q_1 n (fun _ => (0 : Int32)) hn _) (va_cwS 1 hts gX1_init_X1_sumOf rfl rfl rfl (by decide +kernel) ⟨Nat.le_of_ble_eq_true rfl, Nat.le_of_ble_eq_true rfl⟩) (preS hP hD hK hN [1] rfl (by decide)) rfl rfl hl.1 rfl (lv_room (Nat.le_of_ble_eq_true rfl)) dX1_init_16 ⟨Nat.le_of_ble_eq_true rfl, Nat.le_of_ble_eq_true rfl⟩)) (fun r hw => ?_)
  subst hw
  refine va_put (D := D) (ci := 2) (v := .int (sumF (fun _ => (0 : Int32)) n)) (ty := .int) (C := RX1) (T := TX1) (N := 2) hx hb hts i_X1_init_X1 tyX1 tyX1_ok nmX1 hown hK hP hD hS 0 rfl rfl 1 (by decide) (hts (.fieldLink RX1 19 "MemoryMap$Copy" "sum" "I") (List.mem_of_getElem? (i := 6) rfl)) (fun _ h9 => h9) rfl (by decide +kernel) rfl rfl (Nat.le_of_ble_eq_true rfl) dX1_init_19 (fun H locs hP hD hS => ?_)
  have hP : va_P D vwCl [(h, .inr (2, [.ref q_1, .int (sumF (fun _ => (0 : Int32)) n)])), (q_1, .inl (t 1, n, .inl (fun _ => (0 : Int32))))] H := hP
  have hD : va_D A [(h, .inr (2, [.ref q_1, .int (sumF (fun _ => (0 : Int32)) n)])), (q_1, .inl (t 1, n, .inl (fun _ => (0 : Int32))))] := hD
  exact ret_Mv hx hb hr hlk (q_1) (trivial) hP hD hS (Nat.le_of_ble_eq_true rfl) (Nat.le_of_ble_eq_true rfl) dX1_init_22

theorem i_X1_isGood_X1 : ∀ w ∈ wsX10, w ∈ wsX1_isGood := by decide +kernel
abbrev rm_X1_isGood : Room := { frames := 1, cells := 0, slots := 0, locals := 23 }
set_option maxHeartbeats 4000000 in
set_option maxRecDepth 100000 in
theorem c_X1_isGood (l : Launch) (D : va_G) (t : Nat → ClassId) (h a n : Nat) (f : Nat → Int32) (sm : Int32) (hn : n ≤ 32) : Qi l yX1_isGood wsX1_isGood rm_X1_isGood D (TY t) [.ref h] [(h, .inr (2, [.ref a, .int sm])), (a, .inl (t 1, n, .inl f))] (fun r => (r = nI 1 ∧ sm = sumF f n) ∨ (r = nI 0 ∧ sm ≠ sumF f n)) := by
  refine start_Qi cX1_isGood 1 (some .boolean) (by decide) rfl (Nat.le_of_ble_eq_true rfl) ?_
  intro p e s m below meth c ls B hP hD hl
  obtain ⟨hx, hb, hr, hts, hown, hlk, hml, hN, hK⟩ := B
  have hl : lv_has ls 1 [(0, .ref h)] := hl
  refine lv_aload_n hx hb dX1_isGood_0 rfl (lv_at hl 0 rfl) ?_
  refine va_get (D := D) (ci := 2) (v := .int sm) (C := RX1) (T := TX1) (N := 2) hx hb hts i_X1_isGood_X1 hown hK hP 0 rfl rfl 1 (by decide) (hts (.fieldLink RX1 19 "MemoryMap$Copy" "sum" "I") (List.mem_of_getElem? (i := 1) rfl)) (fun _ h9 => h9) rfl dX1_isGood_1 ?_
  refine lv_aload_n hx hb dX1_isGood_4 rfl (lv_at hl 0 rfl) ?_
  refine va_get (D := D) (ci := 2) (v := .ref a) (C := RX1) (T := TX1) (N := 2) hx hb hts i_X1_isGood_X1 hown hK hP 0 rfl rfl 0 (by decide) (hts (.fieldLink RX1 9 "MemoryMap$Copy" "octets" "[B") (List.mem_of_getElem? (i := 2) rfl)) (fun _ h9 => h9) rfl dX1_isGood_5 ?_
  refine vp_callSi (va_Run.run (va_runS (As := [.ref a]) (rest := [.int sm]) ⟨hx, hb, hml, hown, hts⟩ (c_X1_sumOf l D t a n f hn _) (va_cwS 1 hts gX1_isGood_X1_sumOf rfl rfl rfl (by decide +kernel) ⟨Nat.le_of_ble_eq_true rfl, Nat.le_of_ble_eq_true rfl⟩) (preS hP hD hK hN [1] rfl (by decide)) rfl rfl hl.1 rfl (lv_room (Nat.le_of_ble_eq_true rfl)) dX1_isGood_8 ⟨Nat.le_of_ble_eq_true rfl, Nat.le_of_ble_eq_true rfl⟩)) (fun r hw => ?_)
  subst hw
  refine lv_icmp_ne (tgt := 18) hx hb dX1_isGood_11 (by decide) (fun c1 => ?_) (fun c1 => ?_)
  · refine lv_iconst (v := (nI 0)) hx hb dX1_isGood_18 (by decide) ?_
    exact ret_Qz hx hb hr hlk rfl (Or.inr ⟨rfl, c1⟩) dX1_isGood_19
  · refine lv_iconst (v := (nI 1)) hx hb dX1_isGood_14 (by decide) ?_
    refine lv_goto (tgt := 19) hx hb dX1_isGood_15 (by decide) ?_
    exact ret_Qz hx hb hr hlk rfl (Or.inl ⟨rfl, c1⟩) dX1_isGood_19

theorem i_X1_setOctet_X1 : ∀ w ∈ wsX10, w ∈ wsX1_setOctet := by decide +kernel
abbrev rm_X1_setOctet : Room := { frames := 1, cells := 0, slots := 0, locals := 23 }
set_option maxHeartbeats 4000000 in
set_option maxRecDepth 100000 in
theorem c_X1_setOctet (l : Launch) (D : va_G) (t : Nat → ClassId) (h a n i : Nat) (f : Nat → Int32) (sm b : Int32) (hn : n ≤ 32) (hi : i < n) : Mv l yX1_setOctet wsX1_setOctet rm_X1_setOctet D (TY t) [.ref h, .int (nI i), .int b] [(h, .inr (2, [.ref a, .int sm])), (a, .inl (t 1, n, .inl f))] (S := Unit) (fun _ : Unit => True) (fun _ => [(h, .inr (2, [.ref a, .int (sumF (upd f i (b.toInt8.toInt32)) n)])), (a, .inl (t 1, n, .inl (upd f i (b.toInt8.toInt32))))]) := by
  refine start_Mv cX1_setOctet 3 none (by decide) rfl (Nat.le_of_ble_eq_true rfl) ?_
  intro p e s m below meth c A ls B hin hP hD hS hA hl
  obtain ⟨hx, hb, hr, hts, hown, hlk, hml, hN, hK⟩ := B
  have hl : lv_has ls 3 [(0, .ref h), (1, .int (nI i)), (2, .int b)] := hl
  refine lv_aload_n hx hb dX1_setOctet_0 rfl (lv_at hl 0 rfl) ?_
  refine va_get (D := D) (ci := 2) (v := .ref a) (C := RX1) (T := TX1) (N := 2) hx hb hts i_X1_setOctet_X1 hown hK hP 0 rfl rfl 0 (by decide) (hts (.fieldLink RX1 9 "MemoryMap$Copy" "octets" "[B") (List.mem_of_getElem? (i := 1) rfl)) (fun _ h9 => h9) rfl dX1_setOctet_1 ?_
  refine lv_iload_n hx hb dX1_setOctet_4 rfl (lv_at hl 1 rfl) ?_
  refine lv_iload_n hx hb dX1_setOctet_5 rfl (lv_at hl 2 rfl) ?_
  refine r_bastI hx hb hK hP hD hS 1 1 rfl rfl (i := i) (by omega) (by omega) dX1_setOctet_6 (fun H locs hP hD hS => ?_)
  have hP : va_P D vwCl [(h, .inr (2, [.ref a, .int sm])), (a, .inl (t 1, n, .inl (upd f i (b.toInt8.toInt32))))] H := hP
  have hD : va_D A [(h, .inr (2, [.ref a, .int sm])), (a, .inl (t 1, n, .inl (upd f i (b.toInt8.toInt32))))] := hD
  refine lv_aload_n hx hb dX1_setOctet_7 rfl (lv_at hl 0 rfl) ?_
  refine lv_aload_n hx hb dX1_setOctet_8 rfl (lv_at hl 0 rfl) ?_
  refine va_get (D := D) (ci := 2) (v := .ref a) (C := RX1) (T := TX1) (N := 2) hx hb hts i_X1_setOctet_X1 hown hK hP 0 rfl rfl 0 (by decide) (hts (.fieldLink RX1 9 "MemoryMap$Copy" "octets" "[B") (List.mem_of_getElem? (i := 1) rfl)) (fun _ h9 => h9) rfl dX1_setOctet_9 ?_
  refine vp_callSi (va_Run.run (va_runS (As := [.ref a]) (rest := [.ref h]) ⟨hx, hb, hml, hown, hts⟩ (c_X1_sumOf l D t a n (upd f i (b.toInt8.toInt32)) hn _) (va_cwS 1 hts gX1_setOctet_X1_sumOf rfl rfl rfl (by decide +kernel) ⟨Nat.le_of_ble_eq_true rfl, Nat.le_of_ble_eq_true rfl⟩) (preS hP hD hK hN [1] rfl (by decide)) rfl rfl hl.1 rfl (lv_room (Nat.le_of_ble_eq_true rfl)) dX1_setOctet_12 ⟨Nat.le_of_ble_eq_true rfl, Nat.le_of_ble_eq_true rfl⟩)) (fun r hw => ?_)
  subst hw
  refine va_put (D := D) (ci := 2) (v := .int (sumF (upd f i (b.toInt8.toInt32)) n)) (ty := .int) (C := RX1) (T := TX1) (N := 2) hx hb hts i_X1_setOctet_X1 tyX1 tyX1_ok nmX1 hown hK hP hD hS 0 rfl rfl 1 (by decide) (hts (.fieldLink RX1 19 "MemoryMap$Copy" "sum" "I") (List.mem_of_getElem? (i := 2) rfl)) (fun _ h9 => h9) rfl (by decide +kernel) rfl rfl (Nat.le_of_ble_eq_true rfl) dX1_setOctet_15 (fun H locs hP hD hS => ?_)
  have hP : va_P D vwCl [(h, .inr (2, [.ref a, .int (sumF (upd f i (b.toInt8.toInt32)) n)])), (a, .inl (t 1, n, .inl (upd f i (b.toInt8.toInt32))))] H := hP
  have hD : va_D A [(h, .inr (2, [.ref a, .int (sumF (upd f i (b.toInt8.toInt32)) n)])), (a, .inl (t 1, n, .inl (upd f i (b.toInt8.toInt32))))] := hD
  exact ret_Mv hx hb hr hlk (()) (trivial) hP hD hS (Nat.le_of_ble_eq_true rfl) (Nat.le_of_ble_eq_true rfl) dX1_setOctet_18

theorem i_X1_flip_X1 : ∀ w ∈ wsX10, w ∈ wsX1_flip := by decide +kernel
abbrev rm_X1_flip : Room := { frames := 0, cells := 0, slots := 0, locals := 0 }
set_option maxHeartbeats 4000000 in
set_option maxRecDepth 100000 in
theorem c_X1_flip (l : Launch) (D : va_G) (t : Nat → ClassId) (h a n i : Nat) (f : Nat → Int32) (sm mk : Int32) (hn : n ≤ 32) (hi : i < n) : Mi l yX1_flip wsX1_flip rm_X1_flip D (TY t) [.ref h, .int (nI i), .int mk] [(h, .inr (2, [.ref a, .int sm])), (a, .inl (t 1, n, .inl f))] (S := Nat → Int32) (fun r (u : Nat → Int32) => u = upd f i ((f i ^^^ mk).toInt8.toInt32) ∧ r = (f i ^^^ mk).toInt8.toInt32 &&& nI 255) (fun u => [(h, .inr (2, [.ref a, .int sm])), (a, .inl (t 1, n, .inl u))]) := by
  refine start_Mi cX1_flip 3 (some .int) (by decide) rfl (Nat.le_of_ble_eq_true rfl) ?_
  intro p e s m below meth c A ls B hin hP hD hS hA hl
  obtain ⟨hx, hb, hr, hts, hown, hlk, hml, hN, hK⟩ := B
  have hl : lv_has ls 3 [(0, .ref h), (1, .int (nI i)), (2, .int mk)] := hl
  refine lv_aload_n hx hb dX1_flip_0 rfl (lv_at hl 0 rfl) ?_
  refine va_get (D := D) (ci := 2) (v := .ref a) (C := RX1) (T := TX1) (N := 2) hx hb hts i_X1_flip_X1 hown hK hP 0 rfl rfl 0 (by decide) (hts (.fieldLink RX1 9 "MemoryMap$Copy" "octets" "[B") (List.mem_of_getElem? (i := 1) rfl)) (fun _ h9 => h9) rfl dX1_flip_1 ?_
  refine lv_iload_n hx hb dX1_flip_4 rfl (lv_at hl 1 rfl) ?_
  refine lv_aload_n hx hb dX1_flip_5 rfl (lv_at hl 0 rfl) ?_
  refine va_get (D := D) (ci := 2) (v := .ref a) (C := RX1) (T := TX1) (N := 2) hx hb hts i_X1_flip_X1 hown hK hP 0 rfl rfl 0 (by decide) (hts (.fieldLink RX1 9 "MemoryMap$Copy" "octets" "[B") (List.mem_of_getElem? (i := 1) rfl)) (fun _ h9 => h9) rfl dX1_flip_6 ?_
  refine lv_iload_n hx hb dX1_flip_9 rfl (lv_at hl 1 rfl) ?_
  refine r_baldI hx hb hK hP 1 1 rfl rfl (i := i) (by omega) (by omega) dX1_flip_10 ?_
  refine lv_iload_n hx hb dX1_flip_11 rfl (lv_at hl 2 rfl) ?_
  refine lv_ixor hx hb dX1_flip_12 ?_
  refine lv_i2b hx hb dX1_flip_13 rfl ?_
  refine r_bastI hx hb hK hP hD hS 1 1 rfl rfl (i := i) (by omega) (by omega) dX1_flip_14 (fun H locs hP hD hS => ?_)
  have hP : va_P D vwCl [(h, .inr (2, [.ref a, .int sm])), (a, .inl (t 1, n, .inl (upd f i (((((((((f i))) ^^^ mk))).toInt8.toInt32)).toInt8.toInt32))))] H := hP
  have hD : va_D A [(h, .inr (2, [.ref a, .int sm])), (a, .inl (t 1, n, .inl (upd f i (((((((((f i))) ^^^ mk))).toInt8.toInt32)).toInt8.toInt32))))] := hD
  refine lv_aload_n hx hb dX1_flip_15 rfl (lv_at hl 0 rfl) ?_
  refine va_get (D := D) (ci := 2) (v := .ref a) (C := RX1) (T := TX1) (N := 2) hx hb hts i_X1_flip_X1 hown hK hP 0 rfl rfl 0 (by decide) (hts (.fieldLink RX1 9 "MemoryMap$Copy" "octets" "[B") (List.mem_of_getElem? (i := 1) rfl)) (fun _ h9 => h9) rfl dX1_flip_16 ?_
  refine lv_iload_n hx hb dX1_flip_19 rfl (lv_at hl 1 rfl) ?_
  refine r_baldI hx hb hK hP 1 1 rfl rfl (i := i) (by omega) (by omega) dX1_flip_20 ?_
  refine lv_sipush (v := (nI 255)) hx hb dX1_flip_21 (by decide) ?_
  refine lv_iand hx hb dX1_flip_24 ?_
  exact ret_Mi hx hb hr hlk (upd f i ((f i ^^^ mk).toInt8.toInt32.toInt8.toInt32)) (by rw [byte2, upd_at]; exact ⟨rfl, rfl⟩) hP hD hS (Nat.le_of_ble_eq_true rfl) (Nat.le_of_ble_eq_true rfl) dX1_flip_25

abbrev rm_J7_fill_031fb : Room := { frames := 0, cells := 0, slots := 0, locals := 0 }
set_option maxHeartbeats 4000000 in
set_option maxRecDepth 100000 in
theorem c_J7_fill_031fb (l : Launch) (D : va_G) (t : Nat → ClassId) (a n : Nat) (f : Nat → Int32) (b : Int32) (hn : n ≤ 32) : Mv l yJ7_fill_031fb wsJ7_fill_031fb rm_J7_fill_031fb D (TY t) [.ref a, .int b] [(a, .inl (t 1, n, .inl f))] (S := Nat → Int32) (fun u : Nat → Int32 => (∀ j, j < n → u j = b.toInt8.toInt32) ∧ ∀ j, n ≤ j → u j = f j) (fun u => [(a, .inl (t 1, n, .inl u))]) := by
  refine start_Mv cJ7_fill_031fb 4 none (by decide) rfl (Nat.le_of_ble_eq_true rfl) ?_
  intro p e s m below meth c A ls B hin hP hD hS hA hl
  obtain ⟨hx, hb, hr, hts, hown, hlk, hml, hN, hK⟩ := B
  have hl : lv_has ls 4 [(0, .ref a), (1, .int b)] := hl
  refine lv_iconst (v := (nI 0)) hx hb dJ7_fill_031fb_0 (by decide) ?_
  refine lv_istore_n (lv' := [(2, .int (nI 0)), (0, .ref a), (1, .int b)]) hx hb dJ7_fill_031fb_1 rfl hl (by decide) rfl (fun ls hl => ?_)
  refine lv_aload_n hx hb dJ7_fill_031fb_2 rfl (lv_at hl 1 rfl) ?_
  refine va_alen (v := nI n) hx hb hK hP 0 1 rfl rfl rfl dJ7_fill_031fb_3 ?_
  refine lv_istore_n (lv' := [(3, .int (nI n)), (2, .int (nI 0)), (0, .ref a), (1, .int b)]) hx hb dJ7_fill_031fb_4 rfl hl (by decide) rfl (fun ls hl => ?_)
  refine W_loop (σ := Nat × (Nat → Int32)) (fun x => n - x.1) (fun x H locs ls => match x with | (i, g) => va_P D vwCl [(a, .inl (t 1, n, .inl g))] H ∧ va_D A [(a, .inl (t 1, n, .inl g))] ∧ va_S A s.heap H locs ∧ lv_has ls 4 [(3, .int (nI n)), (2, .int (nI i)), (0, .ref a), (1, .int b)] ∧ i ≤ n ∧ (∀ j, j < i → g j = b.toInt8.toInt32) ∧ ∀ j, n ≤ j → g j = f j) ?_ (0, f) _ _ _ ⟨hP, hD, hS, hl, Nat.zero_le _, fun j hj => absurd hj (Nat.not_lt_zero _), fun _ _ => rfl⟩
  rintro ⟨i, g⟩ H locs ls ⟨hP, hD, hS, hl, hi, h1, h2⟩ ih
  refine lv_iload_n hx hb dJ7_fill_031fb_5 rfl (lv_at hl 1 rfl) ?_
  refine lv_iload_n hx hb dJ7_fill_031fb_6 rfl (lv_at hl 0 rfl) ?_
  refine r_icmp_ge (x := i) (y := n) (tgt := 20) hx hb (by omega) (by omega) dJ7_fill_031fb_7 (by decide) (fun c1 => ?_) (fun c1 => ?_)
  · exact ret_Mv hx hb hr hlk (g) (⟨fun j hj => h1 j (by omega), h2⟩) hP hD hS (Nat.le_of_ble_eq_true rfl) (Nat.le_of_ble_eq_true rfl) dJ7_fill_031fb_20
  · refine lv_aload_n hx hb dJ7_fill_031fb_10 rfl (lv_at hl 2 rfl) ?_
    refine lv_iload_n hx hb dJ7_fill_031fb_11 rfl (lv_at hl 1 rfl) ?_
    refine lv_iload_n hx hb dJ7_fill_031fb_12 rfl (lv_at hl 3 rfl) ?_
    refine r_bastI hx hb hK hP hD hS 0 1 rfl rfl (i := i) (by omega) (by omega) dJ7_fill_031fb_13 (fun H locs hP hD hS => ?_)
    have hP : va_P D vwCl [(a, .inl (t 1, n, .inl (upd g i (b.toInt8.toInt32))))] H := hP
    have hD : va_D A [(a, .inl (t 1, n, .inl (upd g i (b.toInt8.toInt32))))] := hD
    refine lv_iinc (v := (nI (i + 1))) (lv' := [(2, .int (nI (i + 1))), (3, .int (nI n)), (0, .ref a), (1, .int b)]) hx hb dJ7_fill_031fb_14 hl (k := 1) rfl (r_inc1 _) (by decide) rfl (fun ls hl => ?_)
    refine lv_goto (tgt := 5) hx hb dJ7_fill_031fb_17 (by decide) ?_
    refine ih (i + 1, upd g i (b.toInt8.toInt32)) _ _ _ ⟨hP, hD, hS, lv_sub hl [1, 0, 2, 3] rfl, by omega, fun j hj => ?_, fun j hj => ?_⟩ (by show n - (i + 1) < n - i; omega)
    · rcases Nat.lt_succ_iff_lt_or_eq.mp hj with q | rfl
      · rw [pk_un (by omega)]; exact h1 j q
      · exact upd_at
    · rw [pk_un (by omega)]; exact h2 j hj

theorem i_X1_clear_X1 : ∀ w ∈ wsX10, w ∈ wsX1_clear := by decide +kernel
abbrev rm_X1_clear : Room := { frames := 1, cells := 0, slots := 0, locals := 23 }
set_option maxHeartbeats 4000000 in
set_option maxRecDepth 100000 in
theorem c_X1_clear (l : Launch) (D : va_G) (t : Nat → ClassId) (h a n : Nat) (f : Nat → Int32) (sm : Int32) (hn : n ≤ 32) : Mv l yX1_clear wsX1_clear rm_X1_clear D (TY t) [.ref h] [(h, .inr (2, [.ref a, .int sm])), (a, .inl (t 1, n, .inl f))] (S := Nat → Int32) (fun u : Nat → Int32 => (∀ j, j < n → u j = 0) ∧ ∀ j, n ≤ j → u j = f j) (fun u => [(h, .inr (2, [.ref a, .int (sumF u n)])), (a, .inl (t 1, n, .inl u))]) := by
  refine start_Mv cX1_clear 1 none (by decide) rfl (Nat.le_of_ble_eq_true rfl) ?_
  intro p e s m below meth c A ls B hin hP hD hS hA hl
  obtain ⟨hx, hb, hr, hts, hown, hlk, hml, hN, hK⟩ := B
  have hl : lv_has ls 1 [(0, .ref h)] := hl
  refine lv_aload_n hx hb dX1_clear_0 rfl (lv_at hl 0 rfl) ?_
  refine va_get (D := D) (ci := 2) (v := .ref a) (C := RX1) (T := TX1) (N := 2) hx hb hts i_X1_clear_X1 hown hK hP 0 rfl rfl 0 (by decide) (hts (.fieldLink RX1 9 "MemoryMap$Copy" "octets" "[B") (List.mem_of_getElem? (i := 1) rfl)) (fun _ h9 => h9) rfl dX1_clear_1 ?_
  refine lv_iconst (v := (nI 0)) hx hb dX1_clear_4 (by decide) ?_
  refine call_Mv (wr := [(h, .inr (2, [.ref a, .int sm]))]) (wn := fun g : Nat → Int32 => [(h, .inr (2, [.ref a, .int sm])), (a, .inl (t 1, n, .inl g))]) (va_runS (As := [.ref a, .int (nI 0)]) (rest := []) ⟨hx, hb, hml, hown, hts⟩ (c_J7_fill_031fb l D t a n f (nI 0) hn _) (va_cwS 2 hts gX1_clear_J7_fill_031fb rfl rfl rfl (by decide +kernel) ⟨Nat.le_of_ble_eq_true rfl, Nat.le_of_ble_eq_true rfl⟩) (preS hP hD hK hN [1] rfl (by decide)) rfl rfl hl.1 rfl (lv_room (Nat.le_of_ble_eq_true rfl)) dX1_clear_5 ⟨Nat.le_of_ble_eq_true rfl, Nat.le_of_ble_eq_true rfl⟩) hP hD hS hA [1] [0] [0, 1] rfl rfl (by decide) (by decide) (fun _ => rfl) (by decide) (fun g H locs hw hP hD hS hz => ?_)
  have hP : va_P D vwCl [(h, .inr (2, [.ref a, .int sm])), (a, .inl (t 1, n, .inl g))] H := hP
  have hD : va_D A [(h, .inr (2, [.ref a, .int sm])), (a, .inl (t 1, n, .inl g))] := hD
  refine lv_aload_n hx hb dX1_clear_8 rfl (lv_at hl 0 rfl) ?_
  refine lv_aload_n hx hb dX1_clear_9 rfl (lv_at hl 0 rfl) ?_
  refine va_get (D := D) (ci := 2) (v := .ref a) (C := RX1) (T := TX1) (N := 2) hx hb hts i_X1_clear_X1 hown hK hP 0 rfl rfl 0 (by decide) (hts (.fieldLink RX1 9 "MemoryMap$Copy" "octets" "[B") (List.mem_of_getElem? (i := 1) rfl)) (fun _ h9 => h9) rfl dX1_clear_10 ?_
  refine vp_callSi (va_Run.run (va_runS (As := [.ref a]) (rest := [.ref h]) ⟨hx, hb, hml, hown, hts⟩ (c_X1_sumOf l D t a n g hn _) (va_cwS 1 hts gX1_clear_X1_sumOf rfl rfl rfl (by decide +kernel) ⟨Nat.le_of_ble_eq_true rfl, Nat.le_of_ble_eq_true rfl⟩) (preS hP hD hK hN [1] rfl (by decide)) rfl rfl hl.1 rfl (lv_room (Nat.le_of_ble_eq_true rfl)) dX1_clear_13 ⟨Nat.le_of_ble_eq_true rfl, Nat.le_of_ble_eq_true rfl⟩)) (fun r hw2 => ?_)
  subst hw2
  refine va_put (D := D) (ci := 2) (v := .int (sumF g n)) (ty := .int) (C := RX1) (T := TX1) (N := 2) hx hb hts i_X1_clear_X1 tyX1 tyX1_ok nmX1 hown hK hP hD hS 0 rfl rfl 1 (by decide) (hts (.fieldLink RX1 19 "MemoryMap$Copy" "sum" "I") (List.mem_of_getElem? (i := 2) rfl)) (fun _ h9 => h9) rfl (by decide +kernel) rfl rfl (Nat.le_of_ble_eq_true rfl) dX1_clear_16 (fun H locs hP hD hS => ?_)
  have hP : va_P D vwCl [(h, .inr (2, [.ref a, .int (sumF g n)])), (a, .inl (t 1, n, .inl g))] H := hP
  have hD : va_D A [(h, .inr (2, [.ref a, .int (sumF g n)])), (a, .inl (t 1, n, .inl g))] := hD
  exact ret_Mv hx hb hr hlk (g) (hw) hP hD hS (Nat.le_of_ble_eq_true rfl) (Nat.le_of_ble_eq_true rfl) dX1_clear_19

theorem i_X1_become_X1 : ∀ w ∈ wsX10, w ∈ wsX1_become := by decide +kernel
abbrev rm_X1_become : Room := { frames := 1, cells := 0, slots := 0, locals := 40 }
set_option maxHeartbeats 4000000 in
set_option maxRecDepth 100000 in
theorem c_X1_become (l : Launch) (D : va_G) (t : Nat → ClassId) (h a h2 a2 n : Nat) (f g : Nat → Int32) (sm s2 : Int32) (hn : n ≤ 32) (hg : sb_Fit g) : Mv l yX1_become wsX1_become rm_X1_become D (TY t) [.ref h, .ref h2] [(h, .inr (2, [.ref a, .int sm])), (a, .inl (t 1, n, .inl f)), (h2, .inr (2, [.ref a2, .int s2])), (a2, .inl (t 1, n, .inl g))] (S := Nat → Int32) (fun u : Nat → Int32 => (∀ j, j < n → u j = g j) ∧ ∀ j, n ≤ j → u j = f j) (fun u => [(h, .inr (2, [.ref a, .int s2])), (a, .inl (t 1, n, .inl u)), (h2, .inr (2, [.ref a2, .int s2])), (a2, .inl (t 1, n, .inl g))]) := by
  refine start_Mv cX1_become 2 none (by decide) rfl (Nat.le_of_ble_eq_true rfl) ?_
  intro p e s m below meth c A ls B hin hP hD hS hA hl
  obtain ⟨hx, hb, hr, hts, hown, hlk, hml, hN, hK⟩ := B
  have hl : lv_has ls 2 [(0, .ref h), (1, .ref h2)] := hl
  refine lv_aload_n hx hb dX1_become_0 rfl (lv_at hl 1 rfl) ?_
  refine va_get (D := D) (ci := 2) (v := .ref a2) (C := RX1) (T := TX1) (N := 2) hx hb hts i_X1_become_X1 hown hK hP 2 rfl rfl 0 (by decide) (hts (.fieldLink RX1 9 "MemoryMap$Copy" "octets" "[B") (List.mem_of_getElem? (i := 1) rfl)) (fun _ h9 => h9) rfl dX1_become_1 ?_
  refine lv_iconst (v := (nI 0)) hx hb dX1_become_4 (by decide) ?_
  refine lv_aload_n hx hb dX1_become_5 rfl (lv_at hl 0 rfl) ?_
  refine va_get (D := D) (ci := 2) (v := .ref a) (C := RX1) (T := TX1) (N := 2) hx hb hts i_X1_become_X1 hown hK hP 0 rfl rfl 0 (by decide) (hts (.fieldLink RX1 9 "MemoryMap$Copy" "octets" "[B") (List.mem_of_getElem? (i := 1) rfl)) (fun _ h9 => h9) rfl dX1_become_6 ?_
  refine lv_iconst (v := (nI 0)) hx hb dX1_become_9 (by decide) ?_
  refine lv_aload_n hx hb dX1_become_10 rfl (lv_at hl 0 rfl) ?_
  refine va_get (D := D) (ci := 2) (v := .ref a) (C := RX1) (T := TX1) (N := 2) hx hb hts i_X1_become_X1 hown hK hP 0 rfl rfl 0 (by decide) (hts (.fieldLink RX1 9 "MemoryMap$Copy" "octets" "[B") (List.mem_of_getElem? (i := 1) rfl)) (fun _ h9 => h9) rfl dX1_become_11 ?_
  refine va_alen (v := nI n) hx hb hK hP 1 1 rfl rfl rfl dX1_become_14 ?_
  refine va_copyi hx hb (by rw [hml]; exact hl.1.symm) hown (hts (.methodLink RX1 23 arraycopyName) (List.mem_of_getElem? (i := 2) rfl)) (hts (.native arraycopyName) (List.mem_of_getElem? (i := 3) rfl)) (hts (.static arraycopyName) (List.mem_of_getElem? (i := 4) rfl)) (hts (.initialized "java/lang/System") (List.mem_of_getElem? (i := 5) rfl)) hK hP hD hS 3 1 1 1 rfl rfl rfl rfl rfl (nI_pos (by decide)) (nI_pos (by decide)) (nI_pos (by omega)) (by rw [nI_clamp (by decide), nI_clamp (by omega)]; omega) (by rw [nI_clamp (by decide), nI_clamp (by omega)]; omega) (fun i hi => hg _) (Nat.le_of_ble_eq_true rfl) (Nat.le_of_ble_eq_true rfl) dX1_become_15 (fun H locs hP hD hS => ?_)
  rw [nI_clamp (show 0 < 2 ^ 31 by decide), nI_clamp (show n < 2 ^ 31 by omega)] at hP hD
  have hP : va_P D vwCl [(h, .inr (2, [.ref a, .int sm])), (a, .inl (t 1, n, .inl (va_cpy g f 0 0 n))), (h2, .inr (2, [.ref a2, .int s2])), (a2, .inl (t 1, n, .inl g))] H := hP
  have hD : va_D A [(h, .inr (2, [.ref a, .int sm])), (a, .inl (t 1, n, .inl (va_cpy g f 0 0 n))), (h2, .inr (2, [.ref a2, .int s2])), (a2, .inl (t 1, n, .inl g))] := hD
  refine lv_aload_n hx hb dX1_become_18 rfl (lv_at hl 0 rfl) ?_
  refine lv_aload_n hx hb dX1_become_19 rfl (lv_at hl 1 rfl) ?_
  refine va_get (D := D) (ci := 2) (v := .int s2) (C := RX1) (T := TX1) (N := 2) hx hb hts i_X1_become_X1 hown hK hP 2 rfl rfl 1 (by decide) (hts (.fieldLink RX1 19 "MemoryMap$Copy" "sum" "I") (List.mem_of_getElem? (i := 6) rfl)) (fun _ h9 => h9) rfl dX1_become_20 ?_
  refine va_put (D := D) (ci := 2) (v := .int s2) (ty := .int) (C := RX1) (T := TX1) (N := 2) hx hb hts i_X1_become_X1 tyX1 tyX1_ok nmX1 hown hK hP hD hS 0 rfl rfl 1 (by decide) (hts (.fieldLink RX1 19 "MemoryMap$Copy" "sum" "I") (List.mem_of_getElem? (i := 6) rfl)) (fun _ h9 => h9) rfl (by decide +kernel) rfl rfl (Nat.le_of_ble_eq_true rfl) dX1_become_23 (fun H locs hP hD hS => ?_)
  have hP : va_P D vwCl [(h, .inr (2, [.ref a, .int s2])), (a, .inl (t 1, n, .inl (va_cpy g f 0 0 n))), (h2, .inr (2, [.ref a2, .int s2])), (a2, .inl (t 1, n, .inl g))] H := hP
  have hD : va_D A [(h, .inr (2, [.ref a, .int s2])), (a, .inl (t 1, n, .inl (va_cpy g f 0 0 n))), (h2, .inr (2, [.ref a2, .int s2])), (a2, .inl (t 1, n, .inl g))] := hD
  exact ret_Mv hx hb hr hlk (va_cpy g f 0 0 n) (⟨fun j hj => by rw [pk_cpy_in (Nat.zero_le _) (by omega)]; simp, fun j hj => pk_cpy_out (Or.inr (by omega))⟩) hP hD hS (Nat.le_of_ble_eq_true rfl) (Nat.le_of_ble_eq_true rfl) dX1_become_26
end
section
theorem i_X0_init_X0 : ∀ w ∈ wsX00, w ∈ wsX0_init := by decide +kernel
theorem i_X0_init_X1 : ∀ w ∈ wsX10, w ∈ wsX0_init := by decide +kernel
abbrev rm_X0_init : Room := { frames := 2, cells := 4, slots := 68, locals := 44 }
set_option maxHeartbeats 4000000 in
set_option maxRecDepth 100000 in
theorem c_X0_init (l : Launch) (D : va_G) (t : Nat → ClassId) (h n : Nat) (hn : n ≤ 32) : Mv l yX0_init wsX0_init rm_X0_init D (TY t) [.ref h, .int (nI n)] [(h, .inr (1, [.int (nI 0), .null, .null]))] (S := Nat × Nat × Nat × Nat) (fun _ : Nat × Nat × Nat × Nat => True) (fun u => [(h, .inr (1, [.int (nI n), .ref u.1, .ref u.2.2.1])), (u.1, .inr (2, [.ref u.2.1, .int (sumF (fun _ => (0 : Int32)) n)])), (u.2.1, .inl (t 1, n, .inl (fun _ => (0 : Int32)))), (u.2.2.1, .inr (2, [.ref u.2.2.2, .int (sumF (fun _ => (0 : Int32)) n)])), (u.2.2.2, .inl (t 1, n, .inl (fun _ => (0 : Int32))))]) := by
  refine start_Mv cX0_init 2 none (by decide) rfl (Nat.le_of_ble_eq_true rfl) ?_
  intro p e s m below meth c A ls B hin hP hD hS hA hl
  obtain ⟨hx, hb, hr, hts, hown, hlk, hml, hN, hK⟩ := B
  have hl : lv_has ls 2 [(0, .ref h), (1, .int (nI n))] := hl
  refine lv_aload_n hx hb dX0_init_0 rfl (lv_at hl 0 rfl) ?_
  refine W.objInit hx hb hown (hts (.methodLink RX0 1 objectInit) (List.mem_of_getElem? (i := 1) rfl)) (hts (.instanceMethod objectInit) (List.mem_of_getElem? (i := 2) rfl)) (hts (.code objectInit ⟨#[0xb1]⟩ 1 none) (List.mem_of_getElem? (i := 3) rfl)) rfl (by rw [hml]; exact hl.1) rfl dX0_init_1 (Nat.le_of_ble_eq_true rfl) (Nat.le_of_ble_eq_true rfl) ?_
  refine W.eq (g2 := F0 m 4 ls []) rfl ?_
  refine lv_aload_n hx hb dX0_init_4 rfl (lv_at hl 0 rfl) ?_
  refine lv_iload_n hx hb dX0_init_5 rfl (lv_at hl 1 rfl) ?_
  refine va_putF (D := D) (ci := 1) (v := .int (nI n)) (ty := .int) (C := RX0) (T := TX0) (N := 3) hx hb hts i_X0_init_X0 tyX0 tyX0_ok nmX0 hown hK hP hD hS 0 rfl rfl 0 (by decide) (hts (.fieldLink RX0 7 "MemoryMap$Block" "length" "I") (List.mem_of_getElem? (i := 4) rfl)) (fun _ h9 => h9) rfl hin rfl (by decide +kernel) rfl rfl (Nat.le_of_ble_eq_true rfl) dX0_init_6 (fun H locs hP hD hS => ?_)
  have hP : va_P D vwCl [(h, .inr (1, [.int (nI n), .null, .null]))] H := hP
  have hD : va_D A [(h, .inr (1, [.int (nI n), .null, .null]))] := hD
  refine lv_aload_n hx hb dX0_init_9 rfl (lv_at hl 0 rfl) ?_
  refine va_new (ci := 2) (fs := [.null, .int (nI 0)]) (C := RX1) (T := TX1) (N := 2) hx hb hts i_X0_init_X1 tyX1 tyX1_ok hown (hts (.classLink RX0 13 RX1) (List.mem_of_getElem? (i := 5) rfl)) (hts (.instantiable RX1 2) (List.mem_of_getElem? (i := 6) rfl)) (hts (.initialized RX1) (List.mem_of_getElem? (i := 7) rfl)) hK hP hD hS hA rfl (fun j hj => by rcases (show j = 0 ∨ j = 1 by omega) with rfl | rfl <;> rfl) (Nat.le_of_ble_eq_true rfl) (Nat.le_of_ble_eq_true rfl) dX0_init_10 (fun q_1 H hP hD hS => ?_)
  have hP : va_P D vwCl [(h, .inr (1, [.int (nI n), .null, .null])), (q_1, .inr (2, [.null, .int (nI 0)]))] H := hP
  have hD : va_D A [(h, .inr (1, [.int (nI n), .null, .null])), (q_1, .inr (2, [.null, .int (nI 0)]))] := hD
  refine lv_dup hx hb dX0_init_13 rfl ?_
  refine lv_iload_n hx hb dX0_init_14 rfl (lv_at hl 1 rfl) ?_
  refine call_Mv (wr := [(h, .inr (1, [.int (nI n), .null, .null]))]) (wn := fun o1 : Nat => [(h, .inr (1, [.int (nI n), .null, .null])), (q_1, .inr (2, [.ref o1, .int (sumF (fun _ => (0 : Int32)) n)])), (o1, .inl (t 1, n, .inl (fun _ => (0 : Int32))))]) (va_runIN (As := [.int (nI n)]) (rest := [.ref q_1, .ref h]) ⟨hx, hb, hml, hown, hts⟩ (c_X1_init l D t q_1 n hn _) (⟨va_cnB 1 hts ggX0_init_X1_init rfl rfl rfl (hN.m 16 rfl) (hts (.initialized RX1) (List.mem_of_getElem? (i := 7) rfl)) (by decide +kernel) ⟨Nat.le_of_ble_eq_true rfl, Nat.le_of_ble_eq_true rfl⟩, rfl, (hts (.instanceMethod yX1_init) (List.mem_of_getElem? (i := 10) rfl))⟩) (preS hP hD hK hN [1] rfl (by decide)) rfl rfl hl.1 rfl (lv_room (Nat.le_of_ble_eq_true rfl)) dX0_init_15 ⟨Nat.le_of_ble_eq_true rfl, Nat.le_of_ble_eq_true rfl⟩) hP hD hS hA [1] [0] [0, 1, 2] rfl rfl (by decide) (by decide) (fun _ => rfl) (by decide) (fun o1 H locs hw hP hD hS hz => ?_)
  have hP : va_P D vwCl [(h, .inr (1, [.int (nI n), .null, .null])), (q_1, .inr (2, [.ref o1, .int (sumF (fun _ => (0 : Int32)) n)])), (o1, .inl (t 1, n, .inl (fun _ => (0 : Int32))))] H := hP
  have hD : va_D A [(h, .inr (1, [.int (nI n), .null, .null])), (q_1, .inr (2, [.ref o1, .int (sumF (fun _ => (0 : Int32)) n)])), (o1, .inl (t 1, n, .inl (fun _ => (0 : Int32))))] := hD
  refine va_putF (D := D) (ci := 1) (v := .ref q_1) (ty := .object "MemoryMap$Copy") (C := RX0) (T := TX0) (N := 3) hx hb hts i_X0_init_X0 tyX0 tyX0_ok nmX0 hown hK hP hD hS 0 rfl rfl 1 (by decide) (hts (.fieldLink RX0 18 "MemoryMap$Block" "first" "LMemoryMap$Copy;") (List.mem_of_getElem? (i := 8) rfl)) (fun _ h9 => h9) rfl hin rfl (by decide +kernel) rfl rfl (Nat.le_of_ble_eq_true rfl) dX0_init_18 (fun H locs hP hD hS => ?_)
  have hP : va_P D vwCl [(h, .inr (1, [.int (nI n), .ref q_1, .null])), (q_1, .inr (2, [.ref o1, .int (sumF (fun _ => (0 : Int32)) n)])), (o1, .inl (t 1, n, .inl (fun _ => (0 : Int32))))] H := hP
  have hD : va_D A [(h, .inr (1, [.int (nI n), .ref q_1, .null])), (q_1, .inr (2, [.ref o1, .int (sumF (fun _ => (0 : Int32)) n)])), (o1, .inl (t 1, n, .inl (fun _ => (0 : Int32))))] := hD
  refine lv_aload_n hx hb dX0_init_21 rfl (lv_at hl 0 rfl) ?_
  refine va_new (ci := 2) (fs := [.null, .int (nI 0)]) (C := RX1) (T := TX1) (N := 2) hx hb hts i_X0_init_X1 tyX1 tyX1_ok hown (hts (.classLink RX0 13 RX1) (List.mem_of_getElem? (i := 5) rfl)) (hts (.instantiable RX1 2) (List.mem_of_getElem? (i := 6) rfl)) (hts (.initialized RX1) (List.mem_of_getElem? (i := 7) rfl)) hK hP hD hS hA rfl (fun j hj => by rcases (show j = 0 ∨ j = 1 by omega) with rfl | rfl <;> rfl) (Nat.le_of_ble_eq_true rfl) (Nat.le_of_ble_eq_true rfl) dX0_init_22 (fun q_2 H hP hD hS => ?_)
  have hP : va_P D vwCl [(h, .inr (1, [.int (nI n), .ref q_1, .null])), (q_1, .inr (2, [.ref o1, .int (sumF (fun _ => (0 : Int32)) n)])), (o1, .inl (t 1, n, .inl (fun _ => (0 : Int32)))), (q_2, .inr (2, [.null, .int (nI 0)]))] H := hP
  have hD : va_D A [(h, .inr (1, [.int (nI n), .ref q_1, .null])), (q_1, .inr (2, [.ref o1, .int (sumF (fun _ => (0 : Int32)) n)])), (o1, .inl (t 1, n, .inl (fun _ => (0 : Int32)))), (q_2, .inr (2, [.null, .int (nI 0)]))] := hD
  refine lv_dup hx hb dX0_init_25 rfl ?_
  refine lv_iload_n hx hb dX0_init_26 rfl (lv_at hl 1 rfl) ?_
  refine call_Mv (wr := [(h, .inr (1, [.int (nI n), .ref q_1, .null])), (q_1, .inr (2, [.ref o1, .int (sumF (fun _ => (0 : Int32)) n)])), (o1, .inl (t 1, n, .inl (fun _ => (0 : Int32))))]) (wn := fun o2 : Nat => [(h, .inr (1, [.int (nI n), .ref q_1, .null])), (q_1, .inr (2, [.ref o1, .int (sumF (fun _ => (0 : Int32)) n)])), (o1, .inl (t 1, n, .inl (fun _ => (0 : Int32)))), (q_2, .inr (2, [.ref o2, .int (sumF (fun _ => (0 : Int32)) n)])), (o2, .inl (t 1, n, .inl (fun _ => (0 : Int32))))]) (va_runIN (As := [.int (nI n)]) (rest := [.ref q_2, .ref h]) ⟨hx, hb, hml, hown, hts⟩ (c_X1_init l D t q_2 n hn _) (⟨va_cnB 1 hts ggX0_init_X1_init rfl rfl rfl (hN.m 16 rfl) (hts (.initialized RX1) (List.mem_of_getElem? (i := 7) rfl)) (by decide +kernel) ⟨Nat.le_of_ble_eq_true rfl, Nat.le_of_ble_eq_true rfl⟩, rfl, (hts (.instanceMethod yX1_init) (List.mem_of_getElem? (i := 10) rfl))⟩) (preS hP hD hK hN [3] rfl (by decide)) rfl rfl hl.1 rfl (lv_room (Nat.le_of_ble_eq_true rfl)) dX0_init_27 ⟨Nat.le_of_ble_eq_true rfl, Nat.le_of_ble_eq_true rfl⟩) hP hD hS hA [3] [0, 1, 2] [0, 1, 2, 3, 4] rfl rfl (by decide) (by decide) (fun _ => rfl) (by decide) (fun o2 H locs hw hP hD hS hz => ?_)
  have hP : va_P D vwCl [(h, .inr (1, [.int (nI n), .ref q_1, .null])), (q_1, .inr (2, [.ref o1, .int (sumF (fun _ => (0 : Int32)) n)])), (o1, .inl (t 1, n, .inl (fun _ => (0 : Int32)))), (q_2, .inr (2, [.ref o2, .int (sumF (fun _ => (0 : Int32)) n)])), (o2, .inl (t 1, n, .inl (fun _ => (0 : Int32))))] H := hP
  have hD : va_D A [(h, .inr (1, [.int (nI n), .ref q_1, .null])), (q_1, .inr (2, [.ref o1, .int (sumF (fun _ => (0 : Int32)) n)])), (o1, .inl (t 1, n, .inl (fun _ => (0 : Int32)))), (q_2, .inr (2, [.ref o2, .int (sumF (fun _ => (0 : Int32)) n)])), (o2, .inl (t 1, n, .inl (fun _ => (0 : Int32))))] := hD
  refine va_putF (D := D) (ci := 1) (v := .ref q_2) (ty := .object "MemoryMap$Copy") (C := RX0) (T := TX0) (N := 3) hx hb hts i_X0_init_X0 tyX0 tyX0_ok nmX0 hown hK hP hD hS 0 rfl rfl 2 (by decide) (hts (.fieldLink RX0 22 "MemoryMap$Block" "second" "LMemoryMap$Copy;") (List.mem_of_getElem? (i := 9) rfl)) (fun _ h9 => h9) rfl hin rfl (by decide +kernel) rfl rfl (Nat.le_of_ble_eq_true rfl) dX0_init_30 (fun H locs hP hD hS => ?_)
  have hP : va_P D vwCl [(h, .inr (1, [.int (nI n), .ref q_1, .ref q_2])), (q_1, .inr (2, [.ref o1, .int (sumF (fun _ => (0 : Int32)) n)])), (o1, .inl (t 1, n, .inl (fun _ => (0 : Int32)))), (q_2, .inr (2, [.ref o2, .int (sumF (fun _ => (0 : Int32)) n)])), (o2, .inl (t 1, n, .inl (fun _ => (0 : Int32))))] H := hP
  have hD : va_D A [(h, .inr (1, [.int (nI n), .ref q_1, .ref q_2])), (q_1, .inr (2, [.ref o1, .int (sumF (fun _ => (0 : Int32)) n)])), (o1, .inl (t 1, n, .inl (fun _ => (0 : Int32)))), (q_2, .inr (2, [.ref o2, .int (sumF (fun _ => (0 : Int32)) n)])), (o2, .inl (t 1, n, .inl (fun _ => (0 : Int32))))] := hD
  exact ret_Mv hx hb hr hlk ((q_1, o1, q_2, o2)) (trivial) hP hD hS (Nat.le_of_ble_eq_true rfl) (Nat.le_of_ble_eq_true rfl) dX0_init_33

theorem i_X0_hasOctet_X0 : ∀ w ∈ wsX00, w ∈ wsX0_hasOctet := by decide +kernel
abbrev rm_X0_hasOctet : Room := { frames := 1, cells := 0, slots := 0, locals := 25 }
set_option maxHeartbeats 4000000 in
set_option maxRecDepth 100000 in
theorem c_X0_hasOctet (l : Launch) (D : va_G) (t : Nat → ClassId) (h p1 p2 n : Nat) (i : Int32) (hn : n ≤ 32) (hn1 : 1 ≤ n) : Qi l yX0_hasOctet wsX0_hasOctet rm_X0_hasOctet D (TY t) [.ref h, .int i] [(h, .inr (1, [.int (nI n), .ref p1, .ref p2]))] (fun r => (r = nI 1 ∧ ∃ k, k < n ∧ i = nI k) ∨ (r = nI 0 ∧ ∀ k, k < n → i ≠ nI k)) := by
  refine start_Qi cX0_hasOctet 2 (some .boolean) (by decide) rfl (Nat.le_of_ble_eq_true rfl) ?_
  intro p e s m below meth c ls B hP hD hl
  obtain ⟨hx, hb, hr, hts, hown, hlk, hml, hN, hK⟩ := B
  have hl : lv_has ls 2 [(0, .ref h), (1, .int i)] := hl
  refine lv_iload_n hx hb dX0_hasOctet_0 rfl (lv_at hl 1 rfl) ?_
  refine lv_i2l hx hb dX0_hasOctet_1 rfl ?_
  refine lv_lconst (v := (lN (0))) hx hb dX0_hasOctet_2 (by decide) ?_
  refine lv_aload_n hx hb dX0_hasOctet_3 rfl (lv_at hl 0 rfl) ?_
  refine va_get (D := D) (ci := 1) (v := .int (nI n)) (C := RX0) (T := TX0) (N := 3) hx hb hts i_X0_hasOctet_X0 hown hK hP 0 rfl rfl 0 (by decide) (hts (.fieldLink RX0 7 "MemoryMap$Block" "length" "I") (List.mem_of_getElem? (i := 1) rfl)) (fun _ h9 => h9) rfl dX0_hasOctet_4 ?_
  refine lv_iconst (v := (nI 1)) hx hb dX0_hasOctet_7 (by decide) ?_
  refine r_isub (x := n) (y := 1) hx hb (by omega) dX0_hasOctet_8 ?_
  refine lv_i2l (v := (lN (n - 1))) hx hb dX0_hasOctet_9 (nI_l (by omega)) ?_
  refine vp_callSi (va_Run.run (va_runSN (As := [.long i.toInt64, .long (lN (0)), .long (lN (n - 1))]) (rest := []) ⟨hx, hb, hml, hown, hts⟩ (c_X7_isWithin l D t i.toInt64 (lN 0) (lN (n - 1)) _) (⟨va_cnB 3 hts ggX0_hasOctet_X7_isWithin rfl rfl rfl (hN.m 18 rfl) (hts (.initialized RX7) (List.mem_of_getElem? (i := 3) rfl)) (by decide +kernel) ⟨Nat.le_of_ble_eq_true rfl, Nat.le_of_ble_eq_true rfl⟩, (hts (.static yX7_isWithin) (List.mem_of_getElem? (i := 2) rfl)), trivial⟩) (preS hP hD hK hN [] rfl (by decide)) rfl rfl hl.1 rfl (lv_room (Nat.le_of_ble_eq_true rfl)) dX0_hasOctet_10 ⟨Nat.le_of_ble_eq_true rfl, Nat.le_of_ble_eq_true rfl⟩)) (fun r hw => ?_)
  rcases hw with ⟨rfl, h1, h2⟩ | ⟨rfl, h1⟩
  · obtain ⟨k, k1, k2, rfl⟩ := rngI (by omega) (by omega) h1 h2
    exact ret_Qz hx hb hr hlk rfl (Or.inl ⟨rfl, k, by omega, rfl⟩) dX0_hasOctet_13
  · have h2 := rngI' (by omega) (by omega) h1
    exact ret_Qz hx hb hr hlk rfl (Or.inr ⟨rfl, fun k hk => h2 k (Nat.zero_le _) (by omega)⟩) dX0_hasOctet_13

theorem i_X0_repair_X0 : ∀ w ∈ wsX00, w ∈ wsX0_repair := by decide +kernel
abbrev rm_X0_repair : Room := { frames := 2, cells := 0, slots := 0, locals := 61 }
set_option maxHeartbeats 4000000 in
set_option maxRecDepth 100000 in
theorem c_X0_repair (l : Launch) (D : va_G) (t : Nat → ClassId) (h p1 o1 p2 o2 n : Nat) (f1 f2 : Nat → Int32) (s1 s2 : Int32) (hn : n ≤ 32) (hf1 : sb_Fit f1) (hf2 : sb_Fit f2) : Mi l yX0_repair wsX0_repair rm_X0_repair D (TY t) [.ref h] [(h, .inr (1, [.int (nI n), .ref p1, .ref p2])), (p1, .inr (2, [.ref o1, .int s1])), (o1, .inl (t 1, n, .inl f1)), (p2, .inr (2, [.ref o2, .int s2])), (o2, .inl (t 1, n, .inl f2))] (S := (Nat → Int32) × Int32 × (Nat → Int32) × Int32) (fun r u => (r = nI 1 ∧ s1 = sumF f1 n ∧ ∃ g, u = (f1, s1, g, s1) ∧ (∀ j, j < n → g j = f1 j) ∧ ∀ j, n ≤ j → g j = f2 j) ∨ (r = nI 2 ∧ s1 ≠ sumF f1 n ∧ s2 = sumF f2 n ∧ ∃ g, u = (g, s2, f2, s2) ∧ (∀ j, j < n → g j = f2 j) ∧ ∀ j, n ≤ j → g j = f1 j) ∨ (r = nI 0 ∧ s1 ≠ sumF f1 n ∧ s2 ≠ sumF f2 n ∧ ∃ g1 g2, u = (g1, sumF g1 n, g2, sumF g2 n) ∧ ((∀ j, j < n → g1 j = 0) ∧ ∀ j, n ≤ j → g1 j = f1 j) ∧ (∀ j, j < n → g2 j = 0) ∧ ∀ j, n ≤ j → g2 j = f2 j)) (fun u => [(h, .inr (1, [.int (nI n), .ref p1, .ref p2])), (p1, .inr (2, [.ref o1, .int u.2.1])), (o1, .inl (t 1, n, .inl u.1)), (p2, .inr (2, [.ref o2, .int u.2.2.2])), (o2, .inl (t 1, n, .inl u.2.2.1))]) := by
  refine start_Mi cX0_repair 1 (some .int) (by decide) rfl (Nat.le_of_ble_eq_true rfl) ?_
  intro p e s m below meth c A ls B hin hP hD hS hA hl
  obtain ⟨hx, hb, hr, hts, hown, hlk, hml, hN, hK⟩ := B
  have hl : lv_has ls 1 [(0, .ref h)] := hl
  refine lv_aload_n hx hb dX0_repair_0 rfl (lv_at hl 0 rfl) ?_
  refine va_get (D := D) (ci := 1) (v := .ref p1) (C := RX0) (T := TX0) (N := 3) hx hb hts i_X0_repair_X0 hown hK hP 0 rfl rfl 1 (by decide) (hts (.fieldLink RX0 18 "MemoryMap$Block" "first" "LMemoryMap$Copy;") (List.mem_of_getElem? (i := 1) rfl)) (fun _ h9 => h9) rfl dX0_repair_1 ?_
  refine vp_callSi (va_Run.run (va_runVN (As := []) (rest := []) ⟨hx, hb, hml, hown, hts⟩ (c_X1_isGood l D t p1 o1 n f1 s1 hn _) (⟨va_cnB 0 hts ggX0_repair_X1_isGood rfl rfl rfl (hN.m 22 rfl) (hts (.initialized RX1) (List.mem_of_getElem? (i := 4) rfl)) (by decide +kernel) ⟨Nat.le_of_ble_eq_true rfl, Nat.le_of_ble_eq_true rfl⟩, (hts (.instanceMethod yX1_isGood) (List.mem_of_getElem? (i := 3) rfl)), (hts (.selects RX1 yX1_isGood yX1_isGood) (List.mem_of_getElem? (i := 5) rfl))⟩) (preV hP hD hK hN [1, 2] 2 1 rfl (by decide) rfl rfl rfl) rfl rfl hl.1 rfl (lv_room (Nat.le_of_ble_eq_true rfl)) dX0_repair_4 ⟨Nat.le_of_ble_eq_true rfl, Nat.le_of_ble_eq_true rfl⟩)) (fun r hw => ?_)
  rcases hw with ⟨rfl, g1⟩ | ⟨rfl, g1⟩
  · refine r_if_eq (x := 1) (tgt := 23) hx hb (by omega) dX0_repair_7 (by decide) (fun c => absurd c (by decide)) (fun _ => ?_)
    refine lv_aload_n hx hb dX0_repair_10 rfl (lv_at hl 0 rfl) ?_
    refine va_get (D := D) (ci := 1) (v := .ref p2) (C := RX0) (T := TX0) (N := 3) hx hb hts i_X0_repair_X0 hown hK hP 0 rfl rfl 2 (by decide) (hts (.fieldLink RX0 22 "MemoryMap$Block" "second" "LMemoryMap$Copy;") (List.mem_of_getElem? (i := 2) rfl)) (fun _ h9 => h9) rfl dX0_repair_11 ?_
    refine lv_aload_n hx hb dX0_repair_14 rfl (lv_at hl 0 rfl) ?_
    refine va_get (D := D) (ci := 1) (v := .ref p1) (C := RX0) (T := TX0) (N := 3) hx hb hts i_X0_repair_X0 hown hK hP 0 rfl rfl 1 (by decide) (hts (.fieldLink RX0 18 "MemoryMap$Block" "first" "LMemoryMap$Copy;") (List.mem_of_getElem? (i := 1) rfl)) (fun _ h9 => h9) rfl dX0_repair_15 ?_
    refine call_Mv (wr := [(h, .inr (1, [.int (nI n), .ref p1, .ref p2]))]) (wn := fun g : Nat → Int32 => [(h, .inr (1, [.int (nI n), .ref p1, .ref p2])), (p1, .inr (2, [.ref o1, .int s1])), (o1, .inl (t 1, n, .inl f1)), (p2, .inr (2, [.ref o2, .int s1])), (o2, .inl (t 1, n, .inl g))]) (va_runVN (As := [.ref p1]) (rest := []) ⟨hx, hb, hml, hown, hts⟩ (c_X1_become l D t p2 o2 p1 o1 n f2 f1 s2 s1 hn hf1 _) (⟨va_cnB 1 hts ggX0_repair_X1_become rfl rfl rfl (hN.m 23 rfl) (hts (.initialized RX1) (List.mem_of_getElem? (i := 4) rfl)) (by decide +kernel) ⟨Nat.le_of_ble_eq_true rfl, Nat.le_of_ble_eq_true rfl⟩, (hts (.instanceMethod yX1_become) (List.mem_of_getElem? (i := 13) rfl)), (hts (.selects RX1 yX1_become yX1_become) (List.mem_of_getElem? (i := 14) rfl))⟩) (preV hP hD hK hN [3, 4, 1, 2] 2 3 rfl (by decide) rfl rfl rfl) rfl rfl hl.1 rfl (lv_room (Nat.le_of_ble_eq_true rfl)) dX0_repair_18 ⟨Nat.le_of_ble_eq_true rfl, Nat.le_of_ble_eq_true rfl⟩) hP hD hS hA [3, 4, 1, 2] [0] [0, 3, 4, 1, 2] rfl rfl (by decide) (by decide) (fun _ => rfl) (by decide) (fun g H locs hw hP hD hS hz => ?_)
    have hP : va_P D vwCl [(h, .inr (1, [.int (nI n), .ref p1, .ref p2])), (p1, .inr (2, [.ref o1, .int s1])), (o1, .inl (t 1, n, .inl f1)), (p2, .inr (2, [.ref o2, .int s1])), (o2, .inl (t 1, n, .inl g))] H := hP
    have hD : va_D A [(h, .inr (1, [.int (nI n), .ref p1, .ref p2])), (p1, .inr (2, [.ref o1, .int s1])), (o1, .inl (t 1, n, .inl f1)), (p2, .inr (2, [.ref o2, .int s1])), (o2, .inl (t 1, n, .inl g))] := hD
    refine lv_iconst (v := (nI 1)) hx hb dX0_repair_21 (by decide) ?_
    exact ret_Mi hx hb hr hlk ((f1, s1, g, s1)) (Or.inl ⟨rfl, g1, g, rfl, hw⟩) hP hD hS (Nat.le_of_ble_eq_true rfl) (Nat.le_of_ble_eq_true rfl) dX0_repair_22
  · refine r_if_eq (x := 0) (tgt := 23) hx hb (by omega) dX0_repair_7 (by decide) (fun _ => ?_) (fun c => absurd c (by decide))
    refine lv_aload_n hx hb dX0_repair_23 rfl (lv_at hl 0 rfl) ?_
    refine va_get (D := D) (ci := 1) (v := .ref p2) (C := RX0) (T := TX0) (N := 3) hx hb hts i_X0_repair_X0 hown hK hP 0 rfl rfl 2 (by decide) (hts (.fieldLink RX0 22 "MemoryMap$Block" "second" "LMemoryMap$Copy;") (List.mem_of_getElem? (i := 2) rfl)) (fun _ h9 => h9) rfl dX0_repair_24 ?_
    refine vp_callSi (va_Run.run (va_runVN (As := []) (rest := []) ⟨hx, hb, hml, hown, hts⟩ (c_X1_isGood l D t p2 o2 n f2 s2 hn _) (⟨va_cnB 0 hts ggX0_repair_X1_isGood rfl rfl rfl (hN.m 22 rfl) (hts (.initialized RX1) (List.mem_of_getElem? (i := 4) rfl)) (by decide +kernel) ⟨Nat.le_of_ble_eq_true rfl, Nat.le_of_ble_eq_true rfl⟩, (hts (.instanceMethod yX1_isGood) (List.mem_of_getElem? (i := 3) rfl)), (hts (.selects RX1 yX1_isGood yX1_isGood) (List.mem_of_getElem? (i := 5) rfl))⟩) (preV hP hD hK hN [3, 4] 2 3 rfl (by decide) rfl rfl rfl) rfl rfl hl.1 rfl (lv_room (Nat.le_of_ble_eq_true rfl)) dX0_repair_27 ⟨Nat.le_of_ble_eq_true rfl, Nat.le_of_ble_eq_true rfl⟩)) (fun r hw => ?_)
    rcases hw with ⟨rfl, g2⟩ | ⟨rfl, g2⟩
    · refine r_if_eq (x := 1) (tgt := 46) hx hb (by omega) dX0_repair_30 (by decide) (fun c => absurd c (by decide)) (fun _ => ?_)
      refine lv_aload_n hx hb dX0_repair_33 rfl (lv_at hl 0 rfl) ?_
      refine va_get (D := D) (ci := 1) (v := .ref p1) (C := RX0) (T := TX0) (N := 3) hx hb hts i_X0_repair_X0 hown hK hP 0 rfl rfl 1 (by decide) (hts (.fieldLink RX0 18 "MemoryMap$Block" "first" "LMemoryMap$Copy;") (List.mem_of_getElem? (i := 1) rfl)) (fun _ h9 => h9) rfl dX0_repair_34 ?_
      refine lv_aload_n hx hb dX0_repair_37 rfl (lv_at hl 0 rfl) ?_
      refine va_get (D := D) (ci := 1) (v := .ref p2) (C := RX0) (T := TX0) (N := 3) hx hb hts i_X0_repair_X0 hown hK hP 0 rfl rfl 2 (by decide) (hts (.fieldLink RX0 22 "MemoryMap$Block" "second" "LMemoryMap$Copy;") (List.mem_of_getElem? (i := 2) rfl)) (fun _ h9 => h9) rfl dX0_repair_38 ?_
      refine call_Mv (wr := [(h, .inr (1, [.int (nI n), .ref p1, .ref p2]))]) (wn := fun g : Nat → Int32 => [(h, .inr (1, [.int (nI n), .ref p1, .ref p2])), (p1, .inr (2, [.ref o1, .int s2])), (o1, .inl (t 1, n, .inl g)), (p2, .inr (2, [.ref o2, .int s2])), (o2, .inl (t 1, n, .inl f2))]) (va_runVN (As := [.ref p2]) (rest := []) ⟨hx, hb, hml, hown, hts⟩ (c_X1_become l D t p1 o1 p2 o2 n f1 f2 s1 s2 hn hf2 _) (⟨va_cnB 1 hts ggX0_repair_X1_become rfl rfl rfl (hN.m 23 rfl) (hts (.initialized RX1) (List.mem_of_getElem? (i := 4) rfl)) (by decide +kernel) ⟨Nat.le_of_ble_eq_true rfl, Nat.le_of_ble_eq_true rfl⟩, (hts (.instanceMethod yX1_become) (List.mem_of_getElem? (i := 13) rfl)), (hts (.selects RX1 yX1_become yX1_become) (List.mem_of_getElem? (i := 14) rfl))⟩) (preV hP hD hK hN [1, 2, 3, 4] 2 1 rfl (by decide) rfl rfl rfl) rfl rfl hl.1 rfl (lv_room (Nat.le_of_ble_eq_true rfl)) dX0_repair_41 ⟨Nat.le_of_ble_eq_true rfl, Nat.le_of_ble_eq_true rfl⟩) hP hD hS hA [1, 2, 3, 4] [0] [0, 1, 2, 3, 4] rfl rfl (by decide) (by decide) (fun _ => rfl) (by decide) (fun g H locs hw hP hD hS hz => ?_)
      have hP : va_P D vwCl [(h, .inr (1, [.int (nI n), .ref p1, .ref p2])), (p1, .inr (2, [.ref o1, .int s2])), (o1, .inl (t 1, n, .inl g)), (p2, .inr (2, [.ref o2, .int s2])), (o2, .inl (t 1, n, .inl f2))] H := hP
      have hD : va_D A [(h, .inr (1, [.int (nI n), .ref p1, .ref p2])), (p1, .inr (2, [.ref o1, .int s2])), (o1, .inl (t 1, n, .inl g)), (p2, .inr (2, [.ref o2, .int s2])), (o2, .inl (t 1, n, .inl f2))] := hD
      refine lv_iconst (v := (nI 2)) hx hb dX0_repair_44 (by decide) ?_
      exact ret_Mi hx hb hr hlk ((g, s2, f2, s2)) (Or.inr (Or.inl ⟨rfl, g1, g2, g, rfl, hw⟩)) hP hD hS (Nat.le_of_ble_eq_true rfl) (Nat.le_of_ble_eq_true rfl) dX0_repair_45
    · refine r_if_eq (x := 0) (tgt := 46) hx hb (by omega) dX0_repair_30 (by decide) (fun _ => ?_) (fun c => absurd c (by decide))
      refine lv_aload_n hx hb dX0_repair_46 rfl (lv_at hl 0 rfl) ?_
      refine va_get (D := D) (ci := 1) (v := .ref p1) (C := RX0) (T := TX0) (N := 3) hx hb hts i_X0_repair_X0 hown hK hP 0 rfl rfl 1 (by decide) (hts (.fieldLink RX0 18 "MemoryMap$Block" "first" "LMemoryMap$Copy;") (List.mem_of_getElem? (i := 1) rfl)) (fun _ h9 => h9) rfl dX0_repair_47 ?_
      refine call_Mv (wr := [(h, .inr (1, [.int (nI n), .ref p1, .ref p2])), (p2, .inr (2, [.ref o2, .int s2])), (o2, .inl (t 1, n, .inl f2))]) (wn := fun k1 : Nat → Int32 => [(h, .inr (1, [.int (nI n), .ref p1, .ref p2])), (p1, .inr (2, [.ref o1, .int (sumF k1 n)])), (o1, .inl (t 1, n, .inl k1)), (p2, .inr (2, [.ref o2, .int s2])), (o2, .inl (t 1, n, .inl f2))]) (va_runVN (As := []) (rest := []) ⟨hx, hb, hml, hown, hts⟩ (c_X1_clear l D t p1 o1 n f1 s1 hn _) (⟨va_cnB 0 hts ggX0_repair_X1_clear rfl rfl rfl (hN.m 24 rfl) (hts (.initialized RX1) (List.mem_of_getElem? (i := 4) rfl)) (by decide +kernel) ⟨Nat.le_of_ble_eq_true rfl, Nat.le_of_ble_eq_true rfl⟩, (hts (.instanceMethod yX1_clear) (List.mem_of_getElem? (i := 20) rfl)), (hts (.selects RX1 yX1_clear yX1_clear) (List.mem_of_getElem? (i := 21) rfl))⟩) (preV hP hD hK hN [1, 2] 2 1 rfl (by decide) rfl rfl rfl) rfl rfl hl.1 rfl (lv_room (Nat.le_of_ble_eq_true rfl)) dX0_repair_50 ⟨Nat.le_of_ble_eq_true rfl, Nat.le_of_ble_eq_true rfl⟩) hP hD hS hA [1, 2] [0, 3, 4] [0, 3, 4, 1, 2] rfl rfl (by decide) (by decide) (fun _ => rfl) (by decide) (fun k1 H locs hw1 hP hD hS hz => ?_)
      have hP : va_P D vwCl [(h, .inr (1, [.int (nI n), .ref p1, .ref p2])), (p1, .inr (2, [.ref o1, .int (sumF k1 n)])), (o1, .inl (t 1, n, .inl k1)), (p2, .inr (2, [.ref o2, .int s2])), (o2, .inl (t 1, n, .inl f2))] H := hP
      have hD : va_D A [(h, .inr (1, [.int (nI n), .ref p1, .ref p2])), (p1, .inr (2, [.ref o1, .int (sumF k1 n)])), (o1, .inl (t 1, n, .inl k1)), (p2, .inr (2, [.ref o2, .int s2])), (o2, .inl (t 1, n, .inl f2))] := hD
      refine lv_aload_n hx hb dX0_repair_53 rfl (lv_at hl 0 rfl) ?_
      refine va_get (D := D) (ci := 1) (v := .ref p2) (C := RX0) (T := TX0) (N := 3) hx hb hts i_X0_repair_X0 hown hK hP 0 rfl rfl 2 (by decide) (hts (.fieldLink RX0 22 "MemoryMap$Block" "second" "LMemoryMap$Copy;") (List.mem_of_getElem? (i := 2) rfl)) (fun _ h9 => h9) rfl dX0_repair_54 ?_
      refine call_Mv (wr := [(h, .inr (1, [.int (nI n), .ref p1, .ref p2])), (p1, .inr (2, [.ref o1, .int (sumF k1 n)])), (o1, .inl (t 1, n, .inl k1))]) (wn := fun k2 : Nat → Int32 => [(h, .inr (1, [.int (nI n), .ref p1, .ref p2])), (p1, .inr (2, [.ref o1, .int (sumF k1 n)])), (o1, .inl (t 1, n, .inl k1)), (p2, .inr (2, [.ref o2, .int (sumF k2 n)])), (o2, .inl (t 1, n, .inl k2))]) (va_runVN (As := []) (rest := []) ⟨hx, hb, hml, hown, hts⟩ (c_X1_clear l D t p2 o2 n f2 s2 hn _) (⟨va_cnB 0 hts ggX0_repair_X1_clear rfl rfl rfl (hN.m 24 rfl) (hts (.initialized RX1) (List.mem_of_getElem? (i := 4) rfl)) (by decide +kernel) ⟨Nat.le_of_ble_eq_true rfl, Nat.le_of_ble_eq_true rfl⟩, (hts (.instanceMethod yX1_clear) (List.mem_of_getElem? (i := 20) rfl)), (hts (.selects RX1 yX1_clear yX1_clear) (List.mem_of_getElem? (i := 21) rfl))⟩) (preV hP hD hK hN [3, 4] 2 3 rfl (by decide) rfl rfl rfl) rfl rfl hl.1 rfl (lv_room (Nat.le_of_ble_eq_true rfl)) dX0_repair_57 ⟨Nat.le_of_ble_eq_true rfl, Nat.le_of_ble_eq_true rfl⟩) hP hD hS hA [3, 4] [0, 1, 2] [0, 1, 2, 3, 4] rfl rfl (by decide) (by decide) (fun _ => rfl) (by decide) (fun k2 H locs hw2 hP hD hS hz => ?_)
      have hP : va_P D vwCl [(h, .inr (1, [.int (nI n), .ref p1, .ref p2])), (p1, .inr (2, [.ref o1, .int (sumF k1 n)])), (o1, .inl (t 1, n, .inl k1)), (p2, .inr (2, [.ref o2, .int (sumF k2 n)])), (o2, .inl (t 1, n, .inl k2))] H := hP
      have hD : va_D A [(h, .inr (1, [.int (nI n), .ref p1, .ref p2])), (p1, .inr (2, [.ref o1, .int (sumF k1 n)])), (o1, .inl (t 1, n, .inl k1)), (p2, .inr (2, [.ref o2, .int (sumF k2 n)])), (o2, .inl (t 1, n, .inl k2))] := hD
      refine lv_iconst (v := (nI 0)) hx hb dX0_repair_60 (by decide) ?_
      exact ret_Mi hx hb hr hlk ((k1, sumF k1 n, k2, sumF k2 n)) (Or.inr (Or.inr ⟨rfl, g1, g2, k1, k2, rfl, hw1, hw2⟩)) hP hD hS (Nat.le_of_ble_eq_true rfl) (Nat.le_of_ble_eq_true rfl) dX0_repair_61
end
section
theorem s_l : ∀ n, n < 32 → ((nI n &&& 31).toBitVec.smod 32).toNat = n := by decide +kernel
theorem bit_ct {k f : Nat} (hk : k < 2 ^ 31) (hf : f < 32) : (nI k >>> (nI f &&& 31)) &&& nI 1 = nI (k / 2 ^ f % 2) := by
  rw [pk_shrN hk _ f (s_l f hf), nx_and, Nat.and_one_is_mod]
theorem sh_ct : ∀ f, f < 32 → nI 1 <<< (nI f &&& 31) = nI (2 ^ f) := by decide +kernel
theorem nx_or (a b : Nat) : nI a ||| nI b = nI (a ||| b) := by
  apply Int32.toBitVec_inj.1
  show BitVec.ofNat 32 a ||| BitVec.ofNat 32 b = BitVec.ofNat 32 (a ||| b)
  apply BitVec.eq_of_getLsbD_eq
  intro i hi
  simp [hi]
theorem or_ct {a f : Nat} (hf : f < 32) : nI a ||| (nI 1 <<< (nI f &&& 31)) = nI (a ||| 2 ^ f) := by rw [sh_ct f hf, nx_or]
theorem sub_ct {a s : Nat} (ha : a < 2 ^ 31) : (nI a &&& (nI s ^^^ (-1))) = 0 ↔ a &&& s = a := by
  have e : nI a &&& (nI s ^^^ (-1)) = 0 ↔ (BitVec.ofNat 32 a &&& (BitVec.ofNat 32 s ^^^ BitVec.allOnes 32)) = 0#32 := by
    rw [← Int32.toBitVec_inj]
    exact Iff.rfl
  rw [e]
  constructor
  · intro h
    apply Nat.eq_of_testBit_eq
    intro i
    rw [Nat.testBit_and]
    by_cases hi : i < 32
    · have h1 := congrArg (fun v : BitVec 32 => v.getLsbD i) h
      simp only [BitVec.getLsbD_and, BitVec.getLsbD_xor, BitVec.getLsbD_ofNat, BitVec.getLsbD_allOnes, BitVec.getLsbD_zero, Nat.zero_testBit, hi, decide_true, Bool.true_and] at h1
      revert h1
      cases a.testBit i <;> cases s.testBit i <;> decide
    · have : a.testBit i = false := Nat.testBit_lt_two_pow (Nat.lt_of_lt_of_le ha (Nat.pow_le_pow_right (by decide) (by omega)))
      rw [this]; rfl
  · intro h
    apply BitVec.eq_of_getLsbD_eq
    intro i hi
    have h1 := congrArg (fun v : Nat => v.testBit i) h
    simp only [Nat.testBit_and] at h1
    simp only [BitVec.getLsbD_and, BitVec.getLsbD_xor, BitVec.getLsbD_ofNat, BitVec.getLsbD_allOnes, BitVec.getLsbD_zero, Nat.zero_testBit, hi, decide_true, Bool.true_and]
    revert h1
    cases a.testBit i <;> cases s.testBit i <;> decide
theorem bit_dec (k f : Nat) : (k / 2 ^ f % 2 = 1) ↔ k.testBit f = true := by
  rw [Nat.testBit_eq_decide_div_mod_eq, decide_eq_true_iff]
/-- the greatest depth of those called, among 1 .. n -/
def mxD (k : Nat) (d : Nat → Nat) : Nat → Nat
  | 0 => 0
  | n + 1 => if k.testBit (n + 1) then max (mxD k d n) (d (n + 1)) else mxD k d n
theorem mxD_le {k B : Nat} {d : Nat → Nat} : ∀ n, (∀ g, 1 ≤ g → g ≤ n → k.testBit g = true → d g ≤ B) → mxD k d n ≤ B
  | 0, _ => Nat.zero_le _
  | n + 1, h => by
    have ih := mxD_le (k := k) (B := B) (d := d) n (fun g h1 h2 h3 => h g h1 (by omega) h3)
    unfold mxD
    split
    · next e => exact Nat.max_le.mpr ⟨ih, h (n + 1) (by omega) (Nat.le_refl _) e⟩
    · exact ih
/-- one function settled, if all that it calls are -/
def stp (cm stk : Nat → Nat) (x : Nat × (Nat → Nat)) (f : Nat) : Nat × (Nat → Nat) :=
  if x.1.testBit f = false ∧ cm f &&& x.1 = cm f then (x.1 ||| 2 ^ f, va_up x.2 f (stk f + mxD (cm f) x.2 30)) else x
def rnd (cm stk : Nat → Nat) (x : Nat × (Nat → Nat)) : Nat → Nat × (Nat → Nat)
  | 0 => x
  | n + 1 => stp cm stk (rnd cm stk x n) (n + 1)
def itr (cm stk : Nat → Nat) (x : Nat × (Nat → Nat)) : Nat → Nat × (Nat → Nat)
  | 0 => x
  | n + 1 => rnd cm stk (itr cm stk x n) 30
theorem mx_i {a b : Nat} (ha : a < 2 ^ 31) (hb : b < 2 ^ 31) : (if nI a < nI b then nI b else nI a) = nI (max a b) := by
  by_cases h : a < b
  · rw [if_pos ((nI_ltI ha hb).mpr h), Nat.max_eq_right (by omega)]
  · rw [if_neg (fun q => h ((nI_ltI ha hb).mp q)), Nat.max_eq_left (by omega)]
theorem i_X2_init_X2 : ∀ w ∈ wsX20, w ∈ wsX2_init := by decide +kernel
abbrev rm_X2_init : Room := { frames := 1, cells := 3, slots := 93, locals := 12 }
set_option maxHeartbeats 4000000 in
set_option maxRecDepth 100000 in
theorem c_X2_init (l : Launch) (D : va_G) (t : Nat → ClassId) (h : Nat)  : Mv l yX2_init wsX2_init rm_X2_init D (TY t) [.ref h] [(h, .inr (3, [.null, .null, .null]))] (S := Nat × Nat × Nat) (fun _ : Nat × Nat × Nat => True) (fun u => [(h, .inr (3, [.ref u.1, .ref u.2.1, .ref u.2.2])), (u.1, .inl (t 0, 31, .inl (nF (fun _ => 0)))), (u.2.1, .inl (t 0, 31, .inl (nF (fun _ => 0)))), (u.2.2, .inl (t 0, 31, .inl (nF (fun _ => 0))))]) := by
  refine start_Mv cX2_init 1 none (by decide) rfl (Nat.le_of_ble_eq_true rfl) ?_
  intro p e s m below meth c A ls B hin hP hD hS hA hl
  obtain ⟨hx, hb, hr, hts, hown, hlk, hml, hN, hK⟩ := B
  have hl : lv_has ls 1 [(0, .ref h)] := hl
  refine lv_aload_n hx hb dX2_init_0 rfl (lv_at hl 0 rfl) ?_
  refine W.objInit hx hb hown (hts (.methodLink RX2 3 objectInit) (List.mem_of_getElem? (i := 1) rfl)) (hts (.instanceMethod objectInit) (List.mem_of_getElem? (i := 2) rfl)) (hts (.code objectInit ⟨#[0xb1]⟩ 1 none) (List.mem_of_getElem? (i := 3) rfl)) rfl (by rw [hml]; exact hl.1) rfl dX2_init_1 (Nat.le_of_ble_eq_true rfl) (Nat.le_of_ble_eq_true rfl) ?_
  refine W.eq (g2 := F0 m 4 ls []) rfl ?_
  refine lv_aload_n hx hb dX2_init_4 rfl (lv_at hl 0 rfl) ?_
  refine lv_bipush (v := (nI 31)) hx hb dX2_init_5 (by decide) ?_
  refine r_newI hx hb (hts (.arrayClass .int) (List.mem_of_getElem? (i := 4) rfl)) hK hP hD hS hA 0 rfl (Nat.le_of_ble_eq_true rfl) (Nat.le_of_ble_eq_true rfl) (Nat.le_of_ble_eq_true rfl) dX2_init_7 (fun q_1 H hP hD hS => ?_)
  have hP : va_P D vwCl [(h, .inr (3, [.null, .null, .null])), (q_1, .inl (t 0, 31, .inl (nF (fun _ => 0))))] H := hP
  have hD : va_D A [(h, .inr (3, [.null, .null, .null])), (q_1, .inl (t 0, 31, .inl (nF (fun _ => 0))))] := hD
  refine va_putF (D := D) (ci := 3) (v := .ref q_1) (ty := .array .int) (C := RX2) (T := TX2) (N := 3) hx hb hts i_X2_init_X2 tyX2 tyX2_ok nmX2 hown hK hP hD hS 0 rfl rfl 0 (by decide) (hts (.fieldLink RX2 9 "MemoryMap$Functions" "stacks" "[I") (List.mem_of_getElem? (i := 5) rfl)) (fun _ h9 => h9) rfl hin rfl (by decide +kernel) rfl rfl (Nat.le_of_ble_eq_true rfl) dX2_init_9 (fun H locs hP hD hS => ?_)
  have hP : va_P D vwCl [(h, .inr (3, [.ref q_1, .null, .null])), (q_1, .inl (t 0, 31, .inl (nF (fun _ => 0))))] H := hP
  have hD : va_D A [(h, .inr (3, [.ref q_1, .null, .null])), (q_1, .inl (t 0, 31, .inl (nF (fun _ => 0))))] := hD
  refine lv_aload_n hx hb dX2_init_12 rfl (lv_at hl 0 rfl) ?_
  refine lv_bipush (v := (nI 31)) hx hb dX2_init_13 (by decide) ?_
  refine r_newI hx hb (hts (.arrayClass .int) (List.mem_of_getElem? (i := 4) rfl)) hK hP hD hS hA 0 rfl (Nat.le_of_ble_eq_true rfl) (Nat.le_of_ble_eq_true rfl) (Nat.le_of_ble_eq_true rfl) dX2_init_15 (fun q_2 H hP hD hS => ?_)
  have hP : va_P D vwCl [(h, .inr (3, [.ref q_1, .null, .null])), (q_1, .inl (t 0, 31, .inl (nF (fun _ => 0)))), (q_2, .inl (t 0, 31, .inl (nF (fun _ => 0))))] H := hP
  have hD : va_D A [(h, .inr (3, [.ref q_1, .null, .null])), (q_1, .inl (t 0, 31, .inl (nF (fun _ => 0)))), (q_2, .inl (t 0, 31, .inl (nF (fun _ => 0))))] := hD
  refine va_putF (D := D) (ci := 3) (v := .ref q_2) (ty := .array .int) (C := RX2) (T := TX2) (N := 3) hx hb hts i_X2_init_X2 tyX2 tyX2_ok nmX2 hown hK hP hD hS 0 rfl rfl 1 (by decide) (hts (.fieldLink RX2 15 "MemoryMap$Functions" "called" "[I") (List.mem_of_getElem? (i := 6) rfl)) (fun _ h9 => h9) rfl hin rfl (by decide +kernel) rfl rfl (Nat.le_of_ble_eq_true rfl) dX2_init_17 (fun H locs hP hD hS => ?_)
  have hP : va_P D vwCl [(h, .inr (3, [.ref q_1, .ref q_2, .null])), (q_1, .inl (t 0, 31, .inl (nF (fun _ => 0)))), (q_2, .inl (t 0, 31, .inl (nF (fun _ => 0))))] H := hP
  have hD : va_D A [(h, .inr (3, [.ref q_1, .ref q_2, .null])), (q_1, .inl (t 0, 31, .inl (nF (fun _ => 0)))), (q_2, .inl (t 0, 31, .inl (nF (fun _ => 0))))] := hD
  refine lv_aload_n hx hb dX2_init_20 rfl (lv_at hl 0 rfl) ?_
  refine lv_bipush (v := (nI 31)) hx hb dX2_init_21 (by decide) ?_
  refine r_newI hx hb (hts (.arrayClass .int) (List.mem_of_getElem? (i := 4) rfl)) hK hP hD hS hA 0 rfl (Nat.le_of_ble_eq_true rfl) (Nat.le_of_ble_eq_true rfl) (Nat.le_of_ble_eq_true rfl) dX2_init_23 (fun q_3 H hP hD hS => ?_)
  have hP : va_P D vwCl [(h, .inr (3, [.ref q_1, .ref q_2, .null])), (q_1, .inl (t 0, 31, .inl (nF (fun _ => 0)))), (q_2, .inl (t 0, 31, .inl (nF (fun _ => 0)))), (q_3, .inl (t 0, 31, .inl (nF (fun _ => 0))))] H := hP
  have hD : va_D A [(h, .inr (3, [.ref q_1, .ref q_2, .null])), (q_1, .inl (t 0, 31, .inl (nF (fun _ => 0)))), (q_2, .inl (t 0, 31, .inl (nF (fun _ => 0)))), (q_3, .inl (t 0, 31, .inl (nF (fun _ => 0))))] := hD
  refine va_putF (D := D) (ci := 3) (v := .ref q_3) (ty := .array .int) (C := RX2) (T := TX2) (N := 3) hx hb hts i_X2_init_X2 tyX2 tyX2_ok nmX2 hown hK hP hD hS 0 rfl rfl 2 (by decide) (hts (.fieldLink RX2 18 "MemoryMap$Functions" "depths" "[I") (List.mem_of_getElem? (i := 7) rfl)) (fun _ h9 => h9) rfl hin rfl (by decide +kernel) rfl rfl (Nat.le_of_ble_eq_true rfl) dX2_init_25 (fun H locs hP hD hS => ?_)
  have hP : va_P D vwCl [(h, .inr (3, [.ref q_1, .ref q_2, .ref q_3])), (q_1, .inl (t 0, 31, .inl (nF (fun _ => 0)))), (q_2, .inl (t 0, 31, .inl (nF (fun _ => 0)))), (q_3, .inl (t 0, 31, .inl (nF (fun _ => 0))))] H := hP
  have hD : va_D A [(h, .inr (3, [.ref q_1, .ref q_2, .ref q_3])), (q_1, .inl (t 0, 31, .inl (nF (fun _ => 0)))), (q_2, .inl (t 0, 31, .inl (nF (fun _ => 0)))), (q_3, .inl (t 0, 31, .inl (nF (fun _ => 0))))] := hD
  exact ret_Mv hx hb hr hlk ((q_1, q_2, q_3)) (trivial) hP hD hS (Nat.le_of_ble_eq_true rfl) (Nat.le_of_ble_eq_true rfl) dX2_init_28

abbrev rm_X2_contains : Room := { frames := 0, cells := 0, slots := 0, locals := 0 }
set_option maxHeartbeats 4000000 in
set_option maxRecDepth 100000 in
theorem c_X2_contains (l : Launch) (D : va_G) (t : Nat → ClassId) (k f : Nat) (hk : k < 2147483648) (hf : f < 32) : Qi l yX2_contains wsX2_contains rm_X2_contains D (TY t) [.int (nI k), .int (nI f)] [] (fun r => (r = nI 1 ∧ k.testBit f = true) ∨ (r = nI 0 ∧ k.testBit f = false)) := by
  refine start_Qi cX2_contains 2 (some .boolean) (by decide) rfl (Nat.le_of_ble_eq_true rfl) ?_
  intro p e s m below meth c ls B hP hD hl
  obtain ⟨hx, hb, hr, hts, hown, hlk, hml, hN, hK⟩ := B
  have hl : lv_has ls 2 [(0, .int (nI k)), (1, .int (nI f))] := hl
  refine lv_iload_n hx hb dX2_contains_0 rfl (lv_at hl 0 rfl) ?_
  refine lv_iload_n hx hb dX2_contains_1 rfl (lv_at hl 1 rfl) ?_
  refine lv_ishr hx hb dX2_contains_2 ?_
  refine lv_iconst (v := (nI 1)) hx hb dX2_contains_3 (by decide) ?_
  refine lv_iand hx hb dX2_contains_4 ?_
  refine r_topi (bit_ct hk hf) ?_
  have hz : k / 2 ^ f % 2 < 2 := Nat.mod_lt _ (by decide)
  generalize hz2 : k / 2 ^ f % 2 = z at hz ⊢
  refine lv_iconst (v := (nI 1)) hx hb dX2_contains_5 (by decide) ?_
  refine r_icmp_ne (x := z) (y := 1) (tgt := 13) hx hb (by omega) (by omega) dX2_contains_6 (by decide) (fun c1 => ?_) (fun c1 => ?_)
  · refine lv_iconst (v := (nI 0)) hx hb dX2_contains_13 (by decide) ?_
    exact ret_Qz hx hb hr hlk rfl (Or.inr ⟨rfl, by cases q : k.testBit f with | false => rfl | true => exact absurd (hz2.symm.trans ((bit_dec k f).mpr q)) c1⟩) dX2_contains_14
  · refine lv_iconst (v := (nI 1)) hx hb dX2_contains_9 (by decide) ?_
    refine lv_goto (tgt := 14) hx hb dX2_contains_10 (by decide) ?_
    exact ret_Qz hx hb hr hlk rfl (Or.inl ⟨rfl, (bit_dec k f).mp (hz2.trans c1)⟩) dX2_contains_14

theorem i_X2_addCall_X2 : ∀ w ∈ wsX20, w ∈ wsX2_addCall := by decide +kernel
abbrev rm_X2_addCall : Room := { frames := 0, cells := 0, slots := 0, locals := 0 }
set_option maxHeartbeats 4000000 in
set_option maxRecDepth 100000 in
theorem c_X2_addCall (l : Launch) (D : va_G) (t : Nat → ClassId) (h a0 a1 a2 : Nat) (stk cm dp : Nat → Nat) (f g : Nat) (hf : f ≤ 30) (hg : g ≤ 30) : Mv l yX2_addCall wsX2_addCall rm_X2_addCall D (TY t) [.ref h, .int (nI f), .int (nI g)] [(h, .inr (3, [.ref a0, .ref a1, .ref a2])), (a0, .inl (t 0, 31, .inl (nF stk))), (a1, .inl (t 0, 31, .inl (nF cm))), (a2, .inl (t 0, 31, .inl (nF dp)))] (S := Unit) (fun _ : Unit => True) (fun _ => [(h, .inr (3, [.ref a0, .ref a1, .ref a2])), (a0, .inl (t 0, 31, .inl (nF stk))), (a1, .inl (t 0, 31, .inl (nF (va_up cm f (cm f ||| 2 ^ g))))), (a2, .inl (t 0, 31, .inl (nF dp)))]) := by
  refine start_Mv cX2_addCall 3 none (by decide) rfl (Nat.le_of_ble_eq_true rfl) ?_
  intro p e s m below meth c A ls B hin hP hD hS hA hl
  obtain ⟨hx, hb, hr, hts, hown, hlk, hml, hN, hK⟩ := B
  have hl : lv_has ls 3 [(0, .ref h), (1, .int (nI f)), (2, .int (nI g))] := hl
  refine lv_aload_n hx hb dX2_addCall_0 rfl (lv_at hl 0 rfl) ?_
  refine va_get (D := D) (ci := 3) (v := .ref a1) (C := RX2) (T := TX2) (N := 3) hx hb hts i_X2_addCall_X2 hown hK hP 0 rfl rfl 1 (by decide) (hts (.fieldLink RX2 15 "MemoryMap$Functions" "called" "[I") (List.mem_of_getElem? (i := 1) rfl)) (fun _ h9 => h9) rfl dX2_addCall_1 ?_
  refine lv_iload_n hx hb dX2_addCall_4 rfl (lv_at hl 1 rfl) ?_
  refine lv_dup2_11 hx hb dX2_addCall_5 rfl rfl ?_
  refine r_iald hx hb hK hP 2 0 rfl rfl (i := f) (by omega) (by omega) dX2_addCall_6 ?_
  refine lv_iconst (v := (nI 1)) hx hb dX2_addCall_7 (by decide) ?_
  refine lv_iload_n hx hb dX2_addCall_8 rfl (lv_at hl 2 rfl) ?_
  refine lv_ishl hx hb dX2_addCall_9 ?_
  refine lv_ior hx hb dX2_addCall_10 ?_
  refine r_topi (or_ct (by omega)) ?_
  refine r_iast hx hb hK hP hD hS 2 0 rfl rfl (i := f) (by omega) (by omega) dX2_addCall_11 (fun H locs hP hD hS => ?_)
  have hP : va_P D vwCl [(h, .inr (3, [.ref a0, .ref a1, .ref a2])), (a0, .inl (t 0, 31, .inl (nF stk))), (a1, .inl (t 0, 31, .inl (nF (va_up cm f (cm f ||| 2 ^ g))))), (a2, .inl (t 0, 31, .inl (nF dp)))] H := hP
  have hD : va_D A [(h, .inr (3, [.ref a0, .ref a1, .ref a2])), (a0, .inl (t 0, 31, .inl (nF stk))), (a1, .inl (t 0, 31, .inl (nF (va_up cm f (cm f ||| 2 ^ g))))), (a2, .inl (t 0, 31, .inl (nF dp)))] := hD
  exact ret_Mv hx hb hr hlk (()) (trivial) hP hD hS (Nat.le_of_ble_eq_true rfl) (Nat.le_of_ble_eq_true rfl) dX2_addCall_12

theorem i_X2_deepestCalled_X2 : ∀ w ∈ wsX20, w ∈ wsX2_deepestCalled := by decide +kernel
abbrev rm_X2_deepestCalled : Room := { frames := 1, cells := 0, slots := 0, locals := 21 }
set_option maxHeartbeats 4000000 in
set_option maxRecDepth 100000 in
theorem c_X2_deepestCalled (l : Launch) (D : va_G) (t : Nat → ClassId) (h a0 a1 a2 : Nat) (stk cm dp : Nat → Nat) (fr : Nat) (hcm : ∀ k, cm k < 2147483648) (hdp : ∀ k, dp k ≤ 900000000) (hfr : fr ≤ 30) : Qi l yX2_deepestCalled wsX2_deepestCalled rm_X2_deepestCalled D (TY t) [.ref h, .int (nI fr)] [(h, .inr (3, [.ref a0, .ref a1, .ref a2])), (a0, .inl (t 0, 31, .inl (nF stk))), (a1, .inl (t 0, 31, .inl (nF cm))), (a2, .inl (t 0, 31, .inl (nF dp)))] (fun r => r = nI (mxD (cm fr) dp 30)) := by
  refine start_Qi cX2_deepestCalled 4 (some .int) (by decide) rfl (Nat.le_of_ble_eq_true rfl) ?_
  intro p e s m below meth c ls B hP hD hl
  obtain ⟨hx, hb, hr, hts, hown, hlk, hml, hN, hK⟩ := B
  have hl : lv_has ls 4 [(0, .ref h), (1, .int (nI fr))] := hl
  refine lv_iconst (v := (nI 0)) hx hb dX2_deepestCalled_0 (by decide) ?_
  refine lv_istore_n (lv' := [(2, .int (nI 0)), (0, .ref h), (1, .int (nI fr))]) hx hb dX2_deepestCalled_1 rfl hl (by decide) rfl (fun ls hl => ?_)
  refine lv_iconst (v := (nI 1)) hx hb dX2_deepestCalled_2 (by decide) ?_
  refine lv_istore_n (lv' := [(3, .int (nI 1)), (2, .int (nI 0)), (0, .ref h), (1, .int (nI fr))]) hx hb dX2_deepestCalled_3 rfl hl (by decide) rfl (fun ls hl => ?_)
  refine W_loop (σ := Nat) (fun j => 30 - j) (fun j H locs ls => H = s.heap ∧ locs = [] ∧ j ≤ 30 ∧ lv_has ls 4 [(3, .int (nI (j + 1))), (2, .int (nI (mxD (cm fr) dp j))), (0, .ref h), (1, .int (nI fr))]) ?_ 0 _ _ _ ⟨rfl, rfl, by decide, hl⟩
  rintro j _ _ ls ⟨rfl, rfl, hj, hl⟩ ih
  have hm : mxD (cm fr) dp j ≤ 900000000 := mxD_le j (fun g _ _ _ => hdp g)
  refine lv_iload_n hx hb dX2_deepestCalled_4 rfl (lv_at hl 0 rfl) ?_
  refine lv_bipush (v := (nI 30)) hx hb dX2_deepestCalled_5 (by decide) ?_
  refine r_icmp_gt (x := (j + 1)) (y := 30) (tgt := 40) hx hb (by omega) (by omega) dX2_deepestCalled_7 (by decide) (fun c1 => ?_) (fun c1 => ?_)
  · refine lv_iload_n hx hb dX2_deepestCalled_40 rfl (lv_at hl 1 rfl) ?_
    have e : j = 30 := by omega
    exact ret_Qi hx hb hr hlk (by rw [e]) dX2_deepestCalled_41
  · refine lv_aload_n hx hb dX2_deepestCalled_10 rfl (lv_at hl 2 rfl) ?_
    refine va_get (D := D) (ci := 3) (v := .ref a1) (C := RX2) (T := TX2) (N := 3) hx hb hts i_X2_deepestCalled_X2 hown hK hP 0 rfl rfl 1 (by decide) (hts (.fieldLink RX2 15 "MemoryMap$Functions" "called" "[I") (List.mem_of_getElem? (i := 1) rfl)) (fun _ h9 => h9) rfl dX2_deepestCalled_11 ?_
    refine lv_iload_n hx hb dX2_deepestCalled_14 rfl (lv_at hl 3 rfl) ?_
    refine r_iald hx hb hK hP 2 0 rfl rfl (i := fr) (by omega) (by omega) dX2_deepestCalled_15 ?_
    have hb_0 := hcm fr
    refine lv_iload_n hx hb dX2_deepestCalled_16 rfl (lv_at hl 0 rfl) ?_
    refine vp_callSi (va_Run.run (va_runS (As := [.int (nI (cm fr)), .int (nI (j + 1))]) (rest := []) ⟨hx, hb, hml, hown, hts⟩ (c_X2_contains l D t (cm fr) (j + 1) (hcm fr) (by omega) _) (va_cwS 2 hts gX2_deepestCalled_X2_contains rfl rfl rfl (by decide +kernel) ⟨Nat.le_of_ble_eq_true rfl, Nat.le_of_ble_eq_true rfl⟩) (preS hP hD hK hN [] rfl (by decide)) rfl rfl hl.1 rfl (lv_room (Nat.le_of_ble_eq_true rfl)) dX2_deepestCalled_17 ⟨Nat.le_of_ble_eq_true rfl, Nat.le_of_ble_eq_true rfl⟩)) (fun r hw => ?_)
    rcases hw with ⟨rfl, g⟩ | ⟨rfl, g⟩
    · refine r_if_eq (x := 1) (tgt := 34) hx hb (by omega) dX2_deepestCalled_20 (by decide) (fun c => absurd c (by decide)) (fun _ => ?_)
      refine lv_iload_n hx hb dX2_deepestCalled_23 rfl (lv_at hl 1 rfl) ?_
      refine lv_aload_n hx hb dX2_deepestCalled_24 rfl (lv_at hl 2 rfl) ?_
      refine va_get (D := D) (ci := 3) (v := .ref a2) (C := RX2) (T := TX2) (N := 3) hx hb hts i_X2_deepestCalled_X2 hown hK hP 0 rfl rfl 2 (by decide) (hts (.fieldLink RX2 18 "MemoryMap$Functions" "depths" "[I") (List.mem_of_getElem? (i := 2) rfl)) (fun _ h9 => h9) rfl dX2_deepestCalled_25 ?_
      refine lv_iload_n hx hb dX2_deepestCalled_28 rfl (lv_at hl 0 rfl) ?_
      refine r_iald hx hb hK hP 3 0 rfl rfl (i := j + 1) (by omega) (by omega) dX2_deepestCalled_29 ?_
      have hb_1 := hdp (j + 1)
      have hb9 := hdp (j + 1)
      refine va_mmax hx hb (by rw [hml]; exact hl.1.symm) hown (hts (.methodLink RX2 37 Lib.Math.max.name) (List.mem_of_getElem? (i := 3) rfl)) (hts (.static Lib.Math.max.name) (List.mem_of_getElem? (i := 4) rfl)) (hts (.initialized "java/lang/Math") (List.mem_of_getElem? (i := 5) rfl)) (hts (.code Lib.Math.max.name Lib.Math.max.code 2 (some .int)) (List.mem_of_getElem? (i := 6) rfl)) (Nat.le_of_ble_eq_true rfl) (Nat.le_of_ble_eq_true rfl) (Nat.zero_le _) (Nat.zero_le _) dX2_deepestCalled_30 ?_
      refine r_topi (mx_i (by omega) (by omega)) ?_
      refine lv_istore_n (lv' := [(2, .int (nI (max (mxD (cm fr) dp j) (dp (j + 1))))), (3, .int (nI (j + 1))), (0, .ref h), (1, .int (nI fr))]) hx hb dX2_deepestCalled_33 rfl hl (by decide) rfl (fun ls hl => ?_)
      refine lv_iinc (v := (nI ((j + 1) + 1))) (lv' := [(3, .int (nI ((j + 1) + 1))), (2, .int (nI (max (mxD (cm fr) dp j) (dp (j + 1))))), (0, .ref h), (1, .int (nI fr))]) hx hb dX2_deepestCalled_34 hl (k := 1) rfl (r_inc1 _) (by decide) rfl (fun ls hl => ?_)
      refine lv_goto (tgt := 4) hx hb dX2_deepestCalled_37 (by decide) ?_
      have e : mxD (cm fr) dp (j + 1) = max (mxD (cm fr) dp j) (dp (j + 1)) := by show (if _ then _ else _) = _; rw [if_pos g]
      exact ih (j + 1) _ _ _ ⟨rfl, rfl, by omega, by rw [e]; exact lv_sub hl [0, 1, 2, 3] rfl⟩ (by omega)
    · refine r_if_eq (x := 0) (tgt := 34) hx hb (by omega) dX2_deepestCalled_20 (by decide) (fun _ => ?_) (fun c => absurd c (by decide))
      refine lv_iinc (v := (nI ((j + 1) + 1))) (lv' := [(3, .int (nI ((j + 1) + 1))), (2, .int (nI (mxD (cm fr) dp j))), (0, .ref h), (1, .int (nI fr))]) hx hb dX2_deepestCalled_34 hl (k := 0) rfl (r_inc1 _) (by decide) rfl (fun ls hl => ?_)
      refine lv_goto (tgt := 4) hx hb dX2_deepestCalled_37 (by decide) ?_
      have e : mxD (cm fr) dp (j + 1) = mxD (cm fr) dp j := by show (if _ then _ else _) = _; rw [if_neg (by rw [g]; decide)]
      exact ih (j + 1) _ _ _ ⟨rfl, rfl, by omega, by rw [e]; exact lv_sub hl [0, 1, 2, 3] rfl⟩ (by omega)

theorem i_X2_settleMore_X2 : ∀ w ∈ wsX20, w ∈ wsX2_settleMore := by decide +kernel
abbrev rm_X2_settleMore : Room := { frames := 2, cells := 0, slots := 0, locals := 44 }
set_option maxHeartbeats 4000000 in
set_option maxRecDepth 100000 in
theorem c_X2_settleMore (l : Launch) (D : va_G) (t : Nat → ClassId) (h a0 a1 a2 : Nat) (stk cm dp : Nat → Nat) (b K : Nat) (hcm : ∀ k, cm k < 2147483648) (hdp : ∀ k, dp k ≤ 900000000) (hstk : ∀ k, stk k ≤ 1000000) (hbd : b < 2147483648) (hK2 : K ≤ 870) (hset : ∀ g, b.testBit g = true → dp g ≤ 1000000 * K) : Mi l yX2_settleMore wsX2_settleMore rm_X2_settleMore D (TY t) [.ref h, .int (nI b)] [(h, .inr (3, [.ref a0, .ref a1, .ref a2])), (a0, .inl (t 0, 31, .inl (nF stk))), (a1, .inl (t 0, 31, .inl (nF cm))), (a2, .inl (t 0, 31, .inl (nF dp)))] (S := Nat × (Nat → Nat)) (fun r u => r = nI u.1 ∧ u = rnd cm stk (b, dp) 30 ∧ u.1 < 2147483648 ∧ (∀ k, u.2 k ≤ 900000000) ∧ ∀ g, u.1.testBit g = true → u.2 g ≤ 1000000 * (K + 30)) (fun u => [(h, .inr (3, [.ref a0, .ref a1, .ref a2])), (a0, .inl (t 0, 31, .inl (nF stk))), (a1, .inl (t 0, 31, .inl (nF cm))), (a2, .inl (t 0, 31, .inl (nF u.2)))]) := by
  refine start_Mi cX2_settleMore 4 (some .int) (by decide) rfl (Nat.le_of_ble_eq_true rfl) ?_
  intro p e s m below meth c A ls B hin hP hD hS hA hl
  obtain ⟨hx, hb, hr, hts, hown, hlk, hml, hN, hK⟩ := B
  have hl : lv_has ls 4 [(0, .ref h), (1, .int (nI b))] := hl
  refine lv_iload_n hx hb dX2_settleMore_0 rfl (lv_at hl 1 rfl) ?_
  refine lv_istore_n (lv' := [(2, .int (nI b)), (0, .ref h), (1, .int (nI b))]) hx hb dX2_settleMore_1 rfl hl (by decide) rfl (fun ls hl => ?_)
  refine lv_iconst (v := (nI 1)) hx hb dX2_settleMore_2 (by decide) ?_
  refine lv_istore_n (lv' := [(3, .int (nI 1)), (2, .int (nI b)), (0, .ref h), (1, .int (nI b))]) hx hb dX2_settleMore_3 rfl hl (by decide) rfl (fun ls hl => ?_)
  refine W_loop (σ := Nat × Nat × (Nat → Nat)) (fun x => 30 - x.1) (fun x H locs ls => match x with | (j, S, d) => va_P D vwCl [(h, .inr (3, [.ref a0, .ref a1, .ref a2])), (a0, .inl (t 0, 31, .inl (nF stk))), (a1, .inl (t 0, 31, .inl (nF cm))), (a2, .inl (t 0, 31, .inl (nF d)))] H ∧ va_D A [(h, .inr (3, [.ref a0, .ref a1, .ref a2])), (a0, .inl (t 0, 31, .inl (nF stk))), (a1, .inl (t 0, 31, .inl (nF cm))), (a2, .inl (t 0, 31, .inl (nF d)))] ∧ va_S A s.heap H locs ∧ lv_has ls 4 [(3, .int (nI (j + 1))), (2, .int (nI S)), (0, .ref h), (1, .int (nI b))] ∧ j ≤ 30 ∧ (S, d) = rnd cm stk (b, dp) j ∧ S < 2147483648 ∧ (∀ k, d k ≤ 900000000) ∧ ∀ g, S.testBit g = true → d g ≤ 1000000 * (K + j)) ?_ (0, b, dp) _ _ _ ⟨hP, hD, hS, hl, by decide, rfl, hbd, hdp, hset⟩
  rintro ⟨j, S, d⟩ H locs ls ⟨hP, hD, hS, hl, hj, hrn, hSb, hdb, hsd⟩ ih
  refine lv_iload_n hx hb dX2_settleMore_4 rfl (lv_at hl 0 rfl) ?_
  refine lv_bipush (v := (nI 30)) hx hb dX2_settleMore_5 (by decide) ?_
  refine r_icmp_gt (x := (j + 1)) (y := 30) (tgt := 61) hx hb (by omega) (by omega) dX2_settleMore_7 (by decide) (fun c1 => ?_) (fun c1 => ?_)
  · refine lv_iload_n hx hb dX2_settleMore_61 rfl (lv_at hl 1 rfl) ?_
    have e : j = 30 := by omega
    subst e
    exact ret_Mi hx hb hr hlk ((S, d)) (⟨rfl, hrn, hSb, hdb, hsd⟩) hP hD hS (Nat.le_of_ble_eq_true rfl) (Nat.le_of_ble_eq_true rfl) dX2_settleMore_62
  · refine lv_iload_n hx hb dX2_settleMore_10 rfl (lv_at hl 1 rfl) ?_
    refine lv_iload_n hx hb dX2_settleMore_11 rfl (lv_at hl 0 rfl) ?_
    refine vp_callSi (va_Run.run (va_runS (As := [.int (nI S), .int (nI (j + 1))]) (rest := []) ⟨hx, hb, hml, hown, hts⟩ (c_X2_contains l D t S (j + 1) hSb (by omega) _) (va_cwS 2 hts gX2_settleMore_X2_contains rfl rfl rfl (by decide +kernel) ⟨Nat.le_of_ble_eq_true rfl, Nat.le_of_ble_eq_true rfl⟩) (preS hP hD hK hN [] rfl (by decide)) rfl rfl hl.1 rfl (lv_room (Nat.le_of_ble_eq_true rfl)) dX2_settleMore_12 ⟨Nat.le_of_ble_eq_true rfl, Nat.le_of_ble_eq_true rfl⟩)) (fun r hw => ?_)
    rcases hw with ⟨rfl, g⟩ | ⟨rfl, g⟩
    · refine r_if_ne (x := 1) (tgt := 55) hx hb (by omega) dX2_settleMore_15 (by decide) (fun _ => ?_) (fun c => absurd c (by decide))
      refine lv_iinc (v := (nI ((j + 1) + 1))) (lv' := [(3, .int (nI ((j + 1) + 1))), (2, .int (nI S)), (0, .ref h), (1, .int (nI b))]) hx hb dX2_settleMore_55 hl (k := 0) rfl (r_inc1 _) (by decide) rfl (fun ls hl => ?_)
      refine lv_goto (tgt := 4) hx hb dX2_settleMore_58 (by decide) ?_
      have e : (S, d) = rnd cm stk (b, dp) (j + 1) := by show _ = stp cm stk (rnd cm stk (b, dp) j) (j + 1); rw [← hrn]; show _ = (if _ then _ else _); rw [if_neg (fun q => by rw [g] at q; exact absurd q.1 (by decide))]
      exact ih (j + 1, S, d) _ _ _ ⟨hP, hD, hS, lv_sub hl [0, 1, 2, 3] rfl, by omega, e, hSb, hdb, fun g hg => Nat.le_trans (hsd g hg) (Nat.mul_le_mul_left _ (by omega))⟩ (by show 30 - (j + 1) < 30 - j; omega)
    · refine r_if_ne (x := 0) (tgt := 55) hx hb (by omega) dX2_settleMore_15 (by decide) (fun c => absurd c (by decide)) (fun _ => ?_)
      refine lv_aload_n hx hb dX2_settleMore_18 rfl (lv_at hl 2 rfl) ?_
      refine va_get (D := D) (ci := 3) (v := .ref a1) (C := RX2) (T := TX2) (N := 3) hx hb hts i_X2_settleMore_X2 hown hK hP 0 rfl rfl 1 (by decide) (hts (.fieldLink RX2 15 "MemoryMap$Functions" "called" "[I") (List.mem_of_getElem? (i := 1) rfl)) (fun _ h9 => h9) rfl dX2_settleMore_19 ?_
      refine lv_iload_n hx hb dX2_settleMore_22 rfl (lv_at hl 0 rfl) ?_
      refine r_iald hx hb hK hP 2 0 rfl rfl (i := j + 1) (by omega) (by omega) dX2_settleMore_23 ?_
      have hb_0 := hcm (j + 1)
      refine lv_iload_n hx hb dX2_settleMore_24 rfl (lv_at hl 1 rfl) ?_
      refine lv_iconst (v := ((-1))) hx hb dX2_settleMore_25 (by decide) ?_
      refine lv_ixor hx hb dX2_settleMore_26 ?_
      refine lv_iand hx hb dX2_settleMore_27 ?_
      refine lv_if_ne (tgt := 55) hx hb dX2_settleMore_28 (by decide) (fun c2 => ?_) (fun c2 => ?_)
      · refine lv_iinc (v := (nI ((j + 1) + 1))) (lv' := [(3, .int (nI ((j + 1) + 1))), (2, .int (nI S)), (0, .ref h), (1, .int (nI b))]) hx hb dX2_settleMore_55 hl (k := 0) rfl (r_inc1 _) (by decide) rfl (fun ls hl => ?_)
        refine lv_goto (tgt := 4) hx hb dX2_settleMore_58 (by decide) ?_
        have e : (S, d) = rnd cm stk (b, dp) (j + 1) := by show _ = stp cm stk (rnd cm stk (b, dp) j) (j + 1); rw [← hrn]; show _ = (if _ then _ else _); rw [if_neg (fun q => c2 ((sub_ct (hcm _)).mpr q.2))]
        exact ih (j + 1, S, d) _ _ _ ⟨hP, hD, hS, lv_sub hl [0, 1, 2, 3] rfl, by omega, e, hSb, hdb, fun g hg => Nat.le_trans (hsd g hg) (Nat.mul_le_mul_left _ (by omega))⟩ (by show 30 - (j + 1) < 30 - j; omega)
      · have hsub := (sub_ct (hcm _)).mp c2
        have hle : ∀ g, (cm (j + 1)).testBit g = true → d g ≤ 1000000 * (K + j) := fun g hg => hsd g (by have q := congrArg (fun v : Nat => v.testBit g) hsub; simp only [Nat.testBit_and, hg, Bool.true_and] at q; exact q)
        have hmx : mxD (cm (j + 1)) d 30 ≤ 1000000 * (K + j) := mxD_le 30 (fun g _ _ hg => hle g hg)
        refine lv_aload_n hx hb dX2_settleMore_31 rfl (lv_at hl 2 rfl) ?_
        refine va_get (D := D) (ci := 3) (v := .ref a2) (C := RX2) (T := TX2) (N := 3) hx hb hts i_X2_settleMore_X2 hown hK hP 0 rfl rfl 2 (by decide) (hts (.fieldLink RX2 18 "MemoryMap$Functions" "depths" "[I") (List.mem_of_getElem? (i := 2) rfl)) (fun _ h9 => h9) rfl dX2_settleMore_32 ?_
        refine lv_iload_n hx hb dX2_settleMore_35 rfl (lv_at hl 0 rfl) ?_
        refine lv_aload_n hx hb dX2_settleMore_36 rfl (lv_at hl 2 rfl) ?_
        refine va_get (D := D) (ci := 3) (v := .ref a0) (C := RX2) (T := TX2) (N := 3) hx hb hts i_X2_settleMore_X2 hown hK hP 0 rfl rfl 0 (by decide) (hts (.fieldLink RX2 9 "MemoryMap$Functions" "stacks" "[I") (List.mem_of_getElem? (i := 3) rfl)) (fun _ h9 => h9) rfl dX2_settleMore_37 ?_
        refine lv_iload_n hx hb dX2_settleMore_40 rfl (lv_at hl 0 rfl) ?_
        refine r_iald hx hb hK hP 1 0 rfl rfl (i := j + 1) (by omega) (by omega) dX2_settleMore_41 ?_
        have hb_1 := hstk (j + 1)
        refine lv_aload_n hx hb dX2_settleMore_42 rfl (lv_at hl 2 rfl) ?_
        refine lv_iload_n hx hb dX2_settleMore_43 rfl (lv_at hl 0 rfl) ?_
        refine vp_callSi (va_Run.run (va_runV (As := [.int (nI (j + 1))]) (rest := [.int (nI (stk (j + 1))), .int (nI (j + 1)), .ref a2]) ⟨hx, hb, hml, hown, hts⟩ (c_X2_deepestCalled l D t h a0 a1 a2 stk cm d (j + 1) hcm hdb (by omega) _) (cwV 1 hts gX2_settleMore_X2_deepestCalled rfl rfl rfl (by decide +kernel) ⟨Nat.le_of_ble_eq_true rfl, Nat.le_of_ble_eq_true rfl⟩) (preV hP hD hK hN [0, 1, 2, 3] 3 0 rfl (by decide) rfl rfl rfl) rfl rfl hl.1 rfl (lv_room (Nat.le_of_ble_eq_true rfl)) dX2_settleMore_44 ⟨Nat.le_of_ble_eq_true rfl, Nat.le_of_ble_eq_true rfl⟩)) (fun r hw => ?_)
        subst hw
        refine r_iadd (x := (stk (j + 1))) (y := (mxD (cm (j + 1)) d 30)) hx hb dX2_settleMore_47 ?_
        refine r_iast hx hb hK hP hD hS 3 0 rfl rfl (i := j + 1) (by omega) (by omega) dX2_settleMore_48 (fun H locs hP hD hS => ?_)
        have hP : va_P D vwCl [(h, .inr (3, [.ref a0, .ref a1, .ref a2])), (a0, .inl (t 0, 31, .inl (nF stk))), (a1, .inl (t 0, 31, .inl (nF cm))), (a2, .inl (t 0, 31, .inl (nF (va_up d (j + 1) ((stk (j + 1)) + (mxD (cm (j + 1)) d 30))))))] H := hP
        have hD : va_D A [(h, .inr (3, [.ref a0, .ref a1, .ref a2])), (a0, .inl (t 0, 31, .inl (nF stk))), (a1, .inl (t 0, 31, .inl (nF cm))), (a2, .inl (t 0, 31, .inl (nF (va_up d (j + 1) ((stk (j + 1)) + (mxD (cm (j + 1)) d 30))))))] := hD
        refine lv_iload_n hx hb dX2_settleMore_49 rfl (lv_at hl 1 rfl) ?_
        refine lv_iconst (v := (nI 1)) hx hb dX2_settleMore_50 (by decide) ?_
        refine lv_iload_n hx hb dX2_settleMore_51 rfl (lv_at hl 0 rfl) ?_
        refine lv_ishl hx hb dX2_settleMore_52 ?_
        refine lv_ior hx hb dX2_settleMore_53 ?_
        refine r_topi (or_ct (by omega)) ?_
        refine lv_istore_n (lv' := [(2, .int (nI (S ||| 2 ^ (j + 1)))), (3, .int (nI (j + 1))), (0, .ref h), (1, .int (nI b))]) hx hb dX2_settleMore_54 rfl hl (by decide) rfl (fun ls hl => ?_)
        refine lv_iinc (v := (nI ((j + 1) + 1))) (lv' := [(3, .int (nI ((j + 1) + 1))), (2, .int (nI (S ||| 2 ^ (j + 1)))), (0, .ref h), (1, .int (nI b))]) hx hb dX2_settleMore_55 hl (k := 1) rfl (r_inc1 _) (by decide) rfl (fun ls hl => ?_)
        refine lv_goto (tgt := 4) hx hb dX2_settleMore_58 (by decide) ?_
        have hs1 := hstk (j + 1)
        have e : (S ||| 2 ^ (j + 1), va_up d (j + 1) (stk (j + 1) + mxD (cm (j + 1)) d 30)) = rnd cm stk (b, dp) (j + 1) := by show _ = stp cm stk (rnd cm stk (b, dp) j) (j + 1); rw [← hrn]; show _ = (if _ then _ else _); rw [if_pos ⟨g, hsub⟩]
        have hnew : stk (j + 1) + mxD (cm (j + 1)) d 30 ≤ 1000000 * (K + (j + 1)) := by omega
        refine ih (j + 1, S ||| 2 ^ (j + 1), va_up d (j + 1) (stk (j + 1) + mxD (cm (j + 1)) d 30)) _ _ _ ⟨hP, hD, hS, lv_sub hl [0, 1, 2, 3] rfl, by omega, e, ?_, fun k => ?_, fun k hk => ?_⟩ (by show 30 - (j + 1) < 30 - j; omega)
        · exact Nat.or_lt_two_pow (n := 31) hSb (Nat.pow_lt_pow_right (by decide) (by omega))
        · rw [va_upc]
          split
          · omega
          · exact hdb k
        · rw [va_upc]
          split
          · exact hnew
          · next q =>
            rw [Nat.testBit_or, Nat.testBit_two_pow_of_ne (fun z => q z.symm), Bool.or_false] at hk
            exact Nat.le_trans (hsd k hk) (Nat.mul_le_mul_left _ (by omega))

theorem stp_keep {cm stk : Nat → Nat} {x : Nat × (Nat → Nat)} {f e : Nat} (h : x.1.testBit e = true) : (stp cm stk x f).1.testBit e = true ∧ (stp cm stk x f).2 e = x.2 e := by
  unfold stp
  split
  · next q =>
    refine ⟨by rw [Nat.testBit_or, h, Bool.true_or], va_up_ne _ _ (fun z => ?_)⟩
    rw [z] at h
    rw [h] at q
    exact absurd q.1 (by decide)
  · exact ⟨h, rfl⟩
theorem rnd_keep {cm stk : Nat → Nat} {x : Nat × (Nat → Nat)} {e : Nat} (h : x.1.testBit e = true) : ∀ n, (rnd cm stk x n).1.testBit e = true ∧ (rnd cm stk x n).2 e = x.2 e
  | 0 => ⟨h, rfl⟩
  | n + 1 => by
    have ih := rnd_keep (cm := cm) (stk := stk) h n
    have q := stp_keep (cm := cm) (stk := stk) (f := n + 1) ih.1
    exact ⟨q.1, q.2.trans ih.2⟩
theorem itr_keep {cm stk : Nat → Nat} {x : Nat × (Nat → Nat)} {e n : Nat} (h : (itr cm stk x n).1.testBit e = true) : ∀ k, (itr cm stk x (n + k)).1.testBit e = true ∧ (itr cm stk x (n + k)).2 e = (itr cm stk x n).2 e
  | 0 => ⟨h, rfl⟩
  | k + 1 => by
    have ih := itr_keep h k
    have q := rnd_keep (cm := cm) (stk := stk) ih.1 30
    exact ⟨q.1, q.2.trans ih.2⟩

theorem i_X2_depthFrom_X2 : ∀ w ∈ wsX20, w ∈ wsX2_depthFrom := by decide +kernel
abbrev rm_X2_depthFrom : Room := { frames := 3, cells := 0, slots := 0, locals := 67 }
set_option maxHeartbeats 4000000 in
set_option maxRecDepth 100000 in
theorem c_X2_depthFrom (l : Launch) (D : va_G) (t : Nat → ClassId) (h a0 a1 a2 : Nat) (stk cm dp : Nat → Nat) (en : Nat) (hcm : ∀ k, cm k < 2147483648) (hdp : ∀ k, dp k ≤ 900000000) (hstk : ∀ k, stk k ≤ 1000000) (hen : en ≤ 30) : Mi l yX2_depthFrom wsX2_depthFrom rm_X2_depthFrom D (TY t) [.ref h, .int (nI en)] [(h, .inr (3, [.ref a0, .ref a1, .ref a2])), (a0, .inl (t 0, 31, .inl (nF stk))), (a1, .inl (t 0, 31, .inl (nF cm))), (a2, .inl (t 0, 31, .inl (nF dp)))] (S := Nat → Nat) (fun r u => (∀ k, u k ≤ 900000000) ∧ (((itr cm stk (0, dp) 30).1.testBit en = true ∧ r = nI ((itr cm stk (0, dp) 30).2 en) ∧ (itr cm stk (0, dp) 30).2 en ≤ 900000000) ∨ ((itr cm stk (0, dp) 30).1.testBit en = false ∧ r = (-1)))) (fun u => [(h, .inr (3, [.ref a0, .ref a1, .ref a2])), (a0, .inl (t 0, 31, .inl (nF stk))), (a1, .inl (t 0, 31, .inl (nF cm))), (a2, .inl (t 0, 31, .inl (nF u)))]) := by
  refine start_Mi cX2_depthFrom 4 (some .int) (by decide) rfl (Nat.le_of_ble_eq_true rfl) ?_
  intro p e s m below meth c A ls B hin hP hD hS hA hl
  obtain ⟨hx, hb, hr, hts, hown, hlk, hml, hN, hK⟩ := B
  have hl : lv_has ls 4 [(0, .ref h), (1, .int (nI en))] := hl
  refine lv_iconst (v := (nI 0)) hx hb dX2_depthFrom_0 (by decide) ?_
  refine lv_istore_n (lv' := [(2, .int (nI 0)), (0, .ref h), (1, .int (nI en))]) hx hb dX2_depthFrom_1 rfl hl (by decide) rfl (fun ls hl => ?_)
  refine lv_iconst (v := (nI 0)) hx hb dX2_depthFrom_2 (by decide) ?_
  refine lv_istore_n (lv' := [(3, .int (nI 0)), (2, .int (nI 0)), (0, .ref h), (1, .int (nI en))]) hx hb dX2_depthFrom_3 rfl hl (by decide) rfl (fun ls hl => ?_)
  refine W_loop (σ := Nat × Nat × (Nat → Nat)) (fun x => 30 - x.1) (fun x H locs ls => match x with | (j, S, d) => va_P D vwCl [(h, .inr (3, [.ref a0, .ref a1, .ref a2])), (a0, .inl (t 0, 31, .inl (nF stk))), (a1, .inl (t 0, 31, .inl (nF cm))), (a2, .inl (t 0, 31, .inl (nF d)))] H ∧ va_D A [(h, .inr (3, [.ref a0, .ref a1, .ref a2])), (a0, .inl (t 0, 31, .inl (nF stk))), (a1, .inl (t 0, 31, .inl (nF cm))), (a2, .inl (t 0, 31, .inl (nF d)))] ∧ va_S A s.heap H locs ∧ lv_has ls 4 [(3, .int (nI j)), (2, .int (nI S)), (0, .ref h), (1, .int (nI en))] ∧ j ≤ 30 ∧ (S, d) = itr cm stk (0, dp) j ∧ S < 2147483648 ∧ (∀ k, d k ≤ 900000000) ∧ ∀ g, S.testBit g = true → d g ≤ 1000000 * (30 * j)) ?_ (0, 0, dp) _ _ _ ⟨hP, hD, hS, hl, by decide, rfl, by decide, hdp, fun g hg => by rw [Nat.zero_testBit] at hg; exact absurd hg (by decide)⟩
  rintro ⟨j, S, d⟩ H locs ls ⟨hP, hD, hS, hl, hj, hrn, hSb, hdb, hsd⟩ ih
  refine lv_iload_n hx hb dX2_depthFrom_4 rfl (lv_at hl 0 rfl) ?_
  refine lv_bipush (v := (nI 30)) hx hb dX2_depthFrom_5 (by decide) ?_
  refine r_icmp_ge (x := j) (y := 30) (tgt := 30) hx hb (by omega) (by omega) dX2_depthFrom_7 (by decide) (fun c1 => ?_) (fun c1 => ?_)
  · refine lv_iload_n hx hb dX2_depthFrom_30 rfl (lv_at hl 1 rfl) ?_
    refine lv_iload_n hx hb dX2_depthFrom_31 rfl (lv_at hl 3 rfl) ?_
    refine vp_callSi (va_Run.run (va_runS (As := [.int (nI S), .int (nI en)]) (rest := []) ⟨hx, hb, hml, hown, hts⟩ (c_X2_contains l D t S en hSb (by omega) _) (va_cwS 2 hts gX2_depthFrom_X2_contains rfl rfl rfl (by decide +kernel) ⟨Nat.le_of_ble_eq_true rfl, Nat.le_of_ble_eq_true rfl⟩) (preS hP hD hK hN [] rfl (by decide)) rfl rfl hl.1 rfl (lv_room (Nat.le_of_ble_eq_true rfl)) dX2_depthFrom_32 ⟨Nat.le_of_ble_eq_true rfl, Nat.le_of_ble_eq_true rfl⟩)) (fun r hw => ?_)
    rcases hw with ⟨rfl, g2⟩ | ⟨rfl, g2⟩
    · refine r_if_eq (x := 1) (tgt := 47) hx hb (by omega) dX2_depthFrom_35 (by decide) (fun c => absurd c (by decide)) (fun _ => ?_)
      refine lv_aload_n hx hb dX2_depthFrom_38 rfl (lv_at hl 2 rfl) ?_
      refine va_get (D := D) (ci := 3) (v := .ref a2) (C := RX2) (T := TX2) (N := 3) hx hb hts i_X2_depthFrom_X2 hown hK hP 0 rfl rfl 2 (by decide) (hts (.fieldLink RX2 18 "MemoryMap$Functions" "depths" "[I") (List.mem_of_getElem? (i := 1) rfl)) (fun _ h9 => h9) rfl dX2_depthFrom_39 ?_
      refine lv_iload_n hx hb dX2_depthFrom_42 rfl (lv_at hl 3 rfl) ?_
      refine r_iald hx hb hK hP 3 0 rfl rfl (i := en) (by omega) (by omega) dX2_depthFrom_43 ?_
      have hb_0 := hdb en
      refine lv_goto (tgt := 48) hx hb dX2_depthFrom_44 (by decide) ?_
      have hk := itr_keep (cm := cm) (stk := stk) (x := (0, dp)) (e := en) (n := j) (by rw [← hrn]; exact g2) (30 - j)
      rw [show j + (30 - j) = 30 by omega, ← hrn] at hk
      have hb8 := hdb en
      exact ret_Mi hx hb hr hlk (d) (⟨hdb, Or.inl ⟨hk.1, by rw [hk.2], by rw [hk.2]; exact hb8⟩⟩) hP hD hS (Nat.le_of_ble_eq_true rfl) (Nat.le_of_ble_eq_true rfl) dX2_depthFrom_48
    · refine r_if_eq (x := 0) (tgt := 47) hx hb (by omega) dX2_depthFrom_35 (by decide) (fun _ => ?_) (fun c => absurd c (by decide))
      refine lv_iconst (v := ((-1))) hx hb dX2_depthFrom_47 (by decide) ?_
      exact ret_Mi hx hb hr hlk (d) (⟨hdb, Or.inr ⟨by rw [show (30 : Nat) = j by omega, ← hrn]; exact g2, rfl⟩⟩) hP hD hS (Nat.le_of_ble_eq_true rfl) (Nat.le_of_ble_eq_true rfl) dX2_depthFrom_48
  · refine lv_iload_n hx hb dX2_depthFrom_10 rfl (lv_at hl 1 rfl) ?_
    refine lv_iload_n hx hb dX2_depthFrom_11 rfl (lv_at hl 3 rfl) ?_
    refine vp_callSi (va_Run.run (va_runS (As := [.int (nI S), .int (nI en)]) (rest := []) ⟨hx, hb, hml, hown, hts⟩ (c_X2_contains l D t S en hSb (by omega) _) (va_cwS 2 hts gX2_depthFrom_X2_contains rfl rfl rfl (by decide +kernel) ⟨Nat.le_of_ble_eq_true rfl, Nat.le_of_ble_eq_true rfl⟩) (preS hP hD hK hN [] rfl (by decide)) rfl rfl hl.1 rfl (lv_room (Nat.le_of_ble_eq_true rfl)) dX2_depthFrom_12 ⟨Nat.le_of_ble_eq_true rfl, Nat.le_of_ble_eq_true rfl⟩)) (fun r hw => ?_)
    rcases hw with ⟨rfl, g⟩ | ⟨rfl, g⟩
    · refine r_if_ne (x := 1) (tgt := 30) hx hb (by omega) dX2_depthFrom_15 (by decide) (fun _ => ?_) (fun c => absurd c (by decide))
      refine lv_iload_n hx hb dX2_depthFrom_30 rfl (lv_at hl 1 rfl) ?_
      refine lv_iload_n hx hb dX2_depthFrom_31 rfl (lv_at hl 3 rfl) ?_
      refine vp_callSi (va_Run.run (va_runS (As := [.int (nI S), .int (nI en)]) (rest := []) ⟨hx, hb, hml, hown, hts⟩ (c_X2_contains l D t S en hSb (by omega) _) (va_cwS 2 hts gX2_depthFrom_X2_contains rfl rfl rfl (by decide +kernel) ⟨Nat.le_of_ble_eq_true rfl, Nat.le_of_ble_eq_true rfl⟩) (preS hP hD hK hN [] rfl (by decide)) rfl rfl hl.1 rfl (lv_room (Nat.le_of_ble_eq_true rfl)) dX2_depthFrom_32 ⟨Nat.le_of_ble_eq_true rfl, Nat.le_of_ble_eq_true rfl⟩)) (fun r hw => ?_)
      rcases hw with ⟨rfl, g2⟩ | ⟨rfl, g2⟩
      · refine r_if_eq (x := 1) (tgt := 47) hx hb (by omega) dX2_depthFrom_35 (by decide) (fun c => absurd c (by decide)) (fun _ => ?_)
        refine lv_aload_n hx hb dX2_depthFrom_38 rfl (lv_at hl 2 rfl) ?_
        refine va_get (D := D) (ci := 3) (v := .ref a2) (C := RX2) (T := TX2) (N := 3) hx hb hts i_X2_depthFrom_X2 hown hK hP 0 rfl rfl 2 (by decide) (hts (.fieldLink RX2 18 "MemoryMap$Functions" "depths" "[I") (List.mem_of_getElem? (i := 1) rfl)) (fun _ h9 => h9) rfl dX2_depthFrom_39 ?_
        refine lv_iload_n hx hb dX2_depthFrom_42 rfl (lv_at hl 3 rfl) ?_
        refine r_iald hx hb hK hP 3 0 rfl rfl (i := en) (by omega) (by omega) dX2_depthFrom_43 ?_
        have hb_0 := hdb en
        refine lv_goto (tgt := 48) hx hb dX2_depthFrom_44 (by decide) ?_
        have hk := itr_keep (cm := cm) (stk := stk) (x := (0, dp)) (e := en) (n := j) (by rw [← hrn]; exact g2) (30 - j)
        rw [show j + (30 - j) = 30 by omega, ← hrn] at hk
        have hb8 := hdb en
        exact ret_Mi hx hb hr hlk (d) (⟨hdb, Or.inl ⟨hk.1, by rw [hk.2], by rw [hk.2]; exact hb8⟩⟩) hP hD hS (Nat.le_of_ble_eq_true rfl) (Nat.le_of_ble_eq_true rfl) dX2_depthFrom_48
      · rw [g] at g2; exact absurd g2 (by decide)
    · refine r_if_ne (x := 0) (tgt := 30) hx hb (by omega) dX2_depthFrom_15 (by decide) (fun c => absurd c (by decide)) (fun _ => ?_)
      refine lv_aload_n hx hb dX2_depthFrom_18 rfl (lv_at hl 2 rfl) ?_
      refine lv_iload_n hx hb dX2_depthFrom_19 rfl (lv_at hl 1 rfl) ?_
      refine call_Mi (wr := []) (wn := fun v : Nat × (Nat → Nat) => [(h, .inr (3, [.ref a0, .ref a1, .ref a2])), (a0, .inl (t 0, 31, .inl (nF stk))), (a1, .inl (t 0, 31, .inl (nF cm))), (a2, .inl (t 0, 31, .inl (nF v.2)))]) (va_runV (As := [.int (nI S)]) (rest := []) ⟨hx, hb, hml, hown, hts⟩ (c_X2_settleMore l D t h a0 a1 a2 stk cm d S (30 * j) hcm hdb hstk hSb (by omega) hsd _) (cwV 1 hts gX2_depthFrom_X2_settleMore rfl rfl rfl (by decide +kernel) ⟨Nat.le_of_ble_eq_true rfl, Nat.le_of_ble_eq_true rfl⟩) (preV hP hD hK hN [0, 1, 2, 3] 3 0 rfl (by decide) rfl rfl rfl) rfl rfl hl.1 rfl (lv_room (Nat.le_of_ble_eq_true rfl)) dX2_depthFrom_20 ⟨Nat.le_of_ble_eq_true rfl, Nat.le_of_ble_eq_true rfl⟩) hP hD hS hA [0, 1, 2, 3] [] [0, 1, 2, 3] rfl rfl (by decide) (by decide) (fun _ => rfl) (by decide) (fun r v H locs hw hP hD hS hz => ?_)
      have hP : va_P D vwCl [(h, .inr (3, [.ref a0, .ref a1, .ref a2])), (a0, .inl (t 0, 31, .inl (nF stk))), (a1, .inl (t 0, 31, .inl (nF cm))), (a2, .inl (t 0, 31, .inl (nF v.2)))] H := hP
      have hD : va_D A [(h, .inr (3, [.ref a0, .ref a1, .ref a2])), (a0, .inl (t 0, 31, .inl (nF stk))), (a1, .inl (t 0, 31, .inl (nF cm))), (a2, .inl (t 0, 31, .inl (nF v.2)))] := hD
      obtain ⟨S2, d2⟩ := v
      obtain ⟨rfl, he, h5, h6, h7⟩ := hw
      have hP : va_P D vwCl [(h, .inr (3, [.ref a0, .ref a1, .ref a2])), (a0, .inl (t 0, 31, .inl (nF stk))), (a1, .inl (t 0, 31, .inl (nF cm))), (a2, .inl (t 0, 31, .inl (nF d2)))] H := hP
      have hD : va_D A [(h, .inr (3, [.ref a0, .ref a1, .ref a2])), (a0, .inl (t 0, 31, .inl (nF stk))), (a1, .inl (t 0, 31, .inl (nF cm))), (a2, .inl (t 0, 31, .inl (nF d2)))] := hD
      refine lv_istore_n (lv' := [(2, .int (nI S2)), (3, .int (nI j)), (0, .ref h), (1, .int (nI en))]) hx hb dX2_depthFrom_23 rfl hl (by decide) rfl (fun ls hl => ?_)
      refine lv_iinc (v := (nI (j + 1))) (lv' := [(3, .int (nI (j + 1))), (2, .int (nI S2)), (0, .ref h), (1, .int (nI en))]) hx hb dX2_depthFrom_24 hl (k := 1) rfl (r_inc1 _) (by decide) rfl (fun ls hl => ?_)
      refine lv_goto (tgt := 4) hx hb dX2_depthFrom_27 (by decide) ?_
      exact ih (j + 1, S2, d2) _ _ _ ⟨hP, hD, hS, lv_sub hl [0, 1, 2, 3] rfl, by omega, by rw [he]; show _ = rnd cm stk (itr cm stk (0, dp) j) 30; rw [← hrn], h5, h6, fun g hg => by have := h7 g hg; omega⟩ (by show 30 - (j + 1) < 30 - j; omega)
end
section
/-- how many of the bits 0 .. n -/
def popc (k : Nat) : Nat → Nat
  | 0 => if k.testBit 0 then 1 else 0
  | n + 1 => popc k n + (if k.testBit (n + 1) then 1 else 0)
def pcA (x : Nat) : Nat := x - (x / 2 &&& 1431655765)
def pcB (a : Nat) : Nat := (a &&& 858993459) + (a / 4 &&& 858993459)
def pcC (b : Nat) : Nat := (b + b / 16) &&& 252645135
def pcD (c : Nat) : Nat := c + c / 256
def pcE (d : Nat) : Nat := (d + d / 65536) &&& 63
theorem and_ch {a b m M : Nat} (ha : a < 256) (hm : m < 256) : (256 * b + a) &&& (256 * M + m) = 256 * (b &&& M) + (a &&& m) := by
  apply Nat.eq_of_testBit_eq
  intro i
  have e1 := Nat.testBit_two_pow_mul_add (i := 8) b (b := a) ha i
  have e2 := Nat.testBit_two_pow_mul_add (i := 8) M (b := m) hm i
  have h3 : a &&& m < 2 ^ 8 := Nat.lt_of_le_of_lt Nat.and_le_left ha
  have e3 := Nat.testBit_two_pow_mul_add (i := 8) (b &&& M) (b := a &&& m) h3 i
  rw [Nat.testBit_and, show 256 * b + a = 2 ^ 8 * b + a from rfl, show 256 * M + m = 2 ^ 8 * M + m from rfl, show 256 * (b &&& M) + (a &&& m) = 2 ^ 8 * (b &&& M) + (a &&& m) from rfl, e1, e2, e3]
  split <;> rw [Nat.testBit_and]
/-- four octets -/
def oc4 (y3 y2 y1 y0 : Nat) : Nat := 256 * (256 * (256 * y3 + y2) + y1) + y0
theorem and4 {y0 y1 y2 y3 : Nat} (m : Nat) (h0 : y0 < 256) (h1 : y1 < 256) (h2 : y2 < 256) (hm : m < 256) : oc4 y3 y2 y1 y0 &&& oc4 m m m m = oc4 (y3 &&& m) (y2 &&& m) (y1 &&& m) (y0 &&& m) := by
  unfold oc4
  rw [and_ch h0 hm, and_ch h1 hm, and_ch h2 hm]
/-- the three steps of an octet -/
def bA (b : Nat) : Nat := b - (b / 2 &&& 85)
def bB (a : Nat) : Nat := (a &&& 51) + (a / 4 &&& 51)
def bC (b : Nat) : Nat := (b + b / 16) &&& 15
theorem bA_ok : ∀ b, b < 256 → (b / 2 &&& 85) ≤ b ∧ ∀ c, c < 2 → ((b / 2 + 128 * c) &&& 85) = (b / 2 &&& 85) := by decide +kernel
theorem bB_ok : ∀ a, a < 256 → bB a < 256 ∧ ∀ c, c < 4 → ((a / 4 + 64 * c) &&& 51) = (a / 4 &&& 51) := by decide +kernel
theorem bC_ok : ∀ a, a < 256 → bB (bA a) % 16 ≤ 4 ∧ ∀ c, c < 5 → bB (bA a) + bB (bA a) / 16 + 16 * c < 256 ∧ ((bB (bA a) + bB (bA a) / 16 + 16 * c) &&& 15) = bC (bB (bA a)) := by decide +kernel
theorem pop8 : ∀ b, b < 256 → bC (bB (bA b)) = popc b 7 ∧ bC (bB (bA b)) ≤ 8 := by decide +kernel
theorem half4 {y0 y1 y2 y3 : Nat} (h0 : y0 < 256) (h1 : y1 < 256) (h2 : y2 < 256) : oc4 y3 y2 y1 y0 / 2 = oc4 (y3 / 2) (y2 / 2 + 128 * (y3 % 2)) (y1 / 2 + 128 * (y2 % 2)) (y0 / 2 + 128 * (y1 % 2)) := by unfold oc4; omega
theorem quar4 {y0 y1 y2 y3 : Nat} (h0 : y0 < 256) (h1 : y1 < 256) (h2 : y2 < 256) : oc4 y3 y2 y1 y0 / 4 = oc4 (y3 / 4) (y2 / 4 + 64 * (y3 % 4)) (y1 / 4 + 64 * (y2 % 4)) (y0 / 4 + 64 * (y1 % 4)) := by unfold oc4; omega
theorem sixt4 {y0 y1 y2 y3 : Nat} (h0 : y0 < 256) (h1 : y1 < 256) (h2 : y2 < 256) : oc4 y3 y2 y1 y0 + oc4 y3 y2 y1 y0 / 16 = oc4 (y3 + y3 / 16 + 16 * 0) (y2 + y2 / 16 + 16 * (y3 % 16)) (y1 + y1 / 16 + 16 * (y2 % 16)) (y0 + y0 / 16 + 16 * (y1 % 16)) := by unfold oc4; omega
theorem pcA4 {y0 y1 y2 y3 : Nat} (h0 : y0 < 256) (h1 : y1 < 256) (h2 : y2 < 256) (h3 : y3 < 256) : (oc4 y3 y2 y1 y0 / 2 &&& 1431655765) ≤ oc4 y3 y2 y1 y0 ∧ pcA (oc4 y3 y2 y1 y0) = oc4 (bA y3) (bA y2) (bA y1) (bA y0) := by
  have e : oc4 y3 y2 y1 y0 / 2 &&& 1431655765 = oc4 (y3 / 2 &&& 85) (y2 / 2 &&& 85) (y1 / 2 &&& 85) (y0 / 2 &&& 85) := by
    rw [half4 h0 h1 h2, show (1431655765 : Nat) = oc4 85 85 85 85 from rfl, and4 85 (by omega) (by omega) (by omega) (by decide)]
    rw [(bA_ok y2 h2).2 (y3 % 2) (by omega), (bA_ok y1 h1).2 (y2 % 2) (by omega), (bA_ok y0 h0).2 (y1 % 2) (by omega)]
  have a0 := (bA_ok y0 h0).1
  have a1 := (bA_ok y1 h1).1
  have a2 := (bA_ok y2 h2).1
  have a3 := (bA_ok y3 h3).1
  unfold pcA
  rw [e]
  unfold bA
  generalize (y0 / 2 &&& 85) = z0 at *
  generalize (y1 / 2 &&& 85) = z1 at *
  generalize (y2 / 2 &&& 85) = z2 at *
  generalize (y3 / 2 &&& 85) = z3 at *
  clear e
  unfold oc4
  omega
theorem bA_lt {b : Nat} (h : b < 256) : bA b < 256 := by unfold bA; omega
theorem pcB4 {y0 y1 y2 y3 : Nat} (h0 : y0 < 256) (h1 : y1 < 256) (h2 : y2 < 256) : pcB (oc4 y3 y2 y1 y0) = oc4 (bB y3) (bB y2) (bB y1) (bB y0) := by
  unfold pcB
  rw [quar4 h0 h1 h2, show (858993459 : Nat) = oc4 51 51 51 51 from rfl, and4 51 (by omega) (by omega) (by omega) (by decide), and4 51 (by omega) (by omega) (by omega) (by decide)]
  rw [(bB_ok y2 h2).2 (y3 % 4) (by omega), (bB_ok y1 h1).2 (y2 % 4) (by omega), (bB_ok y0 h0).2 (y1 % 4) (by omega)]
  unfold bB oc4
  omega
theorem pcC4 {y0 y1 y2 y3 : Nat} (h0 : y0 < 256) (h1 : y1 < 256) (h2 : y2 < 256) (h3 : y3 < 256) : pcC (oc4 (bB (bA y3)) (bB (bA y2)) (bB (bA y1)) (bB (bA y0))) = oc4 (bC (bB (bA y3))) (bC (bB (bA y2))) (bC (bB (bA y1))) (bC (bB (bA y0))) := by
  have c0 := bC_ok y0 h0
  have c1 := bC_ok y1 h1
  have c2 := bC_ok y2 h2
  have c3 := bC_ok y3 h3
  have d0 := c0.2 (bB (bA y1) % 16) (by omega)
  have d1 := c1.2 (bB (bA y2) % 16) (by omega)
  have d2 := c2.2 (bB (bA y3) % 16) (by omega)
  have d3 := c3.2 0 (by omega)
  unfold pcC
  rw [sixt4 (bB_ok _ (bA_lt h0)).1 (bB_ok _ (bA_lt h1)).1 (bB_ok _ (bA_lt h2)).1, show (252645135 : Nat) = oc4 15 15 15 15 from rfl, and4 15 d0.1 d1.1 d2.1 (by decide), d0.2, d1.2, d2.2, d3.2]
theorem pcE4 {y0 y1 y2 y3 : Nat} (h0 : y0 ≤ 8) (h1 : y1 ≤ 8) (h2 : y2 ≤ 8) (h3 : y3 ≤ 8) : pcE (pcD (oc4 y3 y2 y1 y0)) = y0 + y1 + y2 + y3 := by
  unfold pcE pcD
  rw [show (63 : Nat) = 2 ^ 6 - 1 from rfl, Nat.and_two_pow_sub_one_eq_mod]
  unfold oc4
  have e1 : (256 * (256 * (256 * y3 + y2) + y1) + y0) / 256 = 256 * (256 * y3 + y2) + y1 := by omega
  rw [e1]
  have e2 : (256 * (256 * (256 * y3 + y2) + y1) + y0 + (256 * (256 * y3 + y2) + y1)) / 65536 = 256 * y3 + (y2 + y3) := by omega
  rw [e2]
  omega
theorem popc_lo {y a : Nat} (ha : a < 256) : ∀ n, n < 8 → popc (256 * y + a) n = popc a n
  | 0, _ => by
    have e := Nat.testBit_two_pow_mul_add (i := 8) y (b := a) ha 0
    simp only [popc]
    rw [show 256 * y + a = 2 ^ 8 * y + a from rfl, e]
    rfl
  | n + 1, h => by
    have e := Nat.testBit_two_pow_mul_add (i := 8) y (b := a) ha (n + 1)
    have ih := popc_lo (y := y) ha n (by omega)
    simp only [popc]
    rw [ih, show 256 * y + a = 2 ^ 8 * y + a from rfl, e, if_pos h]
theorem popc_hi {y a : Nat} (ha : a < 256) : ∀ n, popc (256 * y + a) (8 + n) = popc a 7 + popc y n
  | 0 => by
    have e := Nat.testBit_two_pow_mul_add (i := 8) y (b := a) ha 8
    show popc (256 * y + a) 7 + _ = _
    rw [popc_lo ha 7 (by decide), show 256 * y + a = 2 ^ 8 * y + a from rfl, e]
    simp [popc]
  | n + 1 => by
    have e := Nat.testBit_two_pow_mul_add (i := 8) y (b := a) ha (8 + n + 1)
    show popc (256 * y + a) (8 + n) + (if (256 * y + a).testBit (8 + n + 1) then 1 else 0) = popc a 7 + (popc y n + (if y.testBit (n + 1) then 1 else 0))
    rw [if_neg (show ¬ (8 + n + 1 < 8) by omega), show 8 + n + 1 - 8 = n + 1 by omega] at e
    rw [popc_hi ha n, show 256 * y + a = 2 ^ 8 * y + a from rfl, e, Nat.add_assoc]
theorem pc_ok {x : Nat} (hx : x < 4294967296) : (x / 2 &&& 1431655765) ≤ x ∧ pcE (pcD (pcC (pcB (pcA x)))) = popc x 31 := by
  obtain ⟨y3, y2, y1, y0, h3, h2, h1, h0, rfl⟩ : ∃ y3 y2 y1 y0, y3 < 256 ∧ y2 < 256 ∧ y1 < 256 ∧ y0 < 256 ∧ x = oc4 y3 y2 y1 y0 := by
    refine ⟨x / 16777216, x / 65536 % 256, x / 256 % 256, x % 256, by omega, by omega, by omega, by omega, ?_⟩
    unfold oc4
    omega
  refine ⟨(pcA4 h0 h1 h2 h3).1, ?_⟩
  rw [(pcA4 h0 h1 h2 h3).2, pcB4 (bA_lt h0) (bA_lt h1) (bA_lt h2), pcC4 h0 h1 h2 h3, pcE4 (pop8 _ h0).2 (pop8 _ h1).2 (pop8 _ h2).2 (pop8 _ h3).2, (pop8 _ h0).1, (pop8 _ h1).1, (pop8 _ h2).1, (pop8 _ h3).1]
  unfold oc4
  rw [show (31 : Nat) = 8 + 23 from rfl, popc_hi h0, show (23 : Nat) = 8 + 15 from rfl, popc_hi h1, show (15 : Nat) = 8 + 7 from rfl, popc_hi h2]
  omega
abbrev rm_J6_bitCount_0f7a4 : Room := { frames := 0, cells := 0, slots := 0, locals := 0 }
set_option maxHeartbeats 4000000 in
set_option maxRecDepth 100000 in
theorem c_J6_bitCount_0f7a4 (l : Launch) (D : va_G) (t : Nat → ClassId) (k : Nat) (hk : k < 4294967296) : Qi l yJ6_bitCount_0f7a4 wsJ6_bitCount_0f7a4 rm_J6_bitCount_0f7a4 D (TY t) [.int (nI k)] [] (fun r => r = nI (popc k 31)) := by
  refine start_Qi cJ6_bitCount_0f7a4 1 (some .int) (by decide) rfl (Nat.le_of_ble_eq_true rfl) ?_
  intro p e s m below meth c ls B hP hD hl
  obtain ⟨hx, hb, hr, hts, hown, hlk, hml, hN, hK⟩ := B
  have hl : lv_has ls 1 [(0, .int (nI k))] := hl
  have hs := (pc_ok hk).1
  have hA1 : pcA k ≤ k := Nat.sub_le _ _
  have hB1 : pcB (pcA k) < 2000000000 := by have := Nat.and_le_right (n := pcA k) (m := 858993459); have := Nat.and_le_right (n := pcA k / 4) (m := 858993459); unfold pcB; omega
  have hC1 : pcC (pcB (pcA k)) ≤ 252645135 := Nat.and_le_right
  have hD1 : pcD (pcC (pcB (pcA k))) < 300000000 := by unfold pcD; omega
  refine lv_iload_n hx hb dJ6_bitCount_0f7a4_0 rfl (lv_at hl 0 rfl) ?_
  refine lv_iload_n hx hb dJ6_bitCount_0f7a4_1 rfl (lv_at hl 0 rfl) ?_
  refine lv_iconst (v := (nI 1)) hx hb dJ6_bitCount_0f7a4_2 (by decide) ?_
  refine lv_iushr (v := (((nI k)).toUInt32 >>> (((nI 1)).toUInt32 &&& Int32.toUInt32 31)).toInt32) hx hb dJ6_bitCount_0f7a4_3 rfl ?_
  refine r_topi (pk_ushrN (by omega) _ 1 (by decide)) ?_
  refine lv_ldcw hx hb hown (hts (.constant RJ6 265 (1431655765)) (List.mem_of_getElem? (i := 1) rfl)) dJ6_bitCount_0f7a4_4 ?_
  refine lv_iand hx hb dJ6_bitCount_0f7a4_7 ?_
  refine r_topi (nx_and _ _) ?_
  refine r_isub (x := k) (y := (k / 2 &&& 1431655765)) hx hb (by omega) dJ6_bitCount_0f7a4_8 ?_
  refine r_topi (rfl) ?_
  refine lv_istore_n (lv' := [(0, .int (nI (pcA k)))]) hx hb dJ6_bitCount_0f7a4_9 rfl hl (by decide) rfl (fun ls hl => ?_)
  refine lv_iload_n hx hb dJ6_bitCount_0f7a4_10 rfl (lv_at hl 0 rfl) ?_
  refine lv_ldcw hx hb hown (hts (.constant RJ6 266 (858993459)) (List.mem_of_getElem? (i := 2) rfl)) dJ6_bitCount_0f7a4_11 ?_
  refine lv_iand hx hb dJ6_bitCount_0f7a4_14 ?_
  refine r_topi (nx_and _ _) ?_
  refine lv_iload_n hx hb dJ6_bitCount_0f7a4_15 rfl (lv_at hl 0 rfl) ?_
  refine lv_iconst (v := (nI 2)) hx hb dJ6_bitCount_0f7a4_16 (by decide) ?_
  refine lv_iushr (v := (((nI (pcA k))).toUInt32 >>> (((nI 2)).toUInt32 &&& Int32.toUInt32 31)).toInt32) hx hb dJ6_bitCount_0f7a4_17 rfl ?_
  refine r_topi (pk_ushrN (by omega) _ 2 (by decide)) ?_
  refine lv_ldcw hx hb hown (hts (.constant RJ6 266 (858993459)) (List.mem_of_getElem? (i := 2) rfl)) dJ6_bitCount_0f7a4_18 ?_
  refine lv_iand hx hb dJ6_bitCount_0f7a4_21 ?_
  refine r_topi (nx_and _ _) ?_
  refine r_iadd (x := (pcA k &&& 858993459)) (y := (pcA k / 4 &&& 858993459)) hx hb dJ6_bitCount_0f7a4_22 ?_
  refine r_topi (rfl) ?_
  refine lv_istore_n (lv' := [(0, .int (nI (pcB (pcA k))))]) hx hb dJ6_bitCount_0f7a4_23 rfl hl (by decide) rfl (fun ls hl => ?_)
  refine lv_iload_n hx hb dJ6_bitCount_0f7a4_24 rfl (lv_at hl 0 rfl) ?_
  refine lv_iload_n hx hb dJ6_bitCount_0f7a4_25 rfl (lv_at hl 0 rfl) ?_
  refine lv_iconst (v := (nI 4)) hx hb dJ6_bitCount_0f7a4_26 (by decide) ?_
  refine lv_iushr (v := (((nI (pcB (pcA k)))).toUInt32 >>> (((nI 4)).toUInt32 &&& Int32.toUInt32 31)).toInt32) hx hb dJ6_bitCount_0f7a4_27 rfl ?_
  refine r_topi (pk_ushrN (by omega) _ 4 (by decide)) ?_
  refine r_iadd (x := (pcB (pcA k))) (y := ((pcB (pcA k)) / 16)) hx hb dJ6_bitCount_0f7a4_28 ?_
  refine lv_ldcw hx hb hown (hts (.constant RJ6 267 (252645135)) (List.mem_of_getElem? (i := 3) rfl)) dJ6_bitCount_0f7a4_29 ?_
  refine lv_iand hx hb dJ6_bitCount_0f7a4_32 ?_
  refine r_topi (nx_and _ _) ?_
  refine r_topi (rfl) ?_
  refine lv_istore_n (lv' := [(0, .int (nI (pcC (pcB (pcA k)))))]) hx hb dJ6_bitCount_0f7a4_33 rfl hl (by decide) rfl (fun ls hl => ?_)
  refine lv_iload_n hx hb dJ6_bitCount_0f7a4_34 rfl (lv_at hl 0 rfl) ?_
  refine lv_iload_n hx hb dJ6_bitCount_0f7a4_35 rfl (lv_at hl 0 rfl) ?_
  refine lv_bipush (v := (nI 8)) hx hb dJ6_bitCount_0f7a4_36 (by decide) ?_
  refine lv_iushr (v := (((nI (pcC (pcB (pcA k))))).toUInt32 >>> (((nI 8)).toUInt32 &&& Int32.toUInt32 31)).toInt32) hx hb dJ6_bitCount_0f7a4_38 rfl ?_
  refine r_topi (pk_ushrN (by omega) _ 8 (by decide)) ?_
  refine r_iadd (x := (pcC (pcB (pcA k)))) (y := ((pcC (pcB (pcA k))) / 256)) hx hb dJ6_bitCount_0f7a4_39 ?_
  refine r_topi (rfl) ?_
  refine lv_istore_n (lv' := [(0, .int (nI (pcD (pcC (pcB (pcA k))))))]) hx hb dJ6_bitCount_0f7a4_40 rfl hl (by decide) rfl (fun ls hl => ?_)
  refine lv_iload_n hx hb dJ6_bitCount_0f7a4_41 rfl (lv_at hl 0 rfl) ?_
  refine lv_iload_n hx hb dJ6_bitCount_0f7a4_42 rfl (lv_at hl 0 rfl) ?_
  refine lv_bipush (v := (nI 16)) hx hb dJ6_bitCount_0f7a4_43 (by decide) ?_
  refine lv_iushr (v := (((nI (pcD (pcC (pcB (pcA k)))))).toUInt32 >>> (((nI 16)).toUInt32 &&& Int32.toUInt32 31)).toInt32) hx hb dJ6_bitCount_0f7a4_45 rfl ?_
  refine r_topi (pk_ushrN (by omega) _ 16 (by decide)) ?_
  refine r_iadd (x := (pcD (pcC (pcB (pcA k))))) (y := ((pcD (pcC (pcB (pcA k)))) / 65536)) hx hb dJ6_bitCount_0f7a4_46 ?_
  refine lv_istore_n (lv' := [(0, .int (nI ((pcD (pcC (pcB (pcA k)))) + ((pcD (pcC (pcB (pcA k)))) / 65536))))]) hx hb dJ6_bitCount_0f7a4_47 rfl hl (by decide) rfl (fun ls hl => ?_)
  refine lv_iload_n hx hb dJ6_bitCount_0f7a4_48 rfl (lv_at hl 0 rfl) ?_
  refine lv_bipush (v := (nI 63)) hx hb dJ6_bitCount_0f7a4_49 (by decide) ?_
  refine lv_iand hx hb dJ6_bitCount_0f7a4_51 ?_
  refine r_topi (nx_and _ _) ?_
  exact ret_Qi hx hb hr hlk (by show nI (pcE _) = _; rw [(pc_ok hk).2]) dJ6_bitCount_0f7a4_52

theorem i_X2_countCalls_X2 : ∀ w ∈ wsX20, w ∈ wsX2_countCalls := by decide +kernel
abbrev rm_X2_countCalls : Room := { frames := 1, cells := 0, slots := 0, locals := 20 }
set_option maxHeartbeats 4000000 in
set_option maxRecDepth 100000 in
theorem c_X2_countCalls (l : Launch) (D : va_G) (t : Nat → ClassId) (h a0 a1 a2 : Nat) (stk cm dp : Nat → Nat) (f : Nat) (hcm : ∀ k, cm k < 2147483648) (hf : f ≤ 30) : Qi l yX2_countCalls wsX2_countCalls rm_X2_countCalls D (TY t) [.ref h, .int (nI f)] [(h, .inr (3, [.ref a0, .ref a1, .ref a2])), (a0, .inl (t 0, 31, .inl (nF stk))), (a1, .inl (t 0, 31, .inl (nF cm))), (a2, .inl (t 0, 31, .inl (nF dp)))] (fun r => r = nI (popc (cm f) 31)) := by
  refine start_Qi cX2_countCalls 2 (some .int) (by decide) rfl (Nat.le_of_ble_eq_true rfl) ?_
  intro p e s m below meth c ls B hP hD hl
  obtain ⟨hx, hb, hr, hts, hown, hlk, hml, hN, hK⟩ := B
  have hl : lv_has ls 2 [(0, .ref h), (1, .int (nI f))] := hl
  refine lv_aload_n hx hb dX2_countCalls_0 rfl (lv_at hl 0 rfl) ?_
  refine va_get (D := D) (ci := 3) (v := .ref a1) (C := RX2) (T := TX2) (N := 3) hx hb hts i_X2_countCalls_X2 hown hK hP 0 rfl rfl 1 (by decide) (hts (.fieldLink RX2 15 "MemoryMap$Functions" "called" "[I") (List.mem_of_getElem? (i := 1) rfl)) (fun _ h9 => h9) rfl dX2_countCalls_1 ?_
  refine lv_iload_n hx hb dX2_countCalls_4 rfl (lv_at hl 1 rfl) ?_
  refine r_iald hx hb hK hP 2 0 rfl rfl (i := f) (by omega) (by omega) dX2_countCalls_5 ?_
  refine vp_callSi (va_Run.run (va_runS (As := [.int (nI (cm f))]) (rest := []) ⟨hx, hb, hml, hown, hts⟩ (c_J6_bitCount_0f7a4 l D t (cm f) (by have := hcm f; omega) _) (va_cwS 1 hts gX2_countCalls_J6_bitCount_0f7a4 rfl rfl rfl (by decide +kernel) ⟨Nat.le_of_ble_eq_true rfl, Nat.le_of_ble_eq_true rfl⟩) (preS hP hD hK hN [] rfl (by decide)) rfl rfl hl.1 rfl (lv_room (Nat.le_of_ble_eq_true rfl)) dX2_countCalls_6 ⟨Nat.le_of_ble_eq_true rfl, Nat.le_of_ble_eq_true rfl⟩)) (fun r hw => ?_)
  exact ret_Qi hx hb hr hlk (hw) dX2_countCalls_9
end
section
/-! worlds by their members: cells in the middle of a list, stretches of cells -/
theorem P_mem {D : va_G} {cl : List vw_C} {ws : va_W} {H : Heap} : va_P D cl ws H ↔ ∀ q ∈ ws, va_at D cl q H := by
  constructor
  · intro h q hq
    obtain ⟨k, hk⟩ := List.mem_iff_getElem?.mp hq
    exact h k q hk
  · intro h k q hk
    exact h q (List.mem_of_getElem? hk)
theorem D_mem {A : Nat → Prop} {ws : va_W} : va_D A ws ↔ (ws.map (·.1)).Nodup ∧ ∀ q ∈ ws, A q.1 := by
  constructor
  · intro h
    refine ⟨?_, fun q hq => ?_⟩
    · rw [List.nodup_iff_pairwise_ne, List.pairwise_iff_getElem]
      intro i j hi hj hij he
      rw [List.length_map] at hi hj
      rw [List.getElem_map, List.getElem_map] at he
      have e := h.1 i j _ _ (List.getElem?_eq_getElem hi) (List.getElem?_eq_getElem hj) he
      omega
    · obtain ⟨k, hk⟩ := List.mem_iff_getElem?.mp hq
      exact h.2 k q hk
  · intro h
    refine ⟨fun i j p q hp hq e => ?_, fun k q hk => h.2 q (List.mem_of_getElem? hk)⟩
    have hi := (List.getElem?_eq_some_iff.mp hp).1
    refine (List.getElem?_inj (l := ws.map (·.1)) (by rw [List.length_map]; exact hi) h.1).mp ?_
    rw [List.getElem?_map, List.getElem?_map, hp, hq]
    exact congrArg some e
theorem P_perm {D : va_G} {cl : List vw_C} {ws ws' : va_W} {H : Heap} (h : ws.Perm ws') (hP : va_P D cl ws H) : va_P D cl ws' H := P_mem.mpr fun q hq => P_mem.mp hP q (h.mem_iff.mpr hq)
theorem D_perm {A : Nat → Prop} {ws ws' : va_W} (h : ws.Perm ws') (hD : va_D A ws) : va_D A ws' := by
  have k := D_mem.mp hD
  exact D_mem.mpr ⟨((h.map (·.1)).nodup_iff).mp k.1, fun q hq => k.2 q (h.mem_iff.mpr hq)⟩
/-- cells from the middle to the front -/
theorem perm_front (a b c d : va_W) : (a ++ (b ++ (c ++ d))).Perm (c ++ (a ++ (b ++ d))) := by
  have h1 : (b ++ (c ++ d)).Perm (c ++ (b ++ d)) := by
    rw [← List.append_assoc, ← List.append_assoc]
    exact List.perm_append_comm.append_right d
  refine (h1.append_left a).trans ?_
  rw [← List.append_assoc, ← List.append_assoc c a]
  exact List.perm_append_comm.append_right _
theorem P_app {D : va_G} {cl : List vw_C} {a b : va_W} {H : Heap} : va_P D cl (a ++ b) H ↔ va_P D cl a H ∧ va_P D cl b H := by
  rw [P_mem, P_mem, P_mem]
  constructor
  · exact fun h => ⟨fun q hq => h q (List.mem_append_left _ hq), fun q hq => h q (List.mem_append_right _ hq)⟩
  · exact fun h q hq => (List.mem_append.mp hq).elim (h.1 q) (h.2 q)
theorem D_app {A : Nat → Prop} {a b : va_W} : va_D A (a ++ b) ↔ va_D A a ∧ va_D A b ∧ ∀ p ∈ a, ∀ q ∈ b, p.1 ≠ q.1 := by
  rw [D_mem, D_mem, D_mem, List.map_append, List.nodup_append]
  constructor
  · rintro ⟨⟨h1, h2, h3⟩, h4⟩
    exact ⟨⟨h1, fun q hq => h4 q (List.mem_append_left _ hq)⟩, ⟨h2, fun q hq => h4 q (List.mem_append_right _ hq)⟩, fun p hp q hq => h3 p.1 (List.mem_map_of_mem hp) q.1 (List.mem_map_of_mem hq)⟩
  · rintro ⟨⟨h1, h4⟩, ⟨h2, h5⟩, h3⟩
    refine ⟨⟨h1, h2, fun x hx y hy => ?_⟩, fun q hq => (List.mem_append.mp hq).elim (h4 q) (h5 q)⟩
    obtain ⟨p, hp, rfl⟩ := List.mem_map.mp hx
    obtain ⟨q, hq, rfl⟩ := List.mem_map.mp hy
    exact h3 p hp q hq
theorem A_iff {ws : va_W} {sz q : Nat} : va_A ws sz q ↔ (∃ x ∈ ws, x.1 = q) ∨ sz ≤ q := by
  unfold va_A
  constructor
  · rintro (⟨k, e, h⟩ | h)
    · exact Or.inl ⟨_, List.mem_of_getElem? h, rfl⟩
    · exact Or.inr h
  · rintro (⟨x, hx, rfl⟩ | h)
    · obtain ⟨k, hk⟩ := List.mem_iff_getElem?.mp hx
      exact Or.inl ⟨k, x.2, hk⟩
    · exact Or.inr h
/-- the frame: wc in the middle of a world becomes w1 -/
theorem mid_join {D : va_G} {cl : List vw_C} {A : Nat → Prop} {pre wc w1 post : va_W} {H H1 : Heap} (hP : va_P D cl (pre ++ (wc ++ post)) H) (hD : va_D A (pre ++ (wc ++ post)))
    (hk : ∀ q : Nat, q < H.size → ¬ va_A wc H.size q → H1[q]? = H[q]?) (hF : ∀ q, va_A wc H.size q → A q) (hP1 : va_P D cl w1 H1) (hD1 : va_D (va_A wc H.size) w1) : va_P D cl (pre ++ (w1 ++ post)) H1 ∧ va_D A (pre ++ (w1 ++ post)) := by
  obtain ⟨p1, p23⟩ := P_app.mp hP
  obtain ⟨p2, p3⟩ := P_app.mp p23
  obtain ⟨d1, d23, d4⟩ := D_app.mp hD
  obtain ⟨d2, d3, d5⟩ := D_app.mp d23
  have out : ∀ (z : va_W), va_P D cl z H → (∀ x ∈ z, ∀ y ∈ wc, y.1 ≠ x.1) → ∀ x ∈ z, x.1 < H.size ∧ ¬ va_A wc H.size x.1 := by
    intro z hz hne x hx
    have hl := (P_mem.mp hz x hx).lt
    refine ⟨hl, fun h => ?_⟩
    rcases A_iff.mp h with ⟨y, hy, e⟩ | h
    · exact hne x hx y hy e
    · omega
  have o1 := out pre p1 (fun x hx y hy e => d4 x hx y (List.mem_append_left _ hy) e.symm)
  have o3 := out post p3 (fun x hx y hy e => d5 y hy x hx e)
  have k1 : va_P D cl pre H1 := P_mem.mpr fun x hx => (P_mem.mp p1 x hx).kept (hk _ (o1 x hx).1 (o1 x hx).2)
  have k3 : va_P D cl post H1 := P_mem.mpr fun x hx => (P_mem.mp p3 x hx).kept (hk _ (o3 x hx).1 (o3 x hx).2)
  have in1 : ∀ y ∈ w1, va_A wc H.size y.1 := (D_mem.mp hD1).2
  have dw : va_D A w1 := D_mem.mpr ⟨(D_mem.mp hD1).1, fun y hy => hF _ (in1 y hy)⟩
  refine ⟨P_app.mpr ⟨k1, P_app.mpr ⟨hP1, k3⟩⟩, D_app.mpr ⟨d1, D_app.mpr ⟨dw, d3, fun y hy x hx e => (o3 x hx).2 (e ▸ in1 y hy)⟩, fun x hx y hy e => ?_⟩⟩
  rcases List.mem_append.mp hy with hy | hy
  · exact (o1 x hx).2 (e ▸ in1 y hy)
  · exact d4 x hx y (List.mem_append_right _ hy) e
theorem mid_free {A : Nat → Prop} {pre wc post : va_W} {H0 H : Heap} {locs : List Loc} (hD : va_D A (pre ++ (wc ++ post))) (hS : va_S A H0 H locs) (hA : ∀ q, H0.size ≤ q → A q) : ∀ q, va_A wc H.size q → A q := by
  intro q h
  rcases A_iff.mp h with ⟨y, hy, rfl⟩ | h
  · exact (D_mem.mp hD).2 y (List.mem_append_right _ (List.mem_append_left _ hy))
  · exact hA q (Nat.le_trans hS.1 h)
section CM
variable {p : Program} {l : Launch} {e : Env} {R : Room} {s : State} {m : MethodId} {args : Array Value} {below : List Frame} {meth : Method} {c : Code} {H : Heap} {locs : List Loc} {cells slots mc ms : Nat} {Q : State → Prop}
variable {cc : ByteArray} {pc : Nat} {ls : Array Slot} {rest st0 : List Value} {D : va_G} {A A0 : Nat → Prop} {a : Array Value} {tys : List (ClassId × FieldType)} {wc : va_W} {H0 : Heap} {S : Type}
theorem preVp (pre post : va_W) {b : Nat} {As : List Value} {C : String} {q : vw_C} {fs : List Value} (hP : va_P D vwCl (pre ++ (wc ++ post)) H) (hD : va_D A (pre ++ (wc ++ post))) (hK : va_K D vwCl tys s) (hN : NS s) (ci q0 : Nat) (hc : vwCl[ci]? = some q) (he : wc[q0]? = some (b, .inr (ci, fs))) (hq : q.1 = C) : PreV s H C b (va_Pc (.ref b :: As) (Wd D tys wc H.size)) As := by
  subst hq
  have p2 := (P_app.mp (P_app.mp hP).2).1
  have d2 := (D_app.mp (D_app.mp hD).2.1).1
  exact ⟨Wd.blind, va_recv hK p2 hc he, fun U hU hW => ⟨rfl, by rw [hU], by rw [hU]; exact p2, va_K.moved hW.alike hK, d2.weaken (fun _ _ _ _ => trivial), NS.warm hW hN⟩⟩
theorem preSp (pre post : va_W) {As : List Value} (hP : va_P D vwCl (pre ++ (wc ++ post)) H) (hD : va_D A (pre ++ (wc ++ post))) (hK : va_K D vwCl tys s) (hN : NS s) : PreS s H (va_Pc As (Wd D tys wc H.size)) As := by
  have p2 := (P_app.mp (P_app.mp hP).2).1
  have d2 := (D_app.mp (D_app.mp hD).2.1).1
  exact ⟨Wd.blind, fun U hU hW => ⟨rfl, by rw [hU], by rw [hU]; exact p2, va_K.moved hW.alike hK, d2.weaken (fun _ _ _ _ => trivial), NS.warm hW hN⟩⟩
theorem call_Mip (pre post : va_W) {pst : Int32 → S → Prop} {wc' : S → va_W} (hr : va_Run p l e R s m args below meth c H locs cells slots mc ms (F0 m pc ls st0) rest (va_Qi pst (fun u t => We D (va_A wc H.size) (wc' u) t) (va_A wc H.size) a) (va_A wc H.size))
    (hP : va_P D vwCl (pre ++ (wc ++ post)) H) (hD : va_D A0 (pre ++ (wc ++ post))) (hS : va_S A0 H0 H locs) (hA : ∀ q, H0.size ≤ q → A0 q)
    (kk : ∀ (r : Int32) (u : S) (H1 : Heap) (locs1 : List Loc), pst r u → va_P D vwCl (pre ++ (wc' u ++ post)) H1 → va_D A0 (pre ++ (wc' u ++ post)) → va_S A0 H0 H1 locs1 → H.size ≤ H1.size → W p l e R s m args below meth c H1 locs1 (cells + mc) (slots + ms) Q (F0 m (pc + 3) ls (.int r :: rest))) : W p l e R s m args below meth c H locs cells slots Q (F0 m pc ls st0) := by
  have hF := mid_free hD hS hA
  refine va_calli hr hS (fun q _ h => hF q h) hF (fun r u t H1 locs1 ht hvm hw hB hz1 hk1 hS1 => ?_)
  obtain ⟨hP1, hD1⟩ := hB
  rw [ht] at hP1
  obtain ⟨hP2, hD2⟩ := mid_join hP hD hk1 hF hP1 hD1
  exact kk r u H1 locs1 hw hP2 hD2 hS1 hz1
theorem call_Mlp (pre post : va_W) {pst : Int64 → S → Prop} {wc' : S → va_W} (hr : va_Run p l e R s m args below meth c H locs cells slots mc ms (F0 m pc ls st0) rest (va_Ql pst (fun u t => We D (va_A wc H.size) (wc' u) t) (va_A wc H.size) a) (va_A wc H.size))
    (hP : va_P D vwCl (pre ++ (wc ++ post)) H) (hD : va_D A0 (pre ++ (wc ++ post))) (hS : va_S A0 H0 H locs) (hA : ∀ q, H0.size ≤ q → A0 q)
    (kk : ∀ (r : Int64) (u : S) (H1 : Heap) (locs1 : List Loc), pst r u → va_P D vwCl (pre ++ (wc' u ++ post)) H1 → va_D A0 (pre ++ (wc' u ++ post)) → va_S A0 H0 H1 locs1 → H.size ≤ H1.size → W p l e R s m args below meth c H1 locs1 (cells + mc) (slots + ms) Q (F0 m (pc + 3) ls (.long r :: rest))) : W p l e R s m args below meth c H locs cells slots Q (F0 m pc ls st0) := by
  have hF := mid_free hD hS hA
  refine va_calll hr hS (fun q _ h => hF q h) hF (fun r u t H1 locs1 ht hvm hw hB hz1 hk1 hS1 => ?_)
  obtain ⟨hP1, hD1⟩ := hB
  rw [ht] at hP1
  obtain ⟨hP2, hD2⟩ := mid_join hP hD hk1 hF hP1 hD1
  exact kk r u H1 locs1 hw hP2 hD2 hS1 hz1
theorem call_Mvp (pre post : va_W) {pst : S → Prop} {wc' : S → va_W} (hr : va_Run p l e R s m args below meth c H locs cells slots mc ms (F0 m pc ls st0) rest (va_Qv pst (fun u t => We D (va_A wc H.size) (wc' u) t) (va_A wc H.size) a) (va_A wc H.size))
    (hP : va_P D vwCl (pre ++ (wc ++ post)) H) (hD : va_D A0 (pre ++ (wc ++ post))) (hS : va_S A0 H0 H locs) (hA : ∀ q, H0.size ≤ q → A0 q)
    (kk : ∀ (u : S) (H1 : Heap) (locs1 : List Loc), pst u → va_P D vwCl (pre ++ (wc' u ++ post)) H1 → va_D A0 (pre ++ (wc' u ++ post)) → va_S A0 H0 H1 locs1 → H.size ≤ H1.size → W p l e R s m args below meth c H1 locs1 (cells + mc) (slots + ms) Q (F0 m (pc + 3) ls rest)) : W p l e R s m args below meth c H locs cells slots Q (F0 m pc ls st0) := by
  have hF := mid_free hD hS hA
  refine va_callv hr hS (fun q _ h => hF q h) hF (fun u t H1 locs1 ht hvm hw hB hz1 hk1 hS1 => ?_)
  obtain ⟨hP1, hD1⟩ := hB
  rw [ht] at hP1
  obtain ⟨hP2, hD2⟩ := mid_join hP hD hk1 hF hP1 hD1
  exact kk u H1 locs1 hw hP2 hD2 hS1 hz1
end CM
/-- a stretch of cells, piece by piece -/
def seg (F : Nat → va_W) (n : Nat) : va_W := (List.range n).flatMap F
theorem seg_0 {F : Nat → va_W} : seg F 0 = [] := rfl
theorem seg_succ {F : Nat → va_W} {n : Nat} : seg F (n + 1) = seg F n ++ F n := by
  unfold seg
  rw [List.range_succ, List.flatMap_append]
  simp
theorem seg_congr {F G : Nat → va_W} : ∀ n : Nat, (∀ i, i < n → F i = G i) → seg F n = seg G n
  | 0, _ => rfl
  | n + 1, h => by rw [seg_succ, seg_succ, seg_congr n (fun i hi => h i (by omega)), h n (Nat.lt_succ_self n)]
theorem seg_add {F : Nat → va_W} (k : Nat) : ∀ n : Nat, seg F (k + n) = seg F k ++ seg (fun i => F (k + i)) n
  | 0 => by rw [seg_0, List.append_nil]; rfl
  | n + 1 => by rw [← Nat.add_assoc, seg_succ, seg_add k n, seg_succ, List.append_assoc]
theorem seg_split {F : Nat → va_W} {n k : Nat} (h : k < n) : seg F n = seg F k ++ (F k ++ seg (fun i => F (k + 1 + i)) (n - k - 1)) := by
  have e : n = (k + 1) + (n - k - 1) := by omega
  have h1 := seg_add (F := F) (k + 1) (n - k - 1)
  rw [← e, seg_succ, List.append_assoc] at h1
  exact h1
theorem seg_up {F : Nat → va_W} {n k : Nat} {x : va_W} (h : k < n) : seg F k ++ (x ++ seg (fun i => F (k + 1 + i)) (n - k - 1)) = seg (va_up F k x) n := by
  rw [seg_split (F := va_up F k x) h, va_up_self]
  rw [seg_congr k (fun i hi => (va_up_ne F x (Nat.ne_of_lt hi)).symm)]
  congr 2
  exact seg_congr _ (fun i _ => (va_up_ne F x (by omega)).symm)
end
section
section AA
variable {p : Program} {l : Launch} {e : Env} {R : Room} {s : State} {m : MethodId} {args : Array Value} {below : List Frame} {meth : Method} {c : Code} {H : Heap} {locs : List Loc} {cells slots : Nat} {Q : State → Prop}
variable {cc : ByteArray} {pc : Nat} {ls : Array Slot} {rest : List Value} {D : va_G} {cl : List vw_C} {a : Nat} {tys : List (ClassId × FieldType)} {ws : va_W}
theorem r_aldA (hexec : p.tables.exec = Jvm.exec) (hb : c.code = cc) (hK : va_K D cl tys s) (hP : va_P D cl ws H) (q0 t0 : Nat) {cA : ClassId} {ty : FieldType} {n : Nat} {f : Nat → Option Nat} (ha : ws[q0]? = some (a, .inl (cA, n, .inr (.inr (.inr (.inr f)))))) (ht : tys[t0]? = some (cA, ty)) (hty : ty.isReference = true) {i : Nat} (hi : i < n) (hn : n < 2 ^ 31) (hdg : decode cc pc = .ok (.aaload, 1))
    (kk : W p l e R s m args below meth c H locs cells slots Q (F0 m (pc + 1) ls (va_rf (f i) :: rest))) : W p l e R s m args below meth c H locs cells slots Q (F0 m pc ls (.int (nI i) :: .ref a :: rest)) := by
  refine W.aald (v := va_rf (f i)) (ty := ty) hexec hb (hP q0 _ ha) ((hK.2 t0 _ ht).1 n (fun j => va_rf (f j))) hty (fun q => by cases q) (by show ¬ (nI i < 0 ∨ (arrV _ _ _).slots.size ≤ _); rw [arrV_size]; exact vp_in_nI hi hn) (by show (arrV _ _ _).slots[_]? = _; rw [nI_clamp (Nat.lt_trans hi hn), arrV_read _ _ hi]) rfl rfl hdg kk
end AA
/-- the rows of the kept placements: their addresses r, what they hold K -/
def rowQ (r : Nat → Nat) : Nat → Option Nat := fun i => if i < 50 then some (r i) else none
def rowF (t : Nat → ClassId) (r : Nat → Nat) (K : Nat → Nat → Nat) (i : Nat) : va_W := [(r i, .inl (t 0, 40, .inl (nF (K i))))]
theorem rowQ_at {r : Nat → Nat} {k : Nat} (h : k < 50) : va_rf (rowQ r k) = .ref (r k) := by
  unfold rowQ
  rw [if_pos h]
  rfl
theorem nF_cpy {f g : Nat → Nat} {a b n : Nat} : va_cpy (nF f) (nF g) a b n = nF (va_cpy f g a b n) := by
  funext k
  show (if b ≤ k ∧ k < b + n then nI (f (a + (k - b))) else nI (g k)) = nI (if b ≤ k ∧ k < b + n then f (a + (k - b)) else g k)
  by_cases h : b ≤ k ∧ k < b + n
  · rw [if_pos h, if_pos h]
  · rw [if_neg h, if_neg h]
theorem rowF_up {t : Nat → ClassId} {r : Nat → Nat} {K : Nat → Nat → Nat} {k n : Nat} {f : Nat → Nat} (h : k < n) : seg (rowF t r K) k ++ ([(r k, .inl (t 0, 40, .inl (nF f)))] ++ seg (fun i => rowF t r K (k + 1 + i)) (n - k - 1)) = seg (rowF t r (va_up K k f)) n := by
  rw [seg_up h]
  refine seg_congr n (fun i _ => ?_)
  by_cases e : i = k
  · subst e
    unfold rowF
    rw [va_up_self, va_up_self]
  · rw [va_up_ne _ _ e]
    unfold rowF
    rw [va_up_ne _ _ e]
/-- how many of the first n differ -/
def mvd (f g : Nat → Nat) : Nat → Nat
  | 0 => 0
  | n + 1 => mvd f g n + (if f n = g n then 0 else 1)
theorem mvd_le (f g : Nat → Nat) : ∀ n, mvd f g n ≤ n
  | 0 => Nat.le_refl _
  | n + 1 => by
    have := mvd_le f g n
    unfold mvd
    split <;> omega
theorem i_X3_add_X3 : ∀ w ∈ wsX30, w ∈ wsX3_add := by decide +kernel
abbrev rm_X3_add : Room := { frames := 1, cells := 0, slots := 0, locals := 40 }
set_option maxHeartbeats 4000000 in
set_option maxRecDepth 100000 in
theorem c_X3_add (l : Launch) (D : va_G) (t : Nat → ClassId) (h a0 a1 a2 lc kc : Nat) (last sc : Nat → Nat) (r : Nat → Nat) (K : Nat → Nat → Nat) (ax n : Nat) (tr : Nat → Nat) (hn : n ≤ 40) (hkc : kc ≤ 50) : Mv l yX3_add wsX3_add rm_X3_add D (TY t) [.ref h, .ref ax, .int (nI n)] ([(h, .inr (4, [.ref a0, .int (nI lc), .ref a1, .ref a2, .int (nI kc)])), (a0, .inl (t 0, 40, .inl (nF last))), (a1, .inl (t 5, 50, .inr (.inr (.inr (.inr (rowQ r)))))), (a2, .inl (t 0, 50, .inl (nF sc))), (ax, .inl (t 0, 40, .inl (nF tr)))] ++ seg (rowF t r K) 50) (S := (Nat → Nat) × Nat × (Nat → Nat) × (Nat → Nat → Nat)) (fun u => u = (va_cpy tr last 0 0 n, if kc < 50 then kc + 1 else kc, if kc < 50 then va_up sc kc n else sc, if kc < 50 then va_up K kc (va_cpy tr (K kc) 0 0 n) else K)) (fun u => ([(h, .inr (4, [.ref a0, .int (nI n), .ref a1, .ref a2, .int (nI (u.2.1))])), (a0, .inl (t 0, 40, .inl (nF u.1))), (a1, .inl (t 5, 50, .inr (.inr (.inr (.inr (rowQ r)))))), (a2, .inl (t 0, 50, .inl (nF u.2.2.1))), (ax, .inl (t 0, 40, .inl (nF tr)))] ++ seg (rowF t r u.2.2.2) 50)) := by
  refine start_Mv cX3_add 3 none (by decide) rfl (Nat.le_of_ble_eq_true rfl) ?_
  intro p e s m below meth c A ls B hin hP hD hS hA hl
  obtain ⟨hx, hb, hr, hts, hown, hlk, hml, hN, hK⟩ := B
  have hl : lv_has ls 3 [(0, .ref h), (1, .ref ax), (2, .int (nI n))] := hl
  refine lv_aload_n hx hb dX3_add_0 rfl (lv_at hl 1 rfl) ?_
  refine lv_iconst (v := (nI 0)) hx hb dX3_add_1 (by decide) ?_
  refine lv_aload_n hx hb dX3_add_2 rfl (lv_at hl 0 rfl) ?_
  refine va_get (D := D) (ci := 4) (v := .ref a0) (C := RX3) (T := TX3) (N := 5) hx hb hts i_X3_add_X3 hown hK hP 0 rfl rfl 0 (by decide) (hts (.fieldLink RX3 9 "MemoryMap$Placements" "last" "[I") (List.mem_of_getElem? (i := 1) rfl)) (fun _ h9 => h9) rfl dX3_add_3 ?_
  refine lv_iconst (v := (nI 0)) hx hb dX3_add_6 (by decide) ?_
  refine lv_iload_n hx hb dX3_add_7 rfl (lv_at hl 2 rfl) ?_
  refine va_copyi hx hb (by rw [hml]; exact hl.1.symm) hown (hts (.methodLink RX3 23 arraycopyName) (List.mem_of_getElem? (i := 2) rfl)) (hts (.native arraycopyName) (List.mem_of_getElem? (i := 3) rfl)) (hts (.static arraycopyName) (List.mem_of_getElem? (i := 4) rfl)) (hts (.initialized "java/lang/System") (List.mem_of_getElem? (i := 5) rfl)) hK hP hD hS 4 1 0 0 rfl rfl rfl rfl rfl (nI_pos (by decide)) (nI_pos (by decide)) (nI_pos (by omega)) (by rw [nI_clamp (by decide), nI_clamp (by omega)]; omega) (by rw [nI_clamp (by decide), nI_clamp (by omega)]; omega) (fun i hi => rfl) (Nat.le_of_ble_eq_true rfl) (Nat.le_of_ble_eq_true rfl) dX3_add_8 (fun H locs hP hD hS => ?_)
  rw [nI_clamp (show 0 < 2 ^ 31 by decide), nI_clamp (show n < 2 ^ 31 by omega)] at hP hD
  rw [nF_cpy] at hP hD
  have hP : va_P D vwCl ([(h, .inr (4, [.ref a0, .int (nI lc), .ref a1, .ref a2, .int (nI kc)])), (a0, .inl (t 0, 40, .inl (nF (va_cpy tr last 0 0 n)))), (a1, .inl (t 5, 50, .inr (.inr (.inr (.inr (rowQ r)))))), (a2, .inl (t 0, 50, .inl (nF sc))), (ax, .inl (t 0, 40, .inl (nF tr)))] ++ seg (rowF t r K) 50) H := hP
  have hD : va_D A ([(h, .inr (4, [.ref a0, .int (nI lc), .ref a1, .ref a2, .int (nI kc)])), (a0, .inl (t 0, 40, .inl (nF (va_cpy tr last 0 0 n)))), (a1, .inl (t 5, 50, .inr (.inr (.inr (.inr (rowQ r)))))), (a2, .inl (t 0, 50, .inl (nF sc))), (ax, .inl (t 0, 40, .inl (nF tr)))] ++ seg (rowF t r K) 50) := hD
  refine lv_aload_n hx hb dX3_add_11 rfl (lv_at hl 0 rfl) ?_
  refine lv_iload_n hx hb dX3_add_12 rfl (lv_at hl 2 rfl) ?_
  refine va_put (D := D) (ci := 4) (v := .int (nI n)) (ty := .int) (C := RX3) (T := TX3) (N := 5) hx hb hts i_X3_add_X3 tyX3 tyX3_ok nmX3 hown hK hP hD hS 0 rfl rfl 1 (by decide) (hts (.fieldLink RX3 29 "MemoryMap$Placements" "lastCount" "I") (List.mem_of_getElem? (i := 6) rfl)) (fun _ h9 => h9) rfl (by decide +kernel) rfl rfl (Nat.le_of_ble_eq_true rfl) dX3_add_13 (fun H locs hP hD hS => ?_)
  have hP : va_P D vwCl ([(h, .inr (4, [.ref a0, .int (nI n), .ref a1, .ref a2, .int (nI kc)])), (a0, .inl (t 0, 40, .inl (nF (va_cpy tr last 0 0 n)))), (a1, .inl (t 5, 50, .inr (.inr (.inr (.inr (rowQ r)))))), (a2, .inl (t 0, 50, .inl (nF sc))), (ax, .inl (t 0, 40, .inl (nF tr)))] ++ seg (rowF t r K) 50) H := hP
  have hD : va_D A ([(h, .inr (4, [.ref a0, .int (nI n), .ref a1, .ref a2, .int (nI kc)])), (a0, .inl (t 0, 40, .inl (nF (va_cpy tr last 0 0 n)))), (a1, .inl (t 5, 50, .inr (.inr (.inr (.inr (rowQ r)))))), (a2, .inl (t 0, 50, .inl (nF sc))), (ax, .inl (t 0, 40, .inl (nF tr)))] ++ seg (rowF t r K) 50) := hD
  refine lv_aload_n hx hb dX3_add_16 rfl (lv_at hl 0 rfl) ?_
  refine va_get (D := D) (ci := 4) (v := .int (nI kc)) (C := RX3) (T := TX3) (N := 5) hx hb hts i_X3_add_X3 hown hK hP 0 rfl rfl 4 (by decide) (hts (.fieldLink RX3 33 "MemoryMap$Placements" "keptCount" "I") (List.mem_of_getElem? (i := 7) rfl)) (fun _ h9 => h9) rfl dX3_add_17 ?_
  refine lv_bipush (v := (nI 50)) hx hb dX3_add_20 (by decide) ?_
  refine r_icmp_ge (x := kc) (y := 50) (tgt := 61) hx hb (by omega) (by omega) dX3_add_22 (by decide) (fun c1 => ?_) (fun c1 => ?_)
  · have c2 : ¬ kc < 50 := by omega
    exact ret_Mv hx hb hr hlk ((va_cpy tr last 0 0 n, kc, sc, K)) (by rw [if_neg c2, if_neg c2, if_neg c2]) hP hD hS (Nat.le_of_ble_eq_true rfl) (Nat.le_of_ble_eq_true rfl) dX3_add_61
  · refine lv_aload_n hx hb dX3_add_25 rfl (lv_at hl 1 rfl) ?_
    refine lv_iconst (v := (nI 0)) hx hb dX3_add_26 (by decide) ?_
    refine lv_aload_n hx hb dX3_add_27 rfl (lv_at hl 0 rfl) ?_
    refine va_get (D := D) (ci := 4) (v := .ref a1) (C := RX3) (T := TX3) (N := 5) hx hb hts i_X3_add_X3 hown hK hP 0 rfl rfl 2 (by decide) (hts (.fieldLink RX3 17 "MemoryMap$Placements" "kept" "[[I") (List.mem_of_getElem? (i := 8) rfl)) (fun _ h9 => h9) rfl dX3_add_28 ?_
    refine lv_aload_n hx hb dX3_add_31 rfl (lv_at hl 0 rfl) ?_
    refine va_get (D := D) (ci := 4) (v := .int (nI kc)) (C := RX3) (T := TX3) (N := 5) hx hb hts i_X3_add_X3 hown hK hP 0 rfl rfl 4 (by decide) (hts (.fieldLink RX3 33 "MemoryMap$Placements" "keptCount" "I") (List.mem_of_getElem? (i := 7) rfl)) (fun _ h9 => h9) rfl dX3_add_32 ?_
    refine r_aldA hx hb hK hP 2 5 rfl rfl rfl c1 (by decide) dX3_add_35 ?_
    rw [rowQ_at c1]
    refine lv_iconst (v := (nI 0)) hx hb dX3_add_36 (by decide) ?_
    refine lv_iload_n hx hb dX3_add_37 rfl (lv_at hl 2 rfl) ?_
    rw [seg_split c1] at hP hD
    have hP := P_perm (perm_front [(h, .inr (4, [.ref a0, .int (nI n), .ref a1, .ref a2, .int (nI kc)])), (a0, .inl (t 0, 40, .inl (nF (va_cpy tr last 0 0 n)))), (a1, .inl (t 5, 50, .inr (.inr (.inr (.inr (rowQ r)))))), (a2, .inl (t 0, 50, .inl (nF sc))), (ax, .inl (t 0, 40, .inl (nF tr)))] (seg (rowF t r K) kc) (rowF t r K kc) (seg (fun i => rowF t r K (kc + 1 + i)) (50 - kc - 1))) hP
    have hD := D_perm (perm_front [(h, .inr (4, [.ref a0, .int (nI n), .ref a1, .ref a2, .int (nI kc)])), (a0, .inl (t 0, 40, .inl (nF (va_cpy tr last 0 0 n)))), (a1, .inl (t 5, 50, .inr (.inr (.inr (.inr (rowQ r)))))), (a2, .inl (t 0, 50, .inl (nF sc))), (ax, .inl (t 0, 40, .inl (nF tr)))] (seg (rowF t r K) kc) (rowF t r K kc) (seg (fun i => rowF t r K (kc + 1 + i)) (50 - kc - 1))) hD
    have hP : va_P D vwCl ([((r kc), .inl (t 0, 40, .inl (nF (K kc)))), (h, .inr (4, [.ref a0, .int (nI n), .ref a1, .ref a2, .int (nI kc)])), (a0, .inl (t 0, 40, .inl (nF (va_cpy tr last 0 0 n)))), (a1, .inl (t 5, 50, .inr (.inr (.inr (.inr (rowQ r)))))), (a2, .inl (t 0, 50, .inl (nF sc))), (ax, .inl (t 0, 40, .inl (nF tr)))] ++ (seg (rowF t r K) kc ++ seg (fun i => rowF t r K (kc + 1 + i)) (50 - kc - 1))) H := hP
    have hD : va_D A ([((r kc), .inl (t 0, 40, .inl (nF (K kc)))), (h, .inr (4, [.ref a0, .int (nI n), .ref a1, .ref a2, .int (nI kc)])), (a0, .inl (t 0, 40, .inl (nF (va_cpy tr last 0 0 n)))), (a1, .inl (t 5, 50, .inr (.inr (.inr (.inr (rowQ r)))))), (a2, .inl (t 0, 50, .inl (nF sc))), (ax, .inl (t 0, 40, .inl (nF tr)))] ++ (seg (rowF t r K) kc ++ seg (fun i => rowF t r K (kc + 1 + i)) (50 - kc - 1))) := hD
    refine va_copyi hx hb (by rw [hml]; exact hl.1.symm) hown (hts (.methodLink RX3 23 arraycopyName) (List.mem_of_getElem? (i := 2) rfl)) (hts (.native arraycopyName) (List.mem_of_getElem? (i := 3) rfl)) (hts (.static arraycopyName) (List.mem_of_getElem? (i := 4) rfl)) (hts (.initialized "java/lang/System") (List.mem_of_getElem? (i := 5) rfl)) hK hP hD hS 5 0 0 0 rfl rfl rfl rfl rfl (nI_pos (by decide)) (nI_pos (by decide)) (nI_pos (by omega)) (by rw [nI_clamp (by decide), nI_clamp (by omega)]; omega) (by rw [nI_clamp (by decide), nI_clamp (by omega)]; omega) (fun i hi => rfl) (Nat.le_of_ble_eq_true rfl) (Nat.le_of_ble_eq_true rfl) dX3_add_38 (fun H locs hP hD hS => ?_)
    rw [nI_clamp (show 0 < 2 ^ 31 by decide), nI_clamp (show n < 2 ^ 31 by omega)] at hP hD
    rw [nF_cpy] at hP hD
    have hP : va_P D vwCl ([((r kc), .inl (t 0, 40, .inl (nF (va_cpy tr (K kc) 0 0 n)))), (h, .inr (4, [.ref a0, .int (nI n), .ref a1, .ref a2, .int (nI kc)])), (a0, .inl (t 0, 40, .inl (nF (va_cpy tr last 0 0 n)))), (a1, .inl (t 5, 50, .inr (.inr (.inr (.inr (rowQ r)))))), (a2, .inl (t 0, 50, .inl (nF sc))), (ax, .inl (t 0, 40, .inl (nF tr)))] ++ (seg (rowF t r K) kc ++ seg (fun i => rowF t r K (kc + 1 + i)) (50 - kc - 1))) H := hP
    have hD : va_D A ([((r kc), .inl (t 0, 40, .inl (nF (va_cpy tr (K kc) 0 0 n)))), (h, .inr (4, [.ref a0, .int (nI n), .ref a1, .ref a2, .int (nI kc)])), (a0, .inl (t 0, 40, .inl (nF (va_cpy tr last 0 0 n)))), (a1, .inl (t 5, 50, .inr (.inr (.inr (.inr (rowQ r)))))), (a2, .inl (t 0, 50, .inl (nF sc))), (ax, .inl (t 0, 40, .inl (nF tr)))] ++ (seg (rowF t r K) kc ++ seg (fun i => rowF t r K (kc + 1 + i)) (50 - kc - 1))) := hD
    have hP := P_perm (perm_front [(h, .inr (4, [.ref a0, .int (nI n), .ref a1, .ref a2, .int (nI kc)])), (a0, .inl (t 0, 40, .inl (nF (va_cpy tr last 0 0 n)))), (a1, .inl (t 5, 50, .inr (.inr (.inr (.inr (rowQ r)))))), (a2, .inl (t 0, 50, .inl (nF sc))), (ax, .inl (t 0, 40, .inl (nF tr)))] (seg (rowF t r K) kc) [(r kc, .inl (t 0, 40, .inl (nF (va_cpy tr (K kc) 0 0 n))))] (seg (fun i => rowF t r K (kc + 1 + i)) (50 - kc - 1))).symm hP
    have hD := D_perm (perm_front [(h, .inr (4, [.ref a0, .int (nI n), .ref a1, .ref a2, .int (nI kc)])), (a0, .inl (t 0, 40, .inl (nF (va_cpy tr last 0 0 n)))), (a1, .inl (t 5, 50, .inr (.inr (.inr (.inr (rowQ r)))))), (a2, .inl (t 0, 50, .inl (nF sc))), (ax, .inl (t 0, 40, .inl (nF tr)))] (seg (rowF t r K) kc) [(r kc, .inl (t 0, 40, .inl (nF (va_cpy tr (K kc) 0 0 n))))] (seg (fun i => rowF t r K (kc + 1 + i)) (50 - kc - 1))).symm hD
    rw [rowF_up c1] at hP hD
    have hP : va_P D vwCl ([(h, .inr (4, [.ref a0, .int (nI n), .ref a1, .ref a2, .int (nI kc)])), (a0, .inl (t 0, 40, .inl (nF (va_cpy tr last 0 0 n)))), (a1, .inl (t 5, 50, .inr (.inr (.inr (.inr (rowQ r)))))), (a2, .inl (t 0, 50, .inl (nF sc))), (ax, .inl (t 0, 40, .inl (nF tr)))] ++ seg (rowF t r (va_up K kc (va_cpy tr (K kc) 0 0 n))) 50) H := hP
    have hD : va_D A ([(h, .inr (4, [.ref a0, .int (nI n), .ref a1, .ref a2, .int (nI kc)])), (a0, .inl (t 0, 40, .inl (nF (va_cpy tr last 0 0 n)))), (a1, .inl (t 5, 50, .inr (.inr (.inr (.inr (rowQ r)))))), (a2, .inl (t 0, 50, .inl (nF sc))), (ax, .inl (t 0, 40, .inl (nF tr)))] ++ seg (rowF t r (va_up K kc (va_cpy tr (K kc) 0 0 n))) 50) := hD
    refine lv_aload_n hx hb dX3_add_41 rfl (lv_at hl 0 rfl) ?_
    refine va_get (D := D) (ci := 4) (v := .ref a2) (C := RX3) (T := TX3) (N := 5) hx hb hts i_X3_add_X3 hown hK hP 0 rfl rfl 3 (by decide) (hts (.fieldLink RX3 20 "MemoryMap$Placements" "sectionCounts" "[I") (List.mem_of_getElem? (i := 9) rfl)) (fun _ h9 => h9) rfl dX3_add_42 ?_
    refine lv_aload_n hx hb dX3_add_45 rfl (lv_at hl 0 rfl) ?_
    refine va_get (D := D) (ci := 4) (v := .int (nI kc)) (C := RX3) (T := TX3) (N := 5) hx hb hts i_X3_add_X3 hown hK hP 0 rfl rfl 4 (by decide) (hts (.fieldLink RX3 33 "MemoryMap$Placements" "keptCount" "I") (List.mem_of_getElem? (i := 7) rfl)) (fun _ h9 => h9) rfl dX3_add_46 ?_
    refine lv_iload_n hx hb dX3_add_49 rfl (lv_at hl 2 rfl) ?_
    refine r_iast hx hb hK hP hD hS 3 0 rfl rfl (i := kc) (by omega) (by omega) dX3_add_50 (fun H locs hP hD hS => ?_)
    have hP : va_P D vwCl ([(h, .inr (4, [.ref a0, .int (nI n), .ref a1, .ref a2, .int (nI kc)])), (a0, .inl (t 0, 40, .inl (nF (va_cpy tr last 0 0 n)))), (a1, .inl (t 5, 50, .inr (.inr (.inr (.inr (rowQ r)))))), (a2, .inl (t 0, 50, .inl (nF (va_up sc kc n)))), (ax, .inl (t 0, 40, .inl (nF tr)))] ++ seg (rowF t r (va_up K kc (va_cpy tr (K kc) 0 0 n))) 50) H := hP
    have hD : va_D A ([(h, .inr (4, [.ref a0, .int (nI n), .ref a1, .ref a2, .int (nI kc)])), (a0, .inl (t 0, 40, .inl (nF (va_cpy tr last 0 0 n)))), (a1, .inl (t 5, 50, .inr (.inr (.inr (.inr (rowQ r)))))), (a2, .inl (t 0, 50, .inl (nF (va_up sc kc n)))), (ax, .inl (t 0, 40, .inl (nF tr)))] ++ seg (rowF t r (va_up K kc (va_cpy tr (K kc) 0 0 n))) 50) := hD
    refine lv_aload_n hx hb dX3_add_51 rfl (lv_at hl 0 rfl) ?_
    refine lv_dup hx hb dX3_add_52 rfl ?_
    refine va_get (D := D) (ci := 4) (v := .int (nI kc)) (C := RX3) (T := TX3) (N := 5) hx hb hts i_X3_add_X3 hown hK hP 0 rfl rfl 4 (by decide) (hts (.fieldLink RX3 33 "MemoryMap$Placements" "keptCount" "I") (List.mem_of_getElem? (i := 7) rfl)) (fun _ h9 => h9) rfl dX3_add_53 ?_
    refine lv_iconst (v := (nI 1)) hx hb dX3_add_56 (by decide) ?_
    refine r_iadd (x := kc) (y := 1) hx hb dX3_add_57 ?_
    refine va_put (D := D) (ci := 4) (v := .int (nI (kc + 1))) (ty := .int) (C := RX3) (T := TX3) (N := 5) hx hb hts i_X3_add_X3 tyX3 tyX3_ok nmX3 hown hK hP hD hS 0 rfl rfl 4 (by decide) (hts (.fieldLink RX3 33 "MemoryMap$Placements" "keptCount" "I") (List.mem_of_getElem? (i := 7) rfl)) (fun _ h9 => h9) rfl (by decide +kernel) rfl rfl (Nat.le_of_ble_eq_true rfl) dX3_add_58 (fun H locs hP hD hS => ?_)
    have hP : va_P D vwCl ([(h, .inr (4, [.ref a0, .int (nI n), .ref a1, .ref a2, .int (nI (kc + 1))])), (a0, .inl (t 0, 40, .inl (nF (va_cpy tr last 0 0 n)))), (a1, .inl (t 5, 50, .inr (.inr (.inr (.inr (rowQ r)))))), (a2, .inl (t 0, 50, .inl (nF (va_up sc kc n)))), (ax, .inl (t 0, 40, .inl (nF tr)))] ++ seg (rowF t r (va_up K kc (va_cpy tr (K kc) 0 0 n))) 50) H := hP
    have hD : va_D A ([(h, .inr (4, [.ref a0, .int (nI n), .ref a1, .ref a2, .int (nI (kc + 1))])), (a0, .inl (t 0, 40, .inl (nF (va_cpy tr last 0 0 n)))), (a1, .inl (t 5, 50, .inr (.inr (.inr (.inr (rowQ r)))))), (a2, .inl (t 0, 50, .inl (nF (va_up sc kc n)))), (ax, .inl (t 0, 40, .inl (nF tr)))] ++ seg (rowF t r (va_up K kc (va_cpy tr (K kc) 0 0 n))) 50) := hD
    exact ret_Mv hx hb hr hlk ((va_cpy tr last 0 0 n, kc + 1, va_up sc kc n, va_up K kc (va_cpy tr (K kc) 0 0 n))) (by rw [if_pos c1, if_pos c1, if_pos c1]) hP hD hS (Nat.le_of_ble_eq_true rfl) (Nat.le_of_ble_eq_true rfl) dX3_add_61

theorem i_X3_countMovedSince_X3 : ∀ w ∈ wsX30, w ∈ wsX3_countMovedSince := by decide +kernel
abbrev rm_X3_countMovedSince : Room := { frames := 0, cells := 0, slots := 0, locals := 0 }
set_option maxHeartbeats 4000000 in
set_option maxRecDepth 100000 in
theorem c_X3_countMovedSince (l : Launch) (D : va_G) (t : Nat → ClassId) (h a0 a1 a2 lc kc : Nat) (last sc : Nat → Nat) (r : Nat → Nat) (K : Nat → Nat → Nat) (ax : Nat) (tr : Nat → Nat) (ix : Nat) (hix : ix < 50) (hsc : ∀ i, sc i ≤ 40) (hKb : ∀ i j, K i j ≤ 65536) (hla : ∀ i, last i ≤ 65536) : Qi l yX3_countMovedSince wsX3_countMovedSince rm_X3_countMovedSince D (TY t) [.ref h, .int (nI ix)] ([(h, .inr (4, [.ref a0, .int (nI lc), .ref a1, .ref a2, .int (nI kc)])), (a0, .inl (t 0, 40, .inl (nF last))), (a1, .inl (t 5, 50, .inr (.inr (.inr (.inr (rowQ r)))))), (a2, .inl (t 0, 50, .inl (nF sc))), (ax, .inl (t 0, 40, .inl (nF tr)))] ++ seg (rowF t r K) 50) (fun z => z = nI (mvd (K ix) last (sc ix))) := by
  refine start_Qi cX3_countMovedSince 4 (some .int) (by decide) rfl (Nat.le_of_ble_eq_true rfl) ?_
  intro p e s m below meth c ls B hP hD hl
  obtain ⟨hx, hb, hr, hts, hown, hlk, hml, hN, hK⟩ := B
  have hl : lv_has ls 4 [(0, .ref h), (1, .int (nI ix))] := hl
  rw [seg_split hix] at hP hD
  have hP := P_perm (perm_front [(h, .inr (4, [.ref a0, .int (nI lc), .ref a1, .ref a2, .int (nI kc)])), (a0, .inl (t 0, 40, .inl (nF last))), (a1, .inl (t 5, 50, .inr (.inr (.inr (.inr (rowQ r)))))), (a2, .inl (t 0, 50, .inl (nF sc))), (ax, .inl (t 0, 40, .inl (nF tr)))] (seg (rowF t r K) ix) (rowF t r K ix) (seg (fun i => rowF t r K (ix + 1 + i)) (50 - ix - 1))) hP
  have hD := D_perm (perm_front [(h, .inr (4, [.ref a0, .int (nI lc), .ref a1, .ref a2, .int (nI kc)])), (a0, .inl (t 0, 40, .inl (nF last))), (a1, .inl (t 5, 50, .inr (.inr (.inr (.inr (rowQ r)))))), (a2, .inl (t 0, 50, .inl (nF sc))), (ax, .inl (t 0, 40, .inl (nF tr)))] (seg (rowF t r K) ix) (rowF t r K ix) (seg (fun i => rowF t r K (ix + 1 + i)) (50 - ix - 1))) hD
  have hP : va_P D vwCl ([((r ix), .inl (t 0, 40, .inl (nF (K ix)))), (h, .inr (4, [.ref a0, .int (nI lc), .ref a1, .ref a2, .int (nI kc)])), (a0, .inl (t 0, 40, .inl (nF last))), (a1, .inl (t 5, 50, .inr (.inr (.inr (.inr (rowQ r)))))), (a2, .inl (t 0, 50, .inl (nF sc))), (ax, .inl (t 0, 40, .inl (nF tr)))] ++ (seg (rowF t r K) ix ++ seg (fun i => rowF t r K (ix + 1 + i)) (50 - ix - 1))) s.heap := hP
  refine lv_iconst (v := (nI 0)) hx hb dX3_countMovedSince_0 (by decide) ?_
  refine lv_istore_n (lv' := [(2, .int (nI 0)), (0, .ref h), (1, .int (nI ix))]) hx hb dX3_countMovedSince_1 rfl hl (by decide) rfl (fun ls hl => ?_)
  refine lv_iconst (v := (nI 0)) hx hb dX3_countMovedSince_2 (by decide) ?_
  refine lv_istore_n (lv' := [(3, .int (nI 0)), (2, .int (nI 0)), (0, .ref h), (1, .int (nI ix))]) hx hb dX3_countMovedSince_3 rfl hl (by decide) rfl (fun ls hl => ?_)
  have hs0 := hsc ix
  refine W_loop (σ := Nat) (fun j => sc ix - j) (fun j H locs ls => H = s.heap ∧ locs = [] ∧ j ≤ sc ix ∧ lv_has ls 4 [(3, .int (nI j)), (2, .int (nI (mvd (K ix) last j))), (0, .ref h), (1, .int (nI ix))]) ?_ 0 _ _ _ ⟨rfl, rfl, Nat.zero_le _, hl⟩
  rintro j _ _ ls ⟨rfl, rfl, hj, hl⟩ ih
  have hm := mvd_le (K ix) last j
  refine lv_iload_n hx hb dX3_countMovedSince_4 rfl (lv_at hl 0 rfl) ?_
  refine lv_aload_n hx hb dX3_countMovedSince_5 rfl (lv_at hl 2 rfl) ?_
  refine va_get (D := D) (ci := 4) (v := .ref a2) (C := RX3) (T := TX3) (N := 5) hx hb hts i_X3_countMovedSince_X3 hown hK hP 1 rfl rfl 3 (by decide) (hts (.fieldLink RX3 20 "MemoryMap$Placements" "sectionCounts" "[I") (List.mem_of_getElem? (i := 1) rfl)) (fun _ h9 => h9) rfl dX3_countMovedSince_6 ?_
  refine lv_iload_n hx hb dX3_countMovedSince_9 rfl (lv_at hl 3 rfl) ?_
  refine r_iald hx hb hK hP 4 0 rfl rfl (i := ix) (by omega) (by omega) dX3_countMovedSince_10 ?_
  have hb_0 := hsc ix
  refine r_icmp_ge (x := j) (y := (sc ix)) (tgt := 40) hx hb (by omega) (by omega) dX3_countMovedSince_11 (by decide) (fun c1 => ?_) (fun c1 => ?_)
  · refine lv_iload_n hx hb dX3_countMovedSince_40 rfl (lv_at hl 1 rfl) ?_
    have e : j = sc ix := by omega
    exact ret_Qi hx hb hr hlk (by rw [e]) dX3_countMovedSince_41
  · refine lv_aload_n hx hb dX3_countMovedSince_14 rfl (lv_at hl 2 rfl) ?_
    refine va_get (D := D) (ci := 4) (v := .ref a1) (C := RX3) (T := TX3) (N := 5) hx hb hts i_X3_countMovedSince_X3 hown hK hP 1 rfl rfl 2 (by decide) (hts (.fieldLink RX3 17 "MemoryMap$Placements" "kept" "[[I") (List.mem_of_getElem? (i := 2) rfl)) (fun _ h9 => h9) rfl dX3_countMovedSince_15 ?_
    refine lv_iload_n hx hb dX3_countMovedSince_18 rfl (lv_at hl 3 rfl) ?_
    refine r_aldA hx hb hK hP 3 5 rfl rfl rfl hix (by decide) dX3_countMovedSince_19 ?_
    rw [rowQ_at hix]
    refine lv_iload_n hx hb dX3_countMovedSince_20 rfl (lv_at hl 0 rfl) ?_
    refine r_iald hx hb hK hP 0 0 rfl rfl (i := j) (by omega) (by omega) dX3_countMovedSince_21 ?_
    have hb_1 := hKb ix j
    refine lv_aload_n hx hb dX3_countMovedSince_22 rfl (lv_at hl 2 rfl) ?_
    refine va_get (D := D) (ci := 4) (v := .ref a0) (C := RX3) (T := TX3) (N := 5) hx hb hts i_X3_countMovedSince_X3 hown hK hP 1 rfl rfl 0 (by decide) (hts (.fieldLink RX3 9 "MemoryMap$Placements" "last" "[I") (List.mem_of_getElem? (i := 3) rfl)) (fun _ h9 => h9) rfl dX3_countMovedSince_23 ?_
    refine lv_iload_n hx hb dX3_countMovedSince_26 rfl (lv_at hl 0 rfl) ?_
    refine r_iald hx hb hK hP 2 0 rfl rfl (i := j) (by omega) (by omega) dX3_countMovedSince_27 ?_
    have hb_2 := hla j
    refine r_icmp_eq (x := ((K ix) j)) (y := (last j)) (tgt := 34) hx hb (by omega) (by omega) dX3_countMovedSince_28 (by decide) (fun c2 => ?_) (fun c2 => ?_)
    · refine lv_iinc (v := (nI (j + 1))) (lv' := [(3, .int (nI (j + 1))), (2, .int (nI (mvd (K ix) last j))), (0, .ref h), (1, .int (nI ix))]) hx hb dX3_countMovedSince_34 hl (k := 0) rfl (r_inc1 _) (by decide) rfl (fun ls hl => ?_)
      refine lv_goto (tgt := 4) hx hb dX3_countMovedSince_37 (by decide) ?_
      have e : mvd (K ix) last (j + 1) = mvd (K ix) last j := by show _ + (if _ then _ else _) = _; rw [if_pos c2]; rfl
      exact ih (j + 1) _ _ _ ⟨rfl, rfl, by omega, by rw [e]; exact lv_sub hl [0, 1, 2, 3] rfl⟩ (by omega)
    · refine lv_iinc (v := (nI ((mvd (K ix) last j) + 1))) (lv' := [(2, .int (nI ((mvd (K ix) last j) + 1))), (3, .int (nI j)), (0, .ref h), (1, .int (nI ix))]) hx hb dX3_countMovedSince_31 hl (k := 1) rfl (r_inc1 _) (by decide) rfl (fun ls hl => ?_)
      refine lv_iinc (v := (nI (j + 1))) (lv' := [(3, .int (nI (j + 1))), (2, .int (nI ((mvd (K ix) last j) + 1))), (0, .ref h), (1, .int (nI ix))]) hx hb dX3_countMovedSince_34 hl (k := 1) rfl (r_inc1 _) (by decide) rfl (fun ls hl => ?_)
      refine lv_goto (tgt := 4) hx hb dX3_countMovedSince_37 (by decide) ?_
      have e : mvd (K ix) last (j + 1) = mvd (K ix) last j + 1 := by show _ + (if _ then _ else _) = _; rw [if_neg c2]
      exact ih (j + 1) _ _ _ ⟨rfl, rfl, by omega, by rw [e]; exact lv_sub hl [0, 1, 2, 3] rfl⟩ (by omega)
end
section
/-- a block: its address and length, its two copies: address, octets' address, octets, sum -/
abbrev BT : Type := Nat × Nat × (Nat × Nat × (Nat → Int32) × Int32) × (Nat × Nat × (Nat → Int32) × Int32)
def blkC (t : Nat → ClassId) (x : BT) : va_W := [(x.1, .inr (1, [.int (nI x.2.1), .ref x.2.2.1.1, .ref x.2.2.2.1])), (x.2.2.1.1, .inr (2, [.ref x.2.2.1.2.1, .int x.2.2.1.2.2.2])), (x.2.2.1.2.1, .inl (t 1, x.2.1, .inl x.2.2.1.2.2.1)), (x.2.2.2.1, .inr (2, [.ref x.2.2.2.2.1, .int x.2.2.2.2.2.2])), (x.2.2.2.2.1, .inl (t 1, x.2.1, .inl x.2.2.2.2.2.1))]
def blkF (t : Nat → ClassId) (B : Nat → BT) (i : Nat) : va_W := blkC t (B i)
def blkQ (B : Nat → BT) (n : Nat) : Nat → Option Nat := fun i => if i < n then some (B i).1 else none
theorem blkF_up {t : Nat → ClassId} {B : Nat → BT} {k n : Nat} {x : BT} (h : k < n) : seg (blkF t B) k ++ (blkC t x ++ seg (fun i => blkF t B (k + 1 + i)) (n - k - 1)) = seg (blkF t (va_up B k x)) n := by
  rw [seg_up h]
  refine seg_congr n (fun i _ => ?_)
  by_cases e : i = k
  · subst e
    unfold blkF
    rw [va_up_self, va_up_self]
  · rw [va_up_ne _ _ e]
    unfold blkF
    rw [va_up_ne _ _ e]
theorem re_assoc (a b c d : va_W) : a ++ (b ++ (c ++ d)) = (a ++ (b ++ c)) ++ d := by simp only [List.append_assoc]
theorem i_X7_at_X3 : ∀ w ∈ wsX30, w ∈ wsX7_at := by decide +kernel
theorem i_X7_at_X5 : ∀ w ∈ wsX50, w ∈ wsX7_at := by decide +kernel
theorem i_X7_at_X7 : ∀ w ∈ wsX70, w ∈ wsX7_at := by decide +kernel
abbrev rm_X7_at : Room := { frames := 1, cells := 0, slots := 0, locals := 25 }
set_option maxHeartbeats 4000000 in
set_option maxRecDepth 100000 in
theorem c_X7_at (l : Launch) (D : va_G) (t : Nat → ClassId) (ad : Nat → Nat) (sz nr : Nat) (rs re rr : Nat → Nat) (ns : Nat) (sl sa sk gf : Nat → Nat) (nt : Nat) (ts te : Nat → Nat) (stk cm dp : Nat → Nat) (nb : Nat) (B : Nat → BT) (lc kc : Nat) (last sc r : Nat → Nat) (K : Nat → Nat → Nat) (tr : Nat → Nat) (x : Int32) (hns : ns ≤ 40) (hlc : lc ≤ 40) (hla : ∀ i, last i ≤ 65536) : Ql l yX7_at wsX7_at rm_X7_at D (TY t) [.ref (ad 0), .int x] ([((ad 0), .inr (8, [.int (nI sz), .ref (ad 1), .ref (ad 5), .ref (ad 10), .ref (ad 13), .ref (ad 19), .ref (ad 14), .ref (ad 18), .int (nI nb)])), ((ad 1), .inr (5, [.ref (ad 2), .ref (ad 3), .ref (ad 4), .int (nI nr)])), ((ad 2), .inl (t 0, 16, .inl (nF rs))), ((ad 3), .inl (t 0, 16, .inl (nF re))), ((ad 4), .inl (t 0, 16, .inl (nF rr))), ((ad 5), .inr (6, [.ref (ad 6), .ref (ad 7), .ref (ad 8), .ref (ad 9), .int (nI ns)])), ((ad 6), .inl (t 0, 40, .inl (nF sl))), ((ad 7), .inl (t 0, 40, .inl (nF sa))), ((ad 8), .inl (t 0, 40, .inl (nF sk))), ((ad 9), .inl (t 0, 40, .inl (nF gf))), ((ad 10), .inr (7, [.ref (ad 11), .ref (ad 12), .int (nI nt)])), ((ad 11), .inl (t 0, 40, .inl (nF ts))), ((ad 12), .inl (t 0, 40, .inl (nF te))), ((ad 14), .inr (3, [.ref (ad 15), .ref (ad 16), .ref (ad 17)])), ((ad 15), .inl (t 0, 31, .inl (nF stk))), ((ad 16), .inl (t 0, 31, .inl (nF cm))), ((ad 17), .inl (t 0, 31, .inl (nF dp))), ((ad 18), .inl (t 4, 20, .inr (.inr (.inr (.inr (blkQ B nb)))))), ((ad 19), .inr (4, [.ref (ad 20), .int (nI lc), .ref (ad 21), .ref (ad 22), .int (nI kc)])), ((ad 20), .inl (t 0, 40, .inl (nF last))), ((ad 21), .inl (t 5, 50, .inr (.inr (.inr (.inr (rowQ r)))))), ((ad 22), .inl (t 0, 50, .inl (nF sc))), ((ad 13), .inl (t 0, 40, .inl (nF tr)))] ++ (seg (rowF t r K) 50 ++ seg (blkF t B) nb)) (fun z => ((∀ k, 1 ≤ k → k ≤ ns → x ≠ nI k) ∧ z = (-1)) ∨ ∃ k, k < ns ∧ x = nI (k + 1) ∧ ((lc ≤ k ∧ z = (-3)) ∨ (k < lc ∧ z = lN (last k)))) := by
  refine start_Ql cX7_at 2 (some .long) (by decide) rfl (Nat.le_of_ble_eq_true rfl) ?_
  intro p e s m below meth c ls B hP hD hl
  obtain ⟨hx, hb, hr, hts, hown, hlk, hml, hN, hK⟩ := B
  have hl : lv_has ls 2 [(0, .ref (ad 0)), (1, .int x)] := hl
  refine lv_iload_n hx hb dX7_at_0 rfl (lv_at hl 1 rfl) ?_
  refine lv_i2l hx hb dX7_at_1 rfl ?_
  refine lv_lconst (v := (lN (1))) hx hb dX7_at_2 (by decide) ?_
  refine lv_aload_n hx hb dX7_at_3 rfl (lv_at hl 0 rfl) ?_
  refine va_get (D := D) (ci := 8) (v := .ref (ad 5)) (C := RX7) (T := TX7) (N := 9) hx hb hts i_X7_at_X7 hown hK hP 0 rfl rfl 2 (by decide) (hts (.fieldLink RX7 19 "MemoryMap" "sections" "LMemoryMap$Sections;") (List.mem_of_getElem? (i := 1) rfl)) (fun _ h9 => h9) rfl dX7_at_4 ?_
  refine va_getN (host := "MemoryMap") (own := RX7) (D := D) (ci := 6) (v := .int (nI ns)) (C := RX5) (T := TX5) (N := 5) hx hb hts i_X7_at_X5 hown hK hP 5 rfl rfl 4 (by decide) (hN.f 7 rfl) (fun _ h9 => h9) rfl dX7_at_7 ?_
  refine lv_i2l (v := (lN (ns))) hx hb dX7_at_10 (nI_l (by omega)) ?_
  refine vp_callSi (va_Run.run (va_runS (As := [.long x.toInt64, .long (lN (1)), .long (lN (ns))]) (rest := []) ⟨hx, hb, hml, hown, hts⟩ (c_X7_isWithin l D t x.toInt64 (lN 1) (lN ns) _) (va_cwS 3 hts gX7_at_X7_isWithin rfl rfl rfl (by decide +kernel) ⟨Nat.le_of_ble_eq_true rfl, Nat.le_of_ble_eq_true rfl⟩) (preS hP hD hK hN [] rfl (by decide)) rfl rfl hl.1 rfl (lv_room (Nat.le_of_ble_eq_true rfl)) dX7_at_11 ⟨Nat.le_of_ble_eq_true rfl, Nat.le_of_ble_eq_true rfl⟩)) (fun r hw => ?_)
  rcases hw with ⟨rfl, h1, h2⟩ | ⟨rfl, h1⟩
  · obtain ⟨k1, q1, q2, rfl⟩ := rngI (by omega) (by omega) h1 h2
    obtain ⟨k, rfl⟩ : ∃ k, k1 = k + 1 := ⟨k1 - 1, by omega⟩
    have hl : lv_has ls 2 [(0, .ref (ad 0)), (1, .int (nI (k + 1)))] := hl
    refine r_if_ne (x := 1) (tgt := 21) hx hb (by omega) dX7_at_14 (by decide) (fun _ => ?_) (fun c => absurd c (by decide))
    refine lv_iload_n hx hb dX7_at_21 rfl (lv_at hl 1 rfl) ?_
    refine lv_aload_n hx hb dX7_at_22 rfl (lv_at hl 0 rfl) ?_
    refine va_get (D := D) (ci := 8) (v := .ref (ad 19)) (C := RX7) (T := TX7) (N := 9) hx hb hts i_X7_at_X7 hown hK hP 0 rfl rfl 5 (by decide) (hts (.fieldLink RX7 37 "MemoryMap" "placements" "LMemoryMap$Placements;") (List.mem_of_getElem? (i := 3) rfl)) (fun _ h9 => h9) rfl dX7_at_23 ?_
    refine va_getN (host := "MemoryMap") (own := RX7) (D := D) (ci := 4) (v := .int (nI lc)) (C := RX3) (T := TX3) (N := 5) hx hb hts i_X7_at_X3 hown hK hP 18 rfl rfl 1 (by decide) (hN.f 9 rfl) (fun _ h9 => h9) rfl dX7_at_26 ?_
    refine r_icmp_le (x := (k + 1)) (y := lc) (tgt := 36) hx hb (by omega) (by omega) dX7_at_29 (by decide) (fun c2 => ?_) (fun c2 => ?_)
    · refine lv_aload_n hx hb dX7_at_36 rfl (lv_at hl 0 rfl) ?_
      refine va_get (D := D) (ci := 8) (v := .ref (ad 19)) (C := RX7) (T := TX7) (N := 9) hx hb hts i_X7_at_X7 hown hK hP 0 rfl rfl 5 (by decide) (hts (.fieldLink RX7 37 "MemoryMap" "placements" "LMemoryMap$Placements;") (List.mem_of_getElem? (i := 3) rfl)) (fun _ h9 => h9) rfl dX7_at_37 ?_
      refine va_getN (host := "MemoryMap") (own := RX7) (D := D) (ci := 4) (v := .ref (ad 20)) (C := RX3) (T := TX3) (N := 5) hx hb hts i_X7_at_X3 hown hK hP 18 rfl rfl 0 (by decide) (hN.f 8 rfl) (fun _ h9 => h9) rfl dX7_at_40 ?_
      refine lv_iload_n hx hb dX7_at_43 rfl (lv_at hl 1 rfl) ?_
      refine lv_iconst (v := (nI 1)) hx hb dX7_at_44 (by decide) ?_
      refine r_isub (x := (k + 1)) (y := 1) hx hb (by omega) dX7_at_45 ?_
      have e1 : k + 1 - 1 = k := by omega
      rw [e1]
      refine r_iald hx hb hK hP 19 0 rfl rfl (i := k) (by omega) (by omega) dX7_at_46 ?_
      have hb_0 := hla k
      refine lv_i2l (v := (lN (last k))) hx hb dX7_at_47 (nI_l (by omega)) ?_
      exact ret_Ql hx hb hr hlk (Or.inr ⟨k, by omega, rfl, Or.inr ⟨by omega, rfl⟩⟩) dX7_at_48
    · refine lv_ldc2 (v := ((-3))) hx hb hown (hts (.constantLong RX7 103 (-3)) (List.mem_of_getElem? (i := 4) rfl)) dX7_at_32 ?_
      exact ret_Ql hx hb hr hlk (Or.inr ⟨k, by omega, rfl, Or.inl ⟨by omega, rfl⟩⟩) dX7_at_35
  · refine r_if_ne (x := 0) (tgt := 21) hx hb (by omega) dX7_at_14 (by decide) (fun c => absurd c (by decide)) (fun _ => ?_)
    refine lv_ldc2 (v := ((-1))) hx hb hown (hts (.constantLong RX7 98 (-1)) (List.mem_of_getElem? (i := 2) rfl)) dX7_at_17 ?_
    have h2 := rngI' (by omega) (by omega) h1
    exact ret_Ql hx hb hr hlk (Or.inl ⟨h2, rfl⟩) dX7_at_20

theorem i_X7_moved_X3 : ∀ w ∈ wsX30, w ∈ wsX7_moved := by decide +kernel
theorem i_X7_moved_X7 : ∀ w ∈ wsX70, w ∈ wsX7_moved := by decide +kernel
abbrev rm_X7_moved : Room := { frames := 1, cells := 0, slots := 0, locals := 25 }
set_option maxHeartbeats 4000000 in
set_option maxRecDepth 100000 in
theorem c_X7_moved (l : Launch) (D : va_G) (t : Nat → ClassId) (ad : Nat → Nat) (sz nr : Nat) (rs re rr : Nat → Nat) (ns : Nat) (sl sa sk gf : Nat → Nat) (nt : Nat) (ts te : Nat → Nat) (stk cm dp : Nat → Nat) (nb : Nat) (B : Nat → BT) (lc kc : Nat) (last sc r : Nat → Nat) (K : Nat → Nat → Nat) (tr : Nat → Nat) (x : Int32) (hkc : kc ≤ 50) (hsc : ∀ i, sc i ≤ 40) (hKb : ∀ i j, K i j ≤ 65536) (hla : ∀ i, last i ≤ 65536) : Qi l yX7_moved wsX7_moved rm_X7_moved D (TY t) [.ref (ad 0), .int x] ([((ad 0), .inr (8, [.int (nI sz), .ref (ad 1), .ref (ad 5), .ref (ad 10), .ref (ad 13), .ref (ad 19), .ref (ad 14), .ref (ad 18), .int (nI nb)])), ((ad 1), .inr (5, [.ref (ad 2), .ref (ad 3), .ref (ad 4), .int (nI nr)])), ((ad 2), .inl (t 0, 16, .inl (nF rs))), ((ad 3), .inl (t 0, 16, .inl (nF re))), ((ad 4), .inl (t 0, 16, .inl (nF rr))), ((ad 5), .inr (6, [.ref (ad 6), .ref (ad 7), .ref (ad 8), .ref (ad 9), .int (nI ns)])), ((ad 6), .inl (t 0, 40, .inl (nF sl))), ((ad 7), .inl (t 0, 40, .inl (nF sa))), ((ad 8), .inl (t 0, 40, .inl (nF sk))), ((ad 9), .inl (t 0, 40, .inl (nF gf))), ((ad 10), .inr (7, [.ref (ad 11), .ref (ad 12), .int (nI nt)])), ((ad 11), .inl (t 0, 40, .inl (nF ts))), ((ad 12), .inl (t 0, 40, .inl (nF te))), ((ad 14), .inr (3, [.ref (ad 15), .ref (ad 16), .ref (ad 17)])), ((ad 15), .inl (t 0, 31, .inl (nF stk))), ((ad 16), .inl (t 0, 31, .inl (nF cm))), ((ad 17), .inl (t 0, 31, .inl (nF dp))), ((ad 18), .inl (t 4, 20, .inr (.inr (.inr (.inr (blkQ B nb)))))), ((ad 19), .inr (4, [.ref (ad 20), .int (nI lc), .ref (ad 21), .ref (ad 22), .int (nI kc)])), ((ad 20), .inl (t 0, 40, .inl (nF last))), ((ad 21), .inl (t 5, 50, .inr (.inr (.inr (.inr (rowQ r)))))), ((ad 22), .inl (t 0, 50, .inl (nF sc))), ((ad 13), .inl (t 0, 40, .inl (nF tr)))] ++ (seg (rowF t r K) 50 ++ seg (blkF t B) nb)) (fun z => ((∀ k, 1 ≤ k → k ≤ kc → x ≠ nI k) ∧ z = (-1)) ∨ ∃ k, k < kc ∧ x = nI (k + 1) ∧ z = nI (mvd (K k) last (sc k))) := by
  refine start_Qi cX7_moved 2 (some .int) (by decide) rfl (Nat.le_of_ble_eq_true rfl) ?_
  intro p e s m below meth c ls B hP hD hl
  obtain ⟨hx, hb, hr, hts, hown, hlk, hml, hN, hK⟩ := B
  have hl : lv_has ls 2 [(0, .ref (ad 0)), (1, .int x)] := hl
  refine lv_iload_n hx hb dX7_moved_0 rfl (lv_at hl 1 rfl) ?_
  refine lv_i2l hx hb dX7_moved_1 rfl ?_
  refine lv_lconst (v := (lN (1))) hx hb dX7_moved_2 (by decide) ?_
  refine lv_aload_n hx hb dX7_moved_3 rfl (lv_at hl 0 rfl) ?_
  refine va_get (D := D) (ci := 8) (v := .ref (ad 19)) (C := RX7) (T := TX7) (N := 9) hx hb hts i_X7_moved_X7 hown hK hP 0 rfl rfl 5 (by decide) (hts (.fieldLink RX7 37 "MemoryMap" "placements" "LMemoryMap$Placements;") (List.mem_of_getElem? (i := 1) rfl)) (fun _ h9 => h9) rfl dX7_moved_4 ?_
  refine va_getN (host := "MemoryMap") (own := RX7) (D := D) (ci := 4) (v := .int (nI kc)) (C := RX3) (T := TX3) (N := 5) hx hb hts i_X7_moved_X3 hown hK hP 18 rfl rfl 4 (by decide) (hN.f 10 rfl) (fun _ h9 => h9) rfl dX7_moved_7 ?_
  refine lv_i2l (v := (lN (kc))) hx hb dX7_moved_10 (nI_l (by omega)) ?_
  refine vp_callSi (va_Run.run (va_runS (As := [.long x.toInt64, .long (lN (1)), .long (lN (kc))]) (rest := []) ⟨hx, hb, hml, hown, hts⟩ (c_X7_isWithin l D t x.toInt64 (lN 1) (lN kc) _) (va_cwS 3 hts gX7_moved_X7_isWithin rfl rfl rfl (by decide +kernel) ⟨Nat.le_of_ble_eq_true rfl, Nat.le_of_ble_eq_true rfl⟩) (preS hP hD hK hN [] rfl (by decide)) rfl rfl hl.1 rfl (lv_room (Nat.le_of_ble_eq_true rfl)) dX7_moved_11 ⟨Nat.le_of_ble_eq_true rfl, Nat.le_of_ble_eq_true rfl⟩)) (fun r hw => ?_)
  rcases hw with ⟨rfl, h1, h2⟩ | ⟨rfl, h1⟩
  · obtain ⟨k1, q1, q2, rfl⟩ := rngI (by omega) (by omega) h1 h2
    obtain ⟨k, rfl⟩ : ∃ k, k1 = k + 1 := ⟨k1 - 1, by omega⟩
    have hl : lv_has ls 2 [(0, .ref (ad 0)), (1, .int (nI (k + 1)))] := hl
    refine r_if_ne (x := 1) (tgt := 19) hx hb (by omega) dX7_moved_14 (by decide) (fun _ => ?_) (fun c => absurd c (by decide))
    refine lv_aload_n hx hb dX7_moved_19 rfl (lv_at hl 0 rfl) ?_
    refine va_get (D := D) (ci := 8) (v := .ref (ad 19)) (C := RX7) (T := TX7) (N := 9) hx hb hts i_X7_moved_X7 hown hK hP 0 rfl rfl 5 (by decide) (hts (.fieldLink RX7 37 "MemoryMap" "placements" "LMemoryMap$Placements;") (List.mem_of_getElem? (i := 1) rfl)) (fun _ h9 => h9) rfl dX7_moved_20 ?_
    refine lv_iload_n hx hb dX7_moved_23 rfl (lv_at hl 1 rfl) ?_
    refine lv_iconst (v := (nI 1)) hx hb dX7_moved_24 (by decide) ?_
    refine r_isub (x := (k + 1)) (y := 1) hx hb (by omega) dX7_moved_25 ?_
    have e1 : k + 1 - 1 = k := by omega
    rw [e1]
    refine vp_callSi (va_Run.run (va_runVN (As := [.int (nI k)]) (rest := []) ⟨hx, hb, hml, hown, hts⟩ (c_X3_countMovedSince l D t (ad 19) (ad 20) (ad 21) (ad 22) lc kc last sc r K (ad 13) tr k (by omega) hsc hKb hla _) (⟨va_cnB 1 hts ggX7_moved_X3_countMovedSince rfl rfl rfl (hN.m 25 rfl) (hts (.initialized RX3) (List.mem_of_getElem? (i := 7) rfl)) (by decide +kernel) ⟨Nat.le_of_ble_eq_true rfl, Nat.le_of_ble_eq_true rfl⟩, (hts (.instanceMethod yX3_countMovedSince) (List.mem_of_getElem? (i := 6) rfl)), (hts (.selects RX3 yX3_countMovedSince yX3_countMovedSince) (List.mem_of_getElem? (i := 8) rfl))⟩) (preVp (wc := ([((ad 19), .inr (4, [.ref (ad 20), .int (nI lc), .ref (ad 21), .ref (ad 22), .int (nI kc)])), ((ad 20), .inl (t 0, 40, .inl (nF last))), ((ad 21), .inl (t 5, 50, .inr (.inr (.inr (.inr (rowQ r)))))), ((ad 22), .inl (t 0, 50, .inl (nF sc))), ((ad 13), .inl (t 0, 40, .inl (nF tr)))] ++ seg (rowF t r K) 50)) [((ad 0), .inr (8, [.int (nI sz), .ref (ad 1), .ref (ad 5), .ref (ad 10), .ref (ad 13), .ref (ad 19), .ref (ad 14), .ref (ad 18), .int (nI nb)])), ((ad 1), .inr (5, [.ref (ad 2), .ref (ad 3), .ref (ad 4), .int (nI nr)])), ((ad 2), .inl (t 0, 16, .inl (nF rs))), ((ad 3), .inl (t 0, 16, .inl (nF re))), ((ad 4), .inl (t 0, 16, .inl (nF rr))), ((ad 5), .inr (6, [.ref (ad 6), .ref (ad 7), .ref (ad 8), .ref (ad 9), .int (nI ns)])), ((ad 6), .inl (t 0, 40, .inl (nF sl))), ((ad 7), .inl (t 0, 40, .inl (nF sa))), ((ad 8), .inl (t 0, 40, .inl (nF sk))), ((ad 9), .inl (t 0, 40, .inl (nF gf))), ((ad 10), .inr (7, [.ref (ad 11), .ref (ad 12), .int (nI nt)])), ((ad 11), .inl (t 0, 40, .inl (nF ts))), ((ad 12), .inl (t 0, 40, .inl (nF te))), ((ad 14), .inr (3, [.ref (ad 15), .ref (ad 16), .ref (ad 17)])), ((ad 15), .inl (t 0, 31, .inl (nF stk))), ((ad 16), .inl (t 0, 31, .inl (nF cm))), ((ad 17), .inl (t 0, 31, .inl (nF dp))), ((ad 18), .inl (t 4, 20, .inr (.inr (.inr (.inr (blkQ B nb))))))] (seg (blkF t B) nb) hP hD hK hN 4 0 rfl rfl rfl) rfl rfl hl.1 rfl (lv_room (Nat.le_of_ble_eq_true rfl)) dX7_moved_26 ⟨Nat.le_of_ble_eq_true rfl, Nat.le_of_ble_eq_true rfl⟩)) (fun r hw => ?_)
    exact ret_Qi hx hb hr hlk (Or.inr ⟨k, by omega, rfl, hw⟩) dX7_moved_29
  · refine r_if_ne (x := 0) (tgt := 19) hx hb (by omega) dX7_moved_14 (by decide) (fun c => absurd c (by decide)) (fun _ => ?_)
    refine lv_iconst (v := ((-1))) hx hb dX7_moved_17 (by decide) ?_
    have h2 := rngI' (by omega) (by omega) h1
    exact ret_Qi hx hb hr hlk (Or.inl ⟨h2, rfl⟩) dX7_moved_18

theorem i_X7_depth_X7 : ∀ w ∈ wsX70, w ∈ wsX7_depth := by decide +kernel
abbrev rm_X7_depth : Room := { frames := 4, cells := 0, slots := 0, locals := 90 }
set_option maxHeartbeats 4000000 in
set_option maxRecDepth 100000 in
theorem c_X7_depth (l : Launch) (D : va_G) (t : Nat → ClassId) (ad : Nat → Nat) (sz nr : Nat) (rs re rr : Nat → Nat) (ns : Nat) (sl sa sk gf : Nat → Nat) (nt : Nat) (ts te : Nat → Nat) (stk cm dp : Nat → Nat) (nb : Nat) (B : Nat → BT) (lc kc : Nat) (last sc r : Nat → Nat) (K : Nat → Nat → Nat) (tr : Nat → Nat) (x : Int32) (hcm : ∀ k, cm k < 2147483648) (hdp : ∀ k, dp k ≤ 900000000) (hstk : ∀ k, stk k ≤ 1000000) : Ml l yX7_depth wsX7_depth rm_X7_depth D (TY t) [.ref (ad 0), .int x] ([((ad 0), .inr (8, [.int (nI sz), .ref (ad 1), .ref (ad 5), .ref (ad 10), .ref (ad 13), .ref (ad 19), .ref (ad 14), .ref (ad 18), .int (nI nb)])), ((ad 1), .inr (5, [.ref (ad 2), .ref (ad 3), .ref (ad 4), .int (nI nr)])), ((ad 2), .inl (t 0, 16, .inl (nF rs))), ((ad 3), .inl (t 0, 16, .inl (nF re))), ((ad 4), .inl (t 0, 16, .inl (nF rr))), ((ad 5), .inr (6, [.ref (ad 6), .ref (ad 7), .ref (ad 8), .ref (ad 9), .int (nI ns)])), ((ad 6), .inl (t 0, 40, .inl (nF sl))), ((ad 7), .inl (t 0, 40, .inl (nF sa))), ((ad 8), .inl (t 0, 40, .inl (nF sk))), ((ad 9), .inl (t 0, 40, .inl (nF gf))), ((ad 10), .inr (7, [.ref (ad 11), .ref (ad 12), .int (nI nt)])), ((ad 11), .inl (t 0, 40, .inl (nF ts))), ((ad 12), .inl (t 0, 40, .inl (nF te))), ((ad 14), .inr (3, [.ref (ad 15), .ref (ad 16), .ref (ad 17)])), ((ad 15), .inl (t 0, 31, .inl (nF stk))), ((ad 16), .inl (t 0, 31, .inl (nF cm))), ((ad 17), .inl (t 0, 31, .inl (nF dp))), ((ad 18), .inl (t 4, 20, .inr (.inr (.inr (.inr (blkQ B nb)))))), ((ad 19), .inr (4, [.ref (ad 20), .int (nI lc), .ref (ad 21), .ref (ad 22), .int (nI kc)])), ((ad 20), .inl (t 0, 40, .inl (nF last))), ((ad 21), .inl (t 5, 50, .inr (.inr (.inr (.inr (rowQ r)))))), ((ad 22), .inl (t 0, 50, .inl (nF sc))), ((ad 13), .inl (t 0, 40, .inl (nF tr)))] ++ (seg (rowF t r K) 50 ++ seg (blkF t B) nb)) (S := Nat → Nat) (fun z u => (∀ k, u k ≤ 900000000) ∧ (((∀ k, 1 ≤ k → k ≤ 30 → x ≠ nI k) ∧ z = (-2)) ∨ ∃ k, 1 ≤ k ∧ k ≤ 30 ∧ x = nI k ∧ (((itr cm stk (0, dp) 30).1.testBit k = true ∧ z = lN ((itr cm stk (0, dp) 30).2 k)) ∨ ((itr cm stk (0, dp) 30).1.testBit k = false ∧ z = (-1))))) (fun u => ([((ad 0), .inr (8, [.int (nI sz), .ref (ad 1), .ref (ad 5), .ref (ad 10), .ref (ad 13), .ref (ad 19), .ref (ad 14), .ref (ad 18), .int (nI nb)])), ((ad 1), .inr (5, [.ref (ad 2), .ref (ad 3), .ref (ad 4), .int (nI nr)])), ((ad 2), .inl (t 0, 16, .inl (nF rs))), ((ad 3), .inl (t 0, 16, .inl (nF re))), ((ad 4), .inl (t 0, 16, .inl (nF rr))), ((ad 5), .inr (6, [.ref (ad 6), .ref (ad 7), .ref (ad 8), .ref (ad 9), .int (nI ns)])), ((ad 6), .inl (t 0, 40, .inl (nF sl))), ((ad 7), .inl (t 0, 40, .inl (nF sa))), ((ad 8), .inl (t 0, 40, .inl (nF sk))), ((ad 9), .inl (t 0, 40, .inl (nF gf))), ((ad 10), .inr (7, [.ref (ad 11), .ref (ad 12), .int (nI nt)])), ((ad 11), .inl (t 0, 40, .inl (nF ts))), ((ad 12), .inl (t 0, 40, .inl (nF te))), ((ad 14), .inr (3, [.ref (ad 15), .ref (ad 16), .ref (ad 17)])), ((ad 15), .inl (t 0, 31, .inl (nF stk))), ((ad 16), .inl (t 0, 31, .inl (nF cm))), ((ad 17), .inl (t 0, 31, .inl (nF u))), ((ad 18), .inl (t 4, 20, .inr (.inr (.inr (.inr (blkQ B nb)))))), ((ad 19), .inr (4, [.ref (ad 20), .int (nI lc), .ref (ad 21), .ref (ad 22), .int (nI kc)])), ((ad 20), .inl (t 0, 40, .inl (nF last))), ((ad 21), .inl (t 5, 50, .inr (.inr (.inr (.inr (rowQ r)))))), ((ad 22), .inl (t 0, 50, .inl (nF sc))), ((ad 13), .inl (t 0, 40, .inl (nF tr)))] ++ (seg (rowF t r K) 50 ++ seg (blkF t B) nb))) := by
  refine start_Ml cX7_depth 2 (some .long) (by decide) rfl (Nat.le_of_ble_eq_true rfl) ?_
  intro p e s m below meth c A ls B hin hP hD hS hA hl
  obtain ⟨hx, hb, hr, hts, hown, hlk, hml, hN, hK⟩ := B
  have hl : lv_has ls 2 [(0, .ref (ad 0)), (1, .int x)] := hl
  refine lv_iload_n hx hb dX7_depth_0 rfl (lv_at hl 1 rfl) ?_
  refine lv_i2l hx hb dX7_depth_1 rfl ?_
  refine lv_lconst (v := (lN (1))) hx hb dX7_depth_2 (by decide) ?_
  refine lv_ldc2 (v := (lN (30))) hx hb hown (hts (.constantLong RX7 108 (30)) (List.mem_of_getElem? (i := 1) rfl)) dX7_depth_3 ?_
  refine vp_callSi (va_Run.run (va_runS (As := [.long x.toInt64, .long (lN (1)), .long (lN (30))]) (rest := []) ⟨hx, hb, hml, hown, hts⟩ (c_X7_isWithin l D t x.toInt64 (lN 1) (lN 30) _) (va_cwS 3 hts gX7_depth_X7_isWithin rfl rfl rfl (by decide +kernel) ⟨Nat.le_of_ble_eq_true rfl, Nat.le_of_ble_eq_true rfl⟩) (preS hP hD hK hN [] rfl (by decide)) rfl rfl hl.1 rfl (lv_room (Nat.le_of_ble_eq_true rfl)) dX7_depth_6 ⟨Nat.le_of_ble_eq_true rfl, Nat.le_of_ble_eq_true rfl⟩)) (fun r hw => ?_)
  rcases hw with ⟨rfl, h1, h2⟩ | ⟨rfl, h1⟩
  · obtain ⟨k, q1, q2, rfl⟩ := rngI (by omega) (by omega) h1 h2
    have hl : lv_has ls 2 [(0, .ref (ad 0)), (1, .int (nI k))] := hl
    refine r_if_ne (x := 1) (tgt := 16) hx hb (by omega) dX7_depth_9 (by decide) (fun _ => ?_) (fun c => absurd c (by decide))
    refine lv_aload_n hx hb dX7_depth_16 rfl (lv_at hl 0 rfl) ?_
    refine va_get (D := D) (ci := 8) (v := .ref (ad 14)) (C := RX7) (T := TX7) (N := 9) hx hb hts i_X7_depth_X7 hown hK hP 0 rfl rfl 6 (by decide) (hts (.fieldLink RX7 44 "MemoryMap" "functions" "LMemoryMap$Functions;") (List.mem_of_getElem? (i := 3) rfl)) (fun _ h9 => h9) rfl dX7_depth_17 ?_
    refine lv_iload_n hx hb dX7_depth_20 rfl (lv_at hl 1 rfl) ?_
    refine call_Mip (wc := [((ad 14), .inr (3, [.ref (ad 15), .ref (ad 16), .ref (ad 17)])), ((ad 15), .inl (t 0, 31, .inl (nF stk))), ((ad 16), .inl (t 0, 31, .inl (nF cm))), ((ad 17), .inl (t 0, 31, .inl (nF dp)))]) (wc' := fun v : Nat → Nat => [((ad 14), .inr (3, [.ref (ad 15), .ref (ad 16), .ref (ad 17)])), ((ad 15), .inl (t 0, 31, .inl (nF stk))), ((ad 16), .inl (t 0, 31, .inl (nF cm))), ((ad 17), .inl (t 0, 31, .inl (nF v)))]) [((ad 0), .inr (8, [.int (nI sz), .ref (ad 1), .ref (ad 5), .ref (ad 10), .ref (ad 13), .ref (ad 19), .ref (ad 14), .ref (ad 18), .int (nI nb)])), ((ad 1), .inr (5, [.ref (ad 2), .ref (ad 3), .ref (ad 4), .int (nI nr)])), ((ad 2), .inl (t 0, 16, .inl (nF rs))), ((ad 3), .inl (t 0, 16, .inl (nF re))), ((ad 4), .inl (t 0, 16, .inl (nF rr))), ((ad 5), .inr (6, [.ref (ad 6), .ref (ad 7), .ref (ad 8), .ref (ad 9), .int (nI ns)])), ((ad 6), .inl (t 0, 40, .inl (nF sl))), ((ad 7), .inl (t 0, 40, .inl (nF sa))), ((ad 8), .inl (t 0, 40, .inl (nF sk))), ((ad 9), .inl (t 0, 40, .inl (nF gf))), ((ad 10), .inr (7, [.ref (ad 11), .ref (ad 12), .int (nI nt)])), ((ad 11), .inl (t 0, 40, .inl (nF ts))), ((ad 12), .inl (t 0, 40, .inl (nF te)))] ([((ad 18), .inl (t 4, 20, .inr (.inr (.inr (.inr (blkQ B nb)))))), ((ad 19), .inr (4, [.ref (ad 20), .int (nI lc), .ref (ad 21), .ref (ad 22), .int (nI kc)])), ((ad 20), .inl (t 0, 40, .inl (nF last))), ((ad 21), .inl (t 5, 50, .inr (.inr (.inr (.inr (rowQ r)))))), ((ad 22), .inl (t 0, 50, .inl (nF sc))), ((ad 13), .inl (t 0, 40, .inl (nF tr)))] ++ (seg (rowF t r K) 50 ++ seg (blkF t B) nb)) (va_runVN (As := [.int (nI k)]) (rest := []) ⟨hx, hb, hml, hown, hts⟩ (c_X2_depthFrom l D t (ad 14) (ad 15) (ad 16) (ad 17) stk cm dp k hcm hdp hstk q2 _) (⟨va_cnB 1 hts ggX7_depth_X2_depthFrom rfl rfl rfl (hN.m 14 rfl) (hts (.initialized RX2) (List.mem_of_getElem? (i := 9) rfl)) (by decide +kernel) ⟨Nat.le_of_ble_eq_true rfl, Nat.le_of_ble_eq_true rfl⟩, (hts (.instanceMethod yX2_depthFrom) (List.mem_of_getElem? (i := 8) rfl)), (hts (.selects RX2 yX2_depthFrom yX2_depthFrom) (List.mem_of_getElem? (i := 10) rfl))⟩) (preVp (wc := [((ad 14), .inr (3, [.ref (ad 15), .ref (ad 16), .ref (ad 17)])), ((ad 15), .inl (t 0, 31, .inl (nF stk))), ((ad 16), .inl (t 0, 31, .inl (nF cm))), ((ad 17), .inl (t 0, 31, .inl (nF dp)))]) [((ad 0), .inr (8, [.int (nI sz), .ref (ad 1), .ref (ad 5), .ref (ad 10), .ref (ad 13), .ref (ad 19), .ref (ad 14), .ref (ad 18), .int (nI nb)])), ((ad 1), .inr (5, [.ref (ad 2), .ref (ad 3), .ref (ad 4), .int (nI nr)])), ((ad 2), .inl (t 0, 16, .inl (nF rs))), ((ad 3), .inl (t 0, 16, .inl (nF re))), ((ad 4), .inl (t 0, 16, .inl (nF rr))), ((ad 5), .inr (6, [.ref (ad 6), .ref (ad 7), .ref (ad 8), .ref (ad 9), .int (nI ns)])), ((ad 6), .inl (t 0, 40, .inl (nF sl))), ((ad 7), .inl (t 0, 40, .inl (nF sa))), ((ad 8), .inl (t 0, 40, .inl (nF sk))), ((ad 9), .inl (t 0, 40, .inl (nF gf))), ((ad 10), .inr (7, [.ref (ad 11), .ref (ad 12), .int (nI nt)])), ((ad 11), .inl (t 0, 40, .inl (nF ts))), ((ad 12), .inl (t 0, 40, .inl (nF te)))] ([((ad 18), .inl (t 4, 20, .inr (.inr (.inr (.inr (blkQ B nb)))))), ((ad 19), .inr (4, [.ref (ad 20), .int (nI lc), .ref (ad 21), .ref (ad 22), .int (nI kc)])), ((ad 20), .inl (t 0, 40, .inl (nF last))), ((ad 21), .inl (t 5, 50, .inr (.inr (.inr (.inr (rowQ r)))))), ((ad 22), .inl (t 0, 50, .inl (nF sc))), ((ad 13), .inl (t 0, 40, .inl (nF tr)))] ++ (seg (rowF t r K) 50 ++ seg (blkF t B) nb)) hP hD hK hN 3 0 rfl rfl rfl) rfl rfl hl.1 rfl (lv_room (Nat.le_of_ble_eq_true rfl)) dX7_depth_21 ⟨Nat.le_of_ble_eq_true rfl, Nat.le_of_ble_eq_true rfl⟩) hP hD hS hA (fun z v H locs hw hP hD hS hz => ?_)
    have hP : va_P D vwCl ([((ad 0), .inr (8, [.int (nI sz), .ref (ad 1), .ref (ad 5), .ref (ad 10), .ref (ad 13), .ref (ad 19), .ref (ad 14), .ref (ad 18), .int (nI nb)])), ((ad 1), .inr (5, [.ref (ad 2), .ref (ad 3), .ref (ad 4), .int (nI nr)])), ((ad 2), .inl (t 0, 16, .inl (nF rs))), ((ad 3), .inl (t 0, 16, .inl (nF re))), ((ad 4), .inl (t 0, 16, .inl (nF rr))), ((ad 5), .inr (6, [.ref (ad 6), .ref (ad 7), .ref (ad 8), .ref (ad 9), .int (nI ns)])), ((ad 6), .inl (t 0, 40, .inl (nF sl))), ((ad 7), .inl (t 0, 40, .inl (nF sa))), ((ad 8), .inl (t 0, 40, .inl (nF sk))), ((ad 9), .inl (t 0, 40, .inl (nF gf))), ((ad 10), .inr (7, [.ref (ad 11), .ref (ad 12), .int (nI nt)])), ((ad 11), .inl (t 0, 40, .inl (nF ts))), ((ad 12), .inl (t 0, 40, .inl (nF te))), ((ad 14), .inr (3, [.ref (ad 15), .ref (ad 16), .ref (ad 17)])), ((ad 15), .inl (t 0, 31, .inl (nF stk))), ((ad 16), .inl (t 0, 31, .inl (nF cm))), ((ad 17), .inl (t 0, 31, .inl (nF v))), ((ad 18), .inl (t 4, 20, .inr (.inr (.inr (.inr (blkQ B nb)))))), ((ad 19), .inr (4, [.ref (ad 20), .int (nI lc), .ref (ad 21), .ref (ad 22), .int (nI kc)])), ((ad 20), .inl (t 0, 40, .inl (nF last))), ((ad 21), .inl (t 5, 50, .inr (.inr (.inr (.inr (rowQ r)))))), ((ad 22), .inl (t 0, 50, .inl (nF sc))), ((ad 13), .inl (t 0, 40, .inl (nF tr)))] ++ (seg (rowF t r K) 50 ++ seg (blkF t B) nb)) H := hP
    have hD : va_D A ([((ad 0), .inr (8, [.int (nI sz), .ref (ad 1), .ref (ad 5), .ref (ad 10), .ref (ad 13), .ref (ad 19), .ref (ad 14), .ref (ad 18), .int (nI nb)])), ((ad 1), .inr (5, [.ref (ad 2), .ref (ad 3), .ref (ad 4), .int (nI nr)])), ((ad 2), .inl (t 0, 16, .inl (nF rs))), ((ad 3), .inl (t 0, 16, .inl (nF re))), ((ad 4), .inl (t 0, 16, .inl (nF rr))), ((ad 5), .inr (6, [.ref (ad 6), .ref (ad 7), .ref (ad 8), .ref (ad 9), .int (nI ns)])), ((ad 6), .inl (t 0, 40, .inl (nF sl))), ((ad 7), .inl (t 0, 40, .inl (nF sa))), ((ad 8), .inl (t 0, 40, .inl (nF sk))), ((ad 9), .inl (t 0, 40, .inl (nF gf))), ((ad 10), .inr (7, [.ref (ad 11), .ref (ad 12), .int (nI nt)])), ((ad 11), .inl (t 0, 40, .inl (nF ts))), ((ad 12), .inl (t 0, 40, .inl (nF te))), ((ad 14), .inr (3, [.ref (ad 15), .ref (ad 16), .ref (ad 17)])), ((ad 15), .inl (t 0, 31, .inl (nF stk))), ((ad 16), .inl (t 0, 31, .inl (nF cm))), ((ad 17), .inl (t 0, 31, .inl (nF v))), ((ad 18), .inl (t 4, 20, .inr (.inr (.inr (.inr (blkQ B nb)))))), ((ad 19), .inr (4, [.ref (ad 20), .int (nI lc), .ref (ad 21), .ref (ad 22), .int (nI kc)])), ((ad 20), .inl (t 0, 40, .inl (nF last))), ((ad 21), .inl (t 5, 50, .inr (.inr (.inr (.inr (rowQ r)))))), ((ad 22), .inl (t 0, 50, .inl (nF sc))), ((ad 13), .inl (t 0, 40, .inl (nF tr)))] ++ (seg (rowF t r K) 50 ++ seg (blkF t B) nb)) := hD
    obtain ⟨hv, ⟨g1, rfl, g2⟩ | ⟨g1, rfl⟩⟩ := hw
    · refine lv_i2l (v := (lN ((itr cm stk (0, dp) 30).2 k))) hx hb dX7_depth_24 (nI_l (by omega)) ?_
      exact ret_Ml hx hb hr hlk (v) (⟨hv, Or.inr ⟨k, q1, q2, rfl, Or.inl ⟨g1, rfl⟩⟩⟩) hP hD hS (Nat.le_of_ble_eq_true rfl) (Nat.le_of_ble_eq_true rfl) dX7_depth_25
    · refine lv_i2l hx hb dX7_depth_24 rfl ?_
      exact ret_Ml hx hb hr hlk (v) (⟨hv, Or.inr ⟨k, q1, q2, rfl, Or.inr ⟨g1, by decide⟩⟩⟩) hP hD hS (Nat.le_of_ble_eq_true rfl) (Nat.le_of_ble_eq_true rfl) dX7_depth_25
  · refine r_if_ne (x := 0) (tgt := 16) hx hb (by omega) dX7_depth_9 (by decide) (fun c => absurd c (by decide)) (fun _ => ?_)
    refine lv_ldc2 (v := ((-2))) hx hb hown (hts (.constantLong RX7 122 (-2)) (List.mem_of_getElem? (i := 2) rfl)) dX7_depth_12 ?_
    have h2 := rngI' (by omega) (by omega) h1
    exact ret_Ml hx hb hr hlk (dp) (⟨hdp, Or.inl ⟨h2, rfl⟩⟩) hP hD hS (Nat.le_of_ble_eq_true rfl) (Nat.le_of_ble_eq_true rfl) dX7_depth_15

theorem i_X7_call_X2 : ∀ w ∈ wsX20, w ∈ wsX7_call := by decide +kernel
theorem i_X7_call_X7 : ∀ w ∈ wsX70, w ∈ wsX7_call := by decide +kernel
abbrev rm_X7_call : Room := { frames := 2, cells := 0, slots := 0, locals := 41 }
set_option maxHeartbeats 4000000 in
set_option maxRecDepth 100000 in
theorem c_X7_call (l : Launch) (D : va_G) (t : Nat → ClassId) (ad : Nat → Nat) (sz nr : Nat) (rs re rr : Nat → Nat) (ns : Nat) (sl sa sk gf : Nat → Nat) (nt : Nat) (ts te : Nat → Nat) (stk cm dp : Nat → Nat) (nb : Nat) (B : Nat → BT) (lc kc : Nat) (last sc r : Nat → Nat) (K : Nat → Nat → Nat) (tr : Nat → Nat) (x y : Int32) (z : Int64) (hcm : ∀ k, cm k < 2147483648) : Mi l yX7_call wsX7_call rm_X7_call D (TY t) [.ref (ad 0), .int x, .int y, .long z] ([((ad 0), .inr (8, [.int (nI sz), .ref (ad 1), .ref (ad 5), .ref (ad 10), .ref (ad 13), .ref (ad 19), .ref (ad 14), .ref (ad 18), .int (nI nb)])), ((ad 1), .inr (5, [.ref (ad 2), .ref (ad 3), .ref (ad 4), .int (nI nr)])), ((ad 2), .inl (t 0, 16, .inl (nF rs))), ((ad 3), .inl (t 0, 16, .inl (nF re))), ((ad 4), .inl (t 0, 16, .inl (nF rr))), ((ad 5), .inr (6, [.ref (ad 6), .ref (ad 7), .ref (ad 8), .ref (ad 9), .int (nI ns)])), ((ad 6), .inl (t 0, 40, .inl (nF sl))), ((ad 7), .inl (t 0, 40, .inl (nF sa))), ((ad 8), .inl (t 0, 40, .inl (nF sk))), ((ad 9), .inl (t 0, 40, .inl (nF gf))), ((ad 10), .inr (7, [.ref (ad 11), .ref (ad 12), .int (nI nt)])), ((ad 11), .inl (t 0, 40, .inl (nF ts))), ((ad 12), .inl (t 0, 40, .inl (nF te))), ((ad 14), .inr (3, [.ref (ad 15), .ref (ad 16), .ref (ad 17)])), ((ad 15), .inl (t 0, 31, .inl (nF stk))), ((ad 16), .inl (t 0, 31, .inl (nF cm))), ((ad 17), .inl (t 0, 31, .inl (nF dp))), ((ad 18), .inl (t 4, 20, .inr (.inr (.inr (.inr (blkQ B nb)))))), ((ad 19), .inr (4, [.ref (ad 20), .int (nI lc), .ref (ad 21), .ref (ad 22), .int (nI kc)])), ((ad 20), .inl (t 0, 40, .inl (nF last))), ((ad 21), .inl (t 5, 50, .inr (.inr (.inr (.inr (rowQ r)))))), ((ad 22), .inl (t 0, 50, .inl (nF sc))), ((ad 13), .inl (t 0, 40, .inl (nF tr)))] ++ (seg (rowF t r K) 50 ++ seg (blkF t B) nb)) (S := (Nat → Nat) × (Nat → Nat)) (fun v u => (((∀ k, 1 ≤ k → k ≤ 30 → x ≠ nI k) ∨ (∀ k, k ≤ 30 → y ≠ nI k)) ∧ v = (-1) ∧ u = (stk, cm)) ∨ ∃ f g, 1 ≤ f ∧ f ≤ 30 ∧ x = nI f ∧ g ≤ 30 ∧ y = nI g ∧ (((∀ k, k ≤ 1000000 → z ≠ lN k) ∧ v = (-2) ∧ u = (stk, cm)) ∨ ∃ k, k ≤ 1000000 ∧ z = lN k ∧ u = (va_up stk f k, if g = 0 then cm else va_up cm f (cm f ||| 2 ^ g)) ∧ v = nI (popc (u.2 f) 31))) (fun u => ([((ad 0), .inr (8, [.int (nI sz), .ref (ad 1), .ref (ad 5), .ref (ad 10), .ref (ad 13), .ref (ad 19), .ref (ad 14), .ref (ad 18), .int (nI nb)])), ((ad 1), .inr (5, [.ref (ad 2), .ref (ad 3), .ref (ad 4), .int (nI nr)])), ((ad 2), .inl (t 0, 16, .inl (nF rs))), ((ad 3), .inl (t 0, 16, .inl (nF re))), ((ad 4), .inl (t 0, 16, .inl (nF rr))), ((ad 5), .inr (6, [.ref (ad 6), .ref (ad 7), .ref (ad 8), .ref (ad 9), .int (nI ns)])), ((ad 6), .inl (t 0, 40, .inl (nF sl))), ((ad 7), .inl (t 0, 40, .inl (nF sa))), ((ad 8), .inl (t 0, 40, .inl (nF sk))), ((ad 9), .inl (t 0, 40, .inl (nF gf))), ((ad 10), .inr (7, [.ref (ad 11), .ref (ad 12), .int (nI nt)])), ((ad 11), .inl (t 0, 40, .inl (nF ts))), ((ad 12), .inl (t 0, 40, .inl (nF te))), ((ad 14), .inr (3, [.ref (ad 15), .ref (ad 16), .ref (ad 17)])), ((ad 15), .inl (t 0, 31, .inl (nF u.1))), ((ad 16), .inl (t 0, 31, .inl (nF u.2))), ((ad 17), .inl (t 0, 31, .inl (nF dp))), ((ad 18), .inl (t 4, 20, .inr (.inr (.inr (.inr (blkQ B nb)))))), ((ad 19), .inr (4, [.ref (ad 20), .int (nI lc), .ref (ad 21), .ref (ad 22), .int (nI kc)])), ((ad 20), .inl (t 0, 40, .inl (nF last))), ((ad 21), .inl (t 5, 50, .inr (.inr (.inr (.inr (rowQ r)))))), ((ad 22), .inl (t 0, 50, .inl (nF sc))), ((ad 13), .inl (t 0, 40, .inl (nF tr)))] ++ (seg (rowF t r K) 50 ++ seg (blkF t B) nb))) := by
  refine start_Mi cX7_call 5 (some .int) (by decide) rfl (Nat.le_of_ble_eq_true rfl) ?_
  intro p e s m below meth c A ls B hin hP hD hS hA hl
  obtain ⟨hx, hb, hr, hts, hown, hlk, hml, hN, hK⟩ := B
  have hl : lv_has ls 5 [(0, .ref (ad 0)), (1, .int x), (2, .int y), (3, .long z)] := hl
  refine lv_iload_n hx hb dX7_call_0 rfl (lv_at hl 1 rfl) ?_
  refine lv_i2l hx hb dX7_call_1 rfl ?_
  refine lv_lconst (v := (lN (1))) hx hb dX7_call_2 (by decide) ?_
  refine lv_ldc2 (v := (lN (30))) hx hb hown (hts (.constantLong RX7 108 (30)) (List.mem_of_getElem? (i := 1) rfl)) dX7_call_3 ?_
  refine vp_callSi (va_Run.run (va_runS (As := [.long x.toInt64, .long (lN (1)), .long (lN (30))]) (rest := []) ⟨hx, hb, hml, hown, hts⟩ (c_X7_isWithin l D t x.toInt64 (lN 1) (lN 30) _) (va_cwS 3 hts gX7_call_X7_isWithin rfl rfl rfl (by decide +kernel) ⟨Nat.le_of_ble_eq_true rfl, Nat.le_of_ble_eq_true rfl⟩) (preS hP hD hK hN [] rfl (by decide)) rfl rfl hl.1 rfl (lv_room (Nat.le_of_ble_eq_true rfl)) dX7_call_6 ⟨Nat.le_of_ble_eq_true rfl, Nat.le_of_ble_eq_true rfl⟩)) (fun r hw => ?_)
  rcases hw with ⟨rfl, h1, h2⟩ | ⟨rfl, h1⟩
  · obtain ⟨f, q1, q2, rfl⟩ := rngI (by omega) (by omega) h1 h2
    have hl : lv_has ls 5 [(0, .ref (ad 0)), (1, .int (nI f)), (2, .int y), (3, .long z)] := hl
    refine r_if_eq (x := 1) (tgt := 24) hx hb (by omega) dX7_call_9 (by decide) (fun c => absurd c (by decide)) (fun _ => ?_)
    refine lv_iload_n hx hb dX7_call_12 rfl (lv_at hl 2 rfl) ?_
    refine lv_i2l hx hb dX7_call_13 rfl ?_
    refine lv_lconst (v := (lN (0))) hx hb dX7_call_14 (by decide) ?_
    refine lv_ldc2 (v := (lN (30))) hx hb hown (hts (.constantLong RX7 108 (30)) (List.mem_of_getElem? (i := 1) rfl)) dX7_call_15 ?_
    refine vp_callSi (va_Run.run (va_runS (As := [.long y.toInt64, .long (lN (0)), .long (lN (30))]) (rest := []) ⟨hx, hb, hml, hown, hts⟩ (c_X7_isWithin l D t y.toInt64 (lN 0) (lN 30) _) (va_cwS 3 hts gX7_call_X7_isWithin rfl rfl rfl (by decide +kernel) ⟨Nat.le_of_ble_eq_true rfl, Nat.le_of_ble_eq_true rfl⟩) (preS hP hD hK hN [] rfl (by decide)) rfl rfl hl.1 rfl (lv_room (Nat.le_of_ble_eq_true rfl)) dX7_call_18 ⟨Nat.le_of_ble_eq_true rfl, Nat.le_of_ble_eq_true rfl⟩)) (fun r hw => ?_)
    rcases hw with ⟨rfl, h3, h4⟩ | ⟨rfl, h3⟩
    · obtain ⟨g, -, q4, rfl⟩ := rngI (by omega) (by omega) h3 h4
      have hl : lv_has ls 5 [(0, .ref (ad 0)), (1, .int (nI f)), (2, .int (nI g)), (3, .long z)] := hl
      refine r_if_ne (x := 1) (tgt := 26) hx hb (by omega) dX7_call_21 (by decide) (fun _ => ?_) (fun c => absurd c (by decide))
      refine lv_lload_n hx hb dX7_call_26 rfl (lv_at hl 3 rfl) ?_
      refine lv_lconst (v := (lN (0))) hx hb dX7_call_27 (by decide) ?_
      refine lv_ldc2 (v := (lN (1000000))) hx hb hown (hts (.constantLong RX7 110 (1000000)) (List.mem_of_getElem? (i := 2) rfl)) dX7_call_28 ?_
      refine vp_callSi (va_Run.run (va_runS (As := [.long z, .long (lN (0)), .long (lN (1000000))]) (rest := []) ⟨hx, hb, hml, hown, hts⟩ (c_X7_isWithin l D t z (lN 0) (lN 1000000) _) (va_cwS 3 hts gX7_call_X7_isWithin rfl rfl rfl (by decide +kernel) ⟨Nat.le_of_ble_eq_true rfl, Nat.le_of_ble_eq_true rfl⟩) (preS hP hD hK hN [] rfl (by decide)) rfl rfl hl.1 rfl (lv_room (Nat.le_of_ble_eq_true rfl)) dX7_call_31 ⟨Nat.le_of_ble_eq_true rfl, Nat.le_of_ble_eq_true rfl⟩)) (fun r hw => ?_)
      rcases hw with ⟨rfl, h5, h6⟩ | ⟨rfl, h5⟩
      · obtain ⟨k, -, q6, rfl⟩ := rngL (by omega) (by omega) h5 h6
        have hl : lv_has ls 5 [(0, .ref (ad 0)), (1, .int (nI f)), (2, .int (nI g)), (3, .long (lN (k)))] := hl
        refine r_if_ne (x := 1) (tgt := 40) hx hb (by omega) dX7_call_34 (by decide) (fun _ => ?_) (fun c => absurd c (by decide))
        refine lv_aload_n hx hb dX7_call_40 rfl (lv_at hl 0 rfl) ?_
        refine va_get (D := D) (ci := 8) (v := .ref (ad 14)) (C := RX7) (T := TX7) (N := 9) hx hb hts i_X7_call_X7 hown hK hP 0 rfl rfl 6 (by decide) (hts (.fieldLink RX7 44 "MemoryMap" "functions" "LMemoryMap$Functions;") (List.mem_of_getElem? (i := 3) rfl)) (fun _ h9 => h9) rfl dX7_call_41 ?_
        refine va_getN (host := "MemoryMap") (own := RX7) (D := D) (ci := 3) (v := .ref (ad 15)) (C := RX2) (T := TX2) (N := 3) hx hb hts i_X7_call_X2 hown hK hP 13 rfl rfl 0 (by decide) (hN.f 11 rfl) (fun _ h9 => h9) rfl dX7_call_44 ?_
        refine lv_iload_n hx hb dX7_call_47 rfl (lv_at hl 1 rfl) ?_
        refine lv_lload_n hx hb dX7_call_48 rfl (lv_at hl 3 rfl) ?_
        refine lv_l2i (v := (nI k)) hx hb dX7_call_49 (lN_i _) ?_
        refine r_iast hx hb hK hP hD hS 14 0 rfl rfl (i := f) (by omega) (by omega) dX7_call_50 (fun H locs hP hD hS => ?_)
        have hP : va_P D vwCl ([((ad 0), .inr (8, [.int (nI sz), .ref (ad 1), .ref (ad 5), .ref (ad 10), .ref (ad 13), .ref (ad 19), .ref (ad 14), .ref (ad 18), .int (nI nb)])), ((ad 1), .inr (5, [.ref (ad 2), .ref (ad 3), .ref (ad 4), .int (nI nr)])), ((ad 2), .inl (t 0, 16, .inl (nF rs))), ((ad 3), .inl (t 0, 16, .inl (nF re))), ((ad 4), .inl (t 0, 16, .inl (nF rr))), ((ad 5), .inr (6, [.ref (ad 6), .ref (ad 7), .ref (ad 8), .ref (ad 9), .int (nI ns)])), ((ad 6), .inl (t 0, 40, .inl (nF sl))), ((ad 7), .inl (t 0, 40, .inl (nF sa))), ((ad 8), .inl (t 0, 40, .inl (nF sk))), ((ad 9), .inl (t 0, 40, .inl (nF gf))), ((ad 10), .inr (7, [.ref (ad 11), .ref (ad 12), .int (nI nt)])), ((ad 11), .inl (t 0, 40, .inl (nF ts))), ((ad 12), .inl (t 0, 40, .inl (nF te))), ((ad 14), .inr (3, [.ref (ad 15), .ref (ad 16), .ref (ad 17)])), ((ad 15), .inl (t 0, 31, .inl (nF (va_up stk f k)))), ((ad 16), .inl (t 0, 31, .inl (nF cm))), ((ad 17), .inl (t 0, 31, .inl (nF dp))), ((ad 18), .inl (t 4, 20, .inr (.inr (.inr (.inr (blkQ B nb)))))), ((ad 19), .inr (4, [.ref (ad 20), .int (nI lc), .ref (ad 21), .ref (ad 22), .int (nI kc)])), ((ad 20), .inl (t 0, 40, .inl (nF last))), ((ad 21), .inl (t 5, 50, .inr (.inr (.inr (.inr (rowQ r)))))), ((ad 22), .inl (t 0, 50, .inl (nF sc))), ((ad 13), .inl (t 0, 40, .inl (nF tr)))] ++ (seg (rowF t r K) 50 ++ seg (blkF t B) nb)) H := hP
        have hD : va_D A ([((ad 0), .inr (8, [.int (nI sz), .ref (ad 1), .ref (ad 5), .ref (ad 10), .ref (ad 13), .ref (ad 19), .ref (ad 14), .ref (ad 18), .int (nI nb)])), ((ad 1), .inr (5, [.ref (ad 2), .ref (ad 3), .ref (ad 4), .int (nI nr)])), ((ad 2), .inl (t 0, 16, .inl (nF rs))), ((ad 3), .inl (t 0, 16, .inl (nF re))), ((ad 4), .inl (t 0, 16, .inl (nF rr))), ((ad 5), .inr (6, [.ref (ad 6), .ref (ad 7), .ref (ad 8), .ref (ad 9), .int (nI ns)])), ((ad 6), .inl (t 0, 40, .inl (nF sl))), ((ad 7), .inl (t 0, 40, .inl (nF sa))), ((ad 8), .inl (t 0, 40, .inl (nF sk))), ((ad 9), .inl (t 0, 40, .inl (nF gf))), ((ad 10), .inr (7, [.ref (ad 11), .ref (ad 12), .int (nI nt)])), ((ad 11), .inl (t 0, 40, .inl (nF ts))), ((ad 12), .inl (t 0, 40, .inl (nF te))), ((ad 14), .inr (3, [.ref (ad 15), .ref (ad 16), .ref (ad 17)])), ((ad 15), .inl (t 0, 31, .inl (nF (va_up stk f k)))), ((ad 16), .inl (t 0, 31, .inl (nF cm))), ((ad 17), .inl (t 0, 31, .inl (nF dp))), ((ad 18), .inl (t 4, 20, .inr (.inr (.inr (.inr (blkQ B nb)))))), ((ad 19), .inr (4, [.ref (ad 20), .int (nI lc), .ref (ad 21), .ref (ad 22), .int (nI kc)])), ((ad 20), .inl (t 0, 40, .inl (nF last))), ((ad 21), .inl (t 5, 50, .inr (.inr (.inr (.inr (rowQ r)))))), ((ad 22), .inl (t 0, 50, .inl (nF sc))), ((ad 13), .inl (t 0, 40, .inl (nF tr)))] ++ (seg (rowF t r K) 50 ++ seg (blkF t B) nb)) := hD
        refine lv_iload_n hx hb dX7_call_51 rfl (lv_at hl 2 rfl) ?_
        refine r_if_eq (x := g) (tgt := 64) hx hb (by omega) dX7_call_52 (by decide) (fun c1 => ?_) (fun c1 => ?_)
        · refine lv_aload_n hx hb dX7_call_64 rfl (lv_at hl 0 rfl) ?_
          refine va_get (D := D) (ci := 8) (v := .ref (ad 14)) (C := RX7) (T := TX7) (N := 9) hx hb hts i_X7_call_X7 hown hK hP 0 rfl rfl 6 (by decide) (hts (.fieldLink RX7 44 "MemoryMap" "functions" "LMemoryMap$Functions;") (List.mem_of_getElem? (i := 3) rfl)) (fun _ h9 => h9) rfl dX7_call_65 ?_
          refine lv_iload_n hx hb dX7_call_68 rfl (lv_at hl 1 rfl) ?_
          refine vp_callSi (va_Run.run (va_runVN (As := [.int (nI f)]) (rest := []) ⟨hx, hb, hml, hown, hts⟩ (c_X2_countCalls l D t (ad 14) (ad 15) (ad 16) (ad 17) (va_up stk f k) cm dp f hcm q2 _) (⟨va_cnB 1 hts ggX7_call_X2_countCalls rfl rfl rfl (hN.m 13 rfl) (hts (.initialized RX2) (List.mem_of_getElem? (i := 9) rfl)) (by decide +kernel) ⟨Nat.le_of_ble_eq_true rfl, Nat.le_of_ble_eq_true rfl⟩, (hts (.instanceMethod yX2_countCalls) (List.mem_of_getElem? (i := 13) rfl)), (hts (.selects RX2 yX2_countCalls yX2_countCalls) (List.mem_of_getElem? (i := 14) rfl))⟩) (preVp (wc := [((ad 14), .inr (3, [.ref (ad 15), .ref (ad 16), .ref (ad 17)])), ((ad 15), .inl (t 0, 31, .inl (nF (va_up stk f k)))), ((ad 16), .inl (t 0, 31, .inl (nF cm))), ((ad 17), .inl (t 0, 31, .inl (nF dp)))]) [((ad 0), .inr (8, [.int (nI sz), .ref (ad 1), .ref (ad 5), .ref (ad 10), .ref (ad 13), .ref (ad 19), .ref (ad 14), .ref (ad 18), .int (nI nb)])), ((ad 1), .inr (5, [.ref (ad 2), .ref (ad 3), .ref (ad 4), .int (nI nr)])), ((ad 2), .inl (t 0, 16, .inl (nF rs))), ((ad 3), .inl (t 0, 16, .inl (nF re))), ((ad 4), .inl (t 0, 16, .inl (nF rr))), ((ad 5), .inr (6, [.ref (ad 6), .ref (ad 7), .ref (ad 8), .ref (ad 9), .int (nI ns)])), ((ad 6), .inl (t 0, 40, .inl (nF sl))), ((ad 7), .inl (t 0, 40, .inl (nF sa))), ((ad 8), .inl (t 0, 40, .inl (nF sk))), ((ad 9), .inl (t 0, 40, .inl (nF gf))), ((ad 10), .inr (7, [.ref (ad 11), .ref (ad 12), .int (nI nt)])), ((ad 11), .inl (t 0, 40, .inl (nF ts))), ((ad 12), .inl (t 0, 40, .inl (nF te)))] ([((ad 18), .inl (t 4, 20, .inr (.inr (.inr (.inr (blkQ B nb)))))), ((ad 19), .inr (4, [.ref (ad 20), .int (nI lc), .ref (ad 21), .ref (ad 22), .int (nI kc)])), ((ad 20), .inl (t 0, 40, .inl (nF last))), ((ad 21), .inl (t 5, 50, .inr (.inr (.inr (.inr (rowQ r)))))), ((ad 22), .inl (t 0, 50, .inl (nF sc))), ((ad 13), .inl (t 0, 40, .inl (nF tr)))] ++ (seg (rowF t r K) 50 ++ seg (blkF t B) nb)) hP hD hK hN 3 0 rfl rfl rfl) rfl rfl hl.1 rfl (lv_room (Nat.le_of_ble_eq_true rfl)) dX7_call_69 ⟨Nat.le_of_ble_eq_true rfl, Nat.le_of_ble_eq_true rfl⟩)) (fun v hw => ?_)
          exact ret_Mi hx hb hr hlk ((va_up stk f k, cm)) (Or.inr ⟨f, g, q1, q2, rfl, q4, rfl, Or.inr ⟨k, q6, rfl, by rw [if_pos c1], hw⟩⟩) hP hD hS (Nat.le_of_ble_eq_true rfl) (Nat.le_of_ble_eq_true rfl) dX7_call_72
        · refine lv_aload_n hx hb dX7_call_55 rfl (lv_at hl 0 rfl) ?_
          refine va_get (D := D) (ci := 8) (v := .ref (ad 14)) (C := RX7) (T := TX7) (N := 9) hx hb hts i_X7_call_X7 hown hK hP 0 rfl rfl 6 (by decide) (hts (.fieldLink RX7 44 "MemoryMap" "functions" "LMemoryMap$Functions;") (List.mem_of_getElem? (i := 3) rfl)) (fun _ h9 => h9) rfl dX7_call_56 ?_
          refine lv_iload_n hx hb dX7_call_59 rfl (lv_at hl 1 rfl) ?_
          refine lv_iload_n hx hb dX7_call_60 rfl (lv_at hl 2 rfl) ?_
          refine call_Mvp (wc := [((ad 14), .inr (3, [.ref (ad 15), .ref (ad 16), .ref (ad 17)])), ((ad 15), .inl (t 0, 31, .inl (nF (va_up stk f k)))), ((ad 16), .inl (t 0, 31, .inl (nF cm))), ((ad 17), .inl (t 0, 31, .inl (nF dp)))]) (wc' := fun w : Unit => [((ad 14), .inr (3, [.ref (ad 15), .ref (ad 16), .ref (ad 17)])), ((ad 15), .inl (t 0, 31, .inl (nF (va_up stk f k)))), ((ad 16), .inl (t 0, 31, .inl (nF (va_up cm f (cm f ||| 2 ^ g))))), ((ad 17), .inl (t 0, 31, .inl (nF dp)))]) [((ad 0), .inr (8, [.int (nI sz), .ref (ad 1), .ref (ad 5), .ref (ad 10), .ref (ad 13), .ref (ad 19), .ref (ad 14), .ref (ad 18), .int (nI nb)])), ((ad 1), .inr (5, [.ref (ad 2), .ref (ad 3), .ref (ad 4), .int (nI nr)])), ((ad 2), .inl (t 0, 16, .inl (nF rs))), ((ad 3), .inl (t 0, 16, .inl (nF re))), ((ad 4), .inl (t 0, 16, .inl (nF rr))), ((ad 5), .inr (6, [.ref (ad 6), .ref (ad 7), .ref (ad 8), .ref (ad 9), .int (nI ns)])), ((ad 6), .inl (t 0, 40, .inl (nF sl))), ((ad 7), .inl (t 0, 40, .inl (nF sa))), ((ad 8), .inl (t 0, 40, .inl (nF sk))), ((ad 9), .inl (t 0, 40, .inl (nF gf))), ((ad 10), .inr (7, [.ref (ad 11), .ref (ad 12), .int (nI nt)])), ((ad 11), .inl (t 0, 40, .inl (nF ts))), ((ad 12), .inl (t 0, 40, .inl (nF te)))] ([((ad 18), .inl (t 4, 20, .inr (.inr (.inr (.inr (blkQ B nb)))))), ((ad 19), .inr (4, [.ref (ad 20), .int (nI lc), .ref (ad 21), .ref (ad 22), .int (nI kc)])), ((ad 20), .inl (t 0, 40, .inl (nF last))), ((ad 21), .inl (t 5, 50, .inr (.inr (.inr (.inr (rowQ r)))))), ((ad 22), .inl (t 0, 50, .inl (nF sc))), ((ad 13), .inl (t 0, 40, .inl (nF tr)))] ++ (seg (rowF t r K) 50 ++ seg (blkF t B) nb)) (va_runVN (As := [.int (nI f), .int (nI g)]) (rest := []) ⟨hx, hb, hml, hown, hts⟩ (c_X2_addCall l D t (ad 14) (ad 15) (ad 16) (ad 17) (va_up stk f k) cm dp f g q2 q4 _) (⟨va_cnB 2 hts ggX7_call_X2_addCall rfl rfl rfl (hN.m 12 rfl) (hts (.initialized RX2) (List.mem_of_getElem? (i := 9) rfl)) (by decide +kernel) ⟨Nat.le_of_ble_eq_true rfl, Nat.le_of_ble_eq_true rfl⟩, (hts (.instanceMethod yX2_addCall) (List.mem_of_getElem? (i := 8) rfl)), (hts (.selects RX2 yX2_addCall yX2_addCall) (List.mem_of_getElem? (i := 10) rfl))⟩) (preVp (wc := [((ad 14), .inr (3, [.ref (ad 15), .ref (ad 16), .ref (ad 17)])), ((ad 15), .inl (t 0, 31, .inl (nF (va_up stk f k)))), ((ad 16), .inl (t 0, 31, .inl (nF cm))), ((ad 17), .inl (t 0, 31, .inl (nF dp)))]) [((ad 0), .inr (8, [.int (nI sz), .ref (ad 1), .ref (ad 5), .ref (ad 10), .ref (ad 13), .ref (ad 19), .ref (ad 14), .ref (ad 18), .int (nI nb)])), ((ad 1), .inr (5, [.ref (ad 2), .ref (ad 3), .ref (ad 4), .int (nI nr)])), ((ad 2), .inl (t 0, 16, .inl (nF rs))), ((ad 3), .inl (t 0, 16, .inl (nF re))), ((ad 4), .inl (t 0, 16, .inl (nF rr))), ((ad 5), .inr (6, [.ref (ad 6), .ref (ad 7), .ref (ad 8), .ref (ad 9), .int (nI ns)])), ((ad 6), .inl (t 0, 40, .inl (nF sl))), ((ad 7), .inl (t 0, 40, .inl (nF sa))), ((ad 8), .inl (t 0, 40, .inl (nF sk))), ((ad 9), .inl (t 0, 40, .inl (nF gf))), ((ad 10), .inr (7, [.ref (ad 11), .ref (ad 12), .int (nI nt)])), ((ad 11), .inl (t 0, 40, .inl (nF ts))), ((ad 12), .inl (t 0, 40, .inl (nF te)))] ([((ad 18), .inl (t 4, 20, .inr (.inr (.inr (.inr (blkQ B nb)))))), ((ad 19), .inr (4, [.ref (ad 20), .int (nI lc), .ref (ad 21), .ref (ad 22), .int (nI kc)])), ((ad 20), .inl (t 0, 40, .inl (nF last))), ((ad 21), .inl (t 5, 50, .inr (.inr (.inr (.inr (rowQ r)))))), ((ad 22), .inl (t 0, 50, .inl (nF sc))), ((ad 13), .inl (t 0, 40, .inl (nF tr)))] ++ (seg (rowF t r K) 50 ++ seg (blkF t B) nb)) hP hD hK hN 3 0 rfl rfl rfl) rfl rfl hl.1 rfl (lv_room (Nat.le_of_ble_eq_true rfl)) dX7_call_61 ⟨Nat.le_of_ble_eq_true rfl, Nat.le_of_ble_eq_true rfl⟩) hP hD hS hA (fun w H locs hw hP hD hS hz => ?_)
          have hP : va_P D vwCl ([((ad 0), .inr (8, [.int (nI sz), .ref (ad 1), .ref (ad 5), .ref (ad 10), .ref (ad 13), .ref (ad 19), .ref (ad 14), .ref (ad 18), .int (nI nb)])), ((ad 1), .inr (5, [.ref (ad 2), .ref (ad 3), .ref (ad 4), .int (nI nr)])), ((ad 2), .inl (t 0, 16, .inl (nF rs))), ((ad 3), .inl (t 0, 16, .inl (nF re))), ((ad 4), .inl (t 0, 16, .inl (nF rr))), ((ad 5), .inr (6, [.ref (ad 6), .ref (ad 7), .ref (ad 8), .ref (ad 9), .int (nI ns)])), ((ad 6), .inl (t 0, 40, .inl (nF sl))), ((ad 7), .inl (t 0, 40, .inl (nF sa))), ((ad 8), .inl (t 0, 40, .inl (nF sk))), ((ad 9), .inl (t 0, 40, .inl (nF gf))), ((ad 10), .inr (7, [.ref (ad 11), .ref (ad 12), .int (nI nt)])), ((ad 11), .inl (t 0, 40, .inl (nF ts))), ((ad 12), .inl (t 0, 40, .inl (nF te))), ((ad 14), .inr (3, [.ref (ad 15), .ref (ad 16), .ref (ad 17)])), ((ad 15), .inl (t 0, 31, .inl (nF (va_up stk f k)))), ((ad 16), .inl (t 0, 31, .inl (nF (va_up cm f (cm f ||| 2 ^ g))))), ((ad 17), .inl (t 0, 31, .inl (nF dp))), ((ad 18), .inl (t 4, 20, .inr (.inr (.inr (.inr (blkQ B nb)))))), ((ad 19), .inr (4, [.ref (ad 20), .int (nI lc), .ref (ad 21), .ref (ad 22), .int (nI kc)])), ((ad 20), .inl (t 0, 40, .inl (nF last))), ((ad 21), .inl (t 5, 50, .inr (.inr (.inr (.inr (rowQ r)))))), ((ad 22), .inl (t 0, 50, .inl (nF sc))), ((ad 13), .inl (t 0, 40, .inl (nF tr)))] ++ (seg (rowF t r K) 50 ++ seg (blkF t B) nb)) H := hP
          have hD : va_D A ([((ad 0), .inr (8, [.int (nI sz), .ref (ad 1), .ref (ad 5), .ref (ad 10), .ref (ad 13), .ref (ad 19), .ref (ad 14), .ref (ad 18), .int (nI nb)])), ((ad 1), .inr (5, [.ref (ad 2), .ref (ad 3), .ref (ad 4), .int (nI nr)])), ((ad 2), .inl (t 0, 16, .inl (nF rs))), ((ad 3), .inl (t 0, 16, .inl (nF re))), ((ad 4), .inl (t 0, 16, .inl (nF rr))), ((ad 5), .inr (6, [.ref (ad 6), .ref (ad 7), .ref (ad 8), .ref (ad 9), .int (nI ns)])), ((ad 6), .inl (t 0, 40, .inl (nF sl))), ((ad 7), .inl (t 0, 40, .inl (nF sa))), ((ad 8), .inl (t 0, 40, .inl (nF sk))), ((ad 9), .inl (t 0, 40, .inl (nF gf))), ((ad 10), .inr (7, [.ref (ad 11), .ref (ad 12), .int (nI nt)])), ((ad 11), .inl (t 0, 40, .inl (nF ts))), ((ad 12), .inl (t 0, 40, .inl (nF te))), ((ad 14), .inr (3, [.ref (ad 15), .ref (ad 16), .ref (ad 17)])), ((ad 15), .inl (t 0, 31, .inl (nF (va_up stk f k)))), ((ad 16), .inl (t 0, 31, .inl (nF (va_up cm f (cm f ||| 2 ^ g))))), ((ad 17), .inl (t 0, 31, .inl (nF dp))), ((ad 18), .inl (t 4, 20, .inr (.inr (.inr (.inr (blkQ B nb)))))), ((ad 19), .inr (4, [.ref (ad 20), .int (nI lc), .ref (ad 21), .ref (ad 22), .int (nI kc)])), ((ad 20), .inl (t 0, 40, .inl (nF last))), ((ad 21), .inl (t 5, 50, .inr (.inr (.inr (.inr (rowQ r)))))), ((ad 22), .inl (t 0, 50, .inl (nF sc))), ((ad 13), .inl (t 0, 40, .inl (nF tr)))] ++ (seg (rowF t r K) 50 ++ seg (blkF t B) nb)) := hD
          have hcm2 : ∀ j, va_up cm f (cm f ||| 2 ^ g) j < 2147483648 := fun j => by
            rw [va_upc]
            split
            · exact Nat.or_lt_two_pow (n := 31) (hcm f) (Nat.pow_lt_pow_right (by decide) (by omega))
            · exact hcm j
          refine lv_aload_n hx hb dX7_call_64 rfl (lv_at hl 0 rfl) ?_
          refine va_get (D := D) (ci := 8) (v := .ref (ad 14)) (C := RX7) (T := TX7) (N := 9) hx hb hts i_X7_call_X7 hown hK hP 0 rfl rfl 6 (by decide) (hts (.fieldLink RX7 44 "MemoryMap" "functions" "LMemoryMap$Functions;") (List.mem_of_getElem? (i := 3) rfl)) (fun _ h9 => h9) rfl dX7_call_65 ?_
          refine lv_iload_n hx hb dX7_call_68 rfl (lv_at hl 1 rfl) ?_
          refine vp_callSi (va_Run.run (va_runVN (As := [.int (nI f)]) (rest := []) ⟨hx, hb, hml, hown, hts⟩ (c_X2_countCalls l D t (ad 14) (ad 15) (ad 16) (ad 17) (va_up stk f k) (va_up cm f (cm f ||| 2 ^ g)) dp f hcm2 q2 _) (⟨va_cnB 1 hts ggX7_call_X2_countCalls rfl rfl rfl (hN.m 13 rfl) (hts (.initialized RX2) (List.mem_of_getElem? (i := 9) rfl)) (by decide +kernel) ⟨Nat.le_of_ble_eq_true rfl, Nat.le_of_ble_eq_true rfl⟩, (hts (.instanceMethod yX2_countCalls) (List.mem_of_getElem? (i := 13) rfl)), (hts (.selects RX2 yX2_countCalls yX2_countCalls) (List.mem_of_getElem? (i := 14) rfl))⟩) (preVp (wc := [((ad 14), .inr (3, [.ref (ad 15), .ref (ad 16), .ref (ad 17)])), ((ad 15), .inl (t 0, 31, .inl (nF (va_up stk f k)))), ((ad 16), .inl (t 0, 31, .inl (nF (va_up cm f (cm f ||| 2 ^ g))))), ((ad 17), .inl (t 0, 31, .inl (nF dp)))]) [((ad 0), .inr (8, [.int (nI sz), .ref (ad 1), .ref (ad 5), .ref (ad 10), .ref (ad 13), .ref (ad 19), .ref (ad 14), .ref (ad 18), .int (nI nb)])), ((ad 1), .inr (5, [.ref (ad 2), .ref (ad 3), .ref (ad 4), .int (nI nr)])), ((ad 2), .inl (t 0, 16, .inl (nF rs))), ((ad 3), .inl (t 0, 16, .inl (nF re))), ((ad 4), .inl (t 0, 16, .inl (nF rr))), ((ad 5), .inr (6, [.ref (ad 6), .ref (ad 7), .ref (ad 8), .ref (ad 9), .int (nI ns)])), ((ad 6), .inl (t 0, 40, .inl (nF sl))), ((ad 7), .inl (t 0, 40, .inl (nF sa))), ((ad 8), .inl (t 0, 40, .inl (nF sk))), ((ad 9), .inl (t 0, 40, .inl (nF gf))), ((ad 10), .inr (7, [.ref (ad 11), .ref (ad 12), .int (nI nt)])), ((ad 11), .inl (t 0, 40, .inl (nF ts))), ((ad 12), .inl (t 0, 40, .inl (nF te)))] ([((ad 18), .inl (t 4, 20, .inr (.inr (.inr (.inr (blkQ B nb)))))), ((ad 19), .inr (4, [.ref (ad 20), .int (nI lc), .ref (ad 21), .ref (ad 22), .int (nI kc)])), ((ad 20), .inl (t 0, 40, .inl (nF last))), ((ad 21), .inl (t 5, 50, .inr (.inr (.inr (.inr (rowQ r)))))), ((ad 22), .inl (t 0, 50, .inl (nF sc))), ((ad 13), .inl (t 0, 40, .inl (nF tr)))] ++ (seg (rowF t r K) 50 ++ seg (blkF t B) nb)) hP hD hK hN 3 0 rfl rfl rfl) rfl rfl hl.1 rfl (lv_room (Nat.le_of_ble_eq_true rfl)) dX7_call_69 ⟨Nat.le_of_ble_eq_true rfl, Nat.le_of_ble_eq_true rfl⟩)) (fun v hw => ?_)
          exact ret_Mi hx hb hr hlk ((va_up stk f k, va_up cm f (cm f ||| 2 ^ g))) (Or.inr ⟨f, g, q1, q2, rfl, q4, rfl, Or.inr ⟨k, q6, rfl, by rw [if_neg (by omega)], hw⟩⟩) hP hD hS (Nat.le_of_ble_eq_true rfl) (Nat.le_of_ble_eq_true rfl) dX7_call_72
      · refine r_if_ne (x := 0) (tgt := 40) hx hb (by omega) dX7_call_34 (by decide) (fun c => absurd c (by decide)) (fun _ => ?_)
        refine lv_bipush (v := ((-2))) hx hb dX7_call_37 (by decide) ?_
        have h6 := rngL' (by omega) (by omega) h5
        exact ret_Mi hx hb hr hlk ((stk, cm)) (Or.inr ⟨f, g, q1, q2, rfl, q4, rfl, Or.inl ⟨fun k hk => h6 k (Nat.zero_le _) hk, rfl, rfl⟩⟩) hP hD hS (Nat.le_of_ble_eq_true rfl) (Nat.le_of_ble_eq_true rfl) dX7_call_39
    · refine r_if_ne (x := 0) (tgt := 26) hx hb (by omega) dX7_call_21 (by decide) (fun c => absurd c (by decide)) (fun _ => ?_)
      refine lv_iconst (v := ((-1))) hx hb dX7_call_24 (by decide) ?_
      have h4 := rngI' (by omega) (by omega) h3
      exact ret_Mi hx hb hr hlk ((stk, cm)) (Or.inl ⟨Or.inr (fun k hk => h4 k (Nat.zero_le _) hk), rfl, rfl⟩) hP hD hS (Nat.le_of_ble_eq_true rfl) (Nat.le_of_ble_eq_true rfl) dX7_call_25
  · refine r_if_eq (x := 0) (tgt := 24) hx hb (by omega) dX7_call_9 (by decide) (fun _ => ?_) (fun c => absurd c (by decide))
    refine lv_iconst (v := ((-1))) hx hb dX7_call_24 (by decide) ?_
    have h2 := rngI' (by omega) (by omega) h1
    exact ret_Mi hx hb hr hlk ((stk, cm)) (Or.inl ⟨Or.inl h2, rfl, rfl⟩) hP hD hS (Nat.le_of_ble_eq_true rfl) (Nat.le_of_ble_eq_true rfl) dX7_call_25
end
section
/-- the least place in a stretch of addresses; and that there is none -/
def LFit (ts te : Nat → Nat) (nt fr en len al a : Nat) : Prop := al ∣ a ∧ fr ≤ a ∧ a + len ≤ en ∧ Fre ts te nt a len ∧ ∀ b, fr ≤ b → b < a → al ∣ b → ¬ Fre ts te nt b len
def NFit (ts te : Nat → Nat) (nt fr en len al : Nat) : Prop := ∀ b, fr ≤ b → al ∣ b → b + len ≤ en → ¬ Fre ts te nt b len
def NoR (ts te : Nat → Nat) (nt : Nat) (rs re rr : Nat → Nat) (len al ki q : Nat) : Prop := rr q &&& ki ≠ ki ∨ NFit ts te nt (rs q) (re q) len al
theorem i_X7_takeSpaceFor_X4 : ∀ w ∈ wsX40, w ∈ wsX7_takeSpaceFor := by decide +kernel
theorem i_X7_takeSpaceFor_X5 : ∀ w ∈ wsX50, w ∈ wsX7_takeSpaceFor := by decide +kernel
theorem i_X7_takeSpaceFor_X7 : ∀ w ∈ wsX70, w ∈ wsX7_takeSpaceFor := by decide +kernel
abbrev rm_X7_takeSpaceFor : Room := { frames := 2, cells := 0, slots := 0, locals := 46 }
set_option maxHeartbeats 4000000 in
set_option maxRecDepth 100000 in
theorem c_X7_takeSpaceFor (l : Launch) (D : va_G) (t : Nat → ClassId) (ad : Nat → Nat) (sz nb nr : Nat) (rs re rr : Nat → Nat) (ns : Nat) (sl sa sk gf : Nat → Nat) (nt : Nat) (ts te : Nat → Nat) (ix : Nat) (hnr : nr ≤ 16) (hrs : ∀ k, rs k ≤ 65536) (hre : ∀ k, re k ≤ 65536) (hns : ns ≤ 40) (hsl : ∀ k, sl k ≤ 65536) (hsa : ∀ k, sa k ≤ 65536) (hsk : ∀ k, sk k ≤ 7) (hix : ix < ns) (hsa1 : 1 ≤ sa ix) (hnt : nt < 40) (hts1 : ∀ k, ts k ≤ 65536) (hte1 : ∀ k, te k ≤ 65536) (hso : ∀ i j, i < j → j < nt → te i ≤ ts j) (hlt : ∀ i, i < nt → ts i < te i) : Mi l yX7_takeSpaceFor wsX7_takeSpaceFor rm_X7_takeSpaceFor D (TY t) [.ref (ad 0), .int (nI ix)] [((ad 0), .inr (8, [.int (nI sz), .ref (ad 1), .ref (ad 5), .ref (ad 10), .ref (ad 13), .ref (ad 19), .ref (ad 14), .ref (ad 18), .int (nI nb)])), ((ad 1), .inr (5, [.ref (ad 2), .ref (ad 3), .ref (ad 4), .int (nI nr)])), ((ad 2), .inl (t 0, 16, .inl (nF rs))), ((ad 3), .inl (t 0, 16, .inl (nF re))), ((ad 4), .inl (t 0, 16, .inl (nF rr))), ((ad 5), .inr (6, [.ref (ad 6), .ref (ad 7), .ref (ad 8), .ref (ad 9), .int (nI ns)])), ((ad 6), .inl (t 0, 40, .inl (nF sl))), ((ad 7), .inl (t 0, 40, .inl (nF sa))), ((ad 8), .inl (t 0, 40, .inl (nF sk))), ((ad 9), .inl (t 0, 40, .inl (nF gf))), ((ad 10), .inr (7, [.ref (ad 11), .ref (ad 12), .int (nI nt)])), ((ad 11), .inl (t 0, 40, .inl (nF ts))), ((ad 12), .inl (t 0, 40, .inl (nF te)))] (S := Nat × (Nat → Nat) × (Nat → Nat)) (fun z u => (sl ix = 0 ∧ z = nI 0 ∧ u = (nt, ts, te)) ∨ (0 < sl ix ∧ ∃ q, q < nr ∧ (∀ j, j < q → NoR ts te nt rs re rr (sl ix) (sa ix) (sk ix) j) ∧ rr q &&& sk ix = sk ix ∧ ∃ a, z = nI a ∧ LFit ts te nt (rs q) (re q) (sl ix) (sa ix) a ∧ ∃ g1 g2, u = (nt + 1, g1, g2) ∧ ∃ p, InsAt ts g1 nt p a ∧ InsAt te g2 nt p (a + sl ix) ∧ (p = 0 ∨ ts (p - 1) ≤ a) ∧ (∀ i, p ≤ i → i < nt → a < ts i) ∧ (∀ k, nt < k → g1 k = ts k ∧ g2 k = te k)) ∨ (0 < sl ix ∧ (∀ j, j < nr → NoR ts te nt rs re rr (sl ix) (sa ix) (sk ix) j) ∧ z = (-1) ∧ u = (nt, ts, te))) (fun u => [((ad 0), .inr (8, [.int (nI sz), .ref (ad 1), .ref (ad 5), .ref (ad 10), .ref (ad 13), .ref (ad 19), .ref (ad 14), .ref (ad 18), .int (nI nb)])), ((ad 1), .inr (5, [.ref (ad 2), .ref (ad 3), .ref (ad 4), .int (nI nr)])), ((ad 2), .inl (t 0, 16, .inl (nF rs))), ((ad 3), .inl (t 0, 16, .inl (nF re))), ((ad 4), .inl (t 0, 16, .inl (nF rr))), ((ad 5), .inr (6, [.ref (ad 6), .ref (ad 7), .ref (ad 8), .ref (ad 9), .int (nI ns)])), ((ad 6), .inl (t 0, 40, .inl (nF sl))), ((ad 7), .inl (t 0, 40, .inl (nF sa))), ((ad 8), .inl (t 0, 40, .inl (nF sk))), ((ad 9), .inl (t 0, 40, .inl (nF gf))), ((ad 10), .inr (7, [.ref (ad 11), .ref (ad 12), .int (nI (u.1))])), ((ad 11), .inl (t 0, 40, .inl (nF u.2.1))), ((ad 12), .inl (t 0, 40, .inl (nF u.2.2)))]) := by
  refine start_Mi cX7_takeSpaceFor 5 (some .int) (by decide) rfl (Nat.le_of_ble_eq_true rfl) ?_
  intro p e s m below meth c A ls B hin hP hD hS hA hl
  obtain ⟨hx, hb, hr, hts, hown, hlk, hml, hN, hK⟩ := B
  have hl : lv_has ls 5 [(0, .ref (ad 0)), (1, .int (nI ix))] := hl
  refine lv_aload_n hx hb dX7_takeSpaceFor_0 rfl (lv_at hl 0 rfl) ?_
  refine va_get (D := D) (ci := 8) (v := .ref (ad 5)) (C := RX7) (T := TX7) (N := 9) hx hb hts i_X7_takeSpaceFor_X7 hown hK hP 0 rfl rfl 2 (by decide) (hts (.fieldLink RX7 19 "MemoryMap" "sections" "LMemoryMap$Sections;") (List.mem_of_getElem? (i := 1) rfl)) (fun _ h9 => h9) rfl dX7_takeSpaceFor_1 ?_
  refine va_getN (host := "MemoryMap") (own := RX7) (D := D) (ci := 6) (v := .ref (ad 6)) (C := RX5) (T := TX5) (N := 5) hx hb hts i_X7_takeSpaceFor_X5 hown hK hP 5 rfl rfl 0 (by decide) (hN.f 3 rfl) (fun _ h9 => h9) rfl dX7_takeSpaceFor_4 ?_
  refine lv_iload_n hx hb dX7_takeSpaceFor_7 rfl (lv_at hl 1 rfl) ?_
  refine r_iald hx hb hK hP 6 0 rfl rfl (i := ix) (by omega) (by omega) dX7_takeSpaceFor_8 ?_
  have hb_0 := hsl ix
  refine lv_istore_n (lv' := [(2, .int (nI (sl ix))), (0, .ref (ad 0)), (1, .int (nI ix))]) hx hb dX7_takeSpaceFor_9 rfl hl (by decide) rfl (fun ls hl => ?_)
  refine lv_iload_n hx hb dX7_takeSpaceFor_10 rfl (lv_at hl 0 rfl) ?_
  refine r_if_ne (x := (sl ix)) (tgt := 16) hx hb (by omega) dX7_takeSpaceFor_11 (by decide) (fun c1 => ?_) (fun c1 => ?_)
  · refine lv_iconst (v := (nI 0)) hx hb dX7_takeSpaceFor_16 (by decide) ?_
    refine lv_istore_n (lv' := [(3, .int (nI 0)), (2, .int (nI (sl ix))), (0, .ref (ad 0)), (1, .int (nI ix))]) hx hb dX7_takeSpaceFor_17 rfl hl (by decide) rfl (fun ls hl => ?_)
    refine W_loop (σ := Nat) (fun i => nr - i) (fun i H locs ls => va_P D vwCl [((ad 0), .inr (8, [.int (nI sz), .ref (ad 1), .ref (ad 5), .ref (ad 10), .ref (ad 13), .ref (ad 19), .ref (ad 14), .ref (ad 18), .int (nI nb)])), ((ad 1), .inr (5, [.ref (ad 2), .ref (ad 3), .ref (ad 4), .int (nI nr)])), ((ad 2), .inl (t 0, 16, .inl (nF rs))), ((ad 3), .inl (t 0, 16, .inl (nF re))), ((ad 4), .inl (t 0, 16, .inl (nF rr))), ((ad 5), .inr (6, [.ref (ad 6), .ref (ad 7), .ref (ad 8), .ref (ad 9), .int (nI ns)])), ((ad 6), .inl (t 0, 40, .inl (nF sl))), ((ad 7), .inl (t 0, 40, .inl (nF sa))), ((ad 8), .inl (t 0, 40, .inl (nF sk))), ((ad 9), .inl (t 0, 40, .inl (nF gf))), ((ad 10), .inr (7, [.ref (ad 11), .ref (ad 12), .int (nI nt)])), ((ad 11), .inl (t 0, 40, .inl (nF ts))), ((ad 12), .inl (t 0, 40, .inl (nF te)))] H ∧ va_D A [((ad 0), .inr (8, [.int (nI sz), .ref (ad 1), .ref (ad 5), .ref (ad 10), .ref (ad 13), .ref (ad 19), .ref (ad 14), .ref (ad 18), .int (nI nb)])), ((ad 1), .inr (5, [.ref (ad 2), .ref (ad 3), .ref (ad 4), .int (nI nr)])), ((ad 2), .inl (t 0, 16, .inl (nF rs))), ((ad 3), .inl (t 0, 16, .inl (nF re))), ((ad 4), .inl (t 0, 16, .inl (nF rr))), ((ad 5), .inr (6, [.ref (ad 6), .ref (ad 7), .ref (ad 8), .ref (ad 9), .int (nI ns)])), ((ad 6), .inl (t 0, 40, .inl (nF sl))), ((ad 7), .inl (t 0, 40, .inl (nF sa))), ((ad 8), .inl (t 0, 40, .inl (nF sk))), ((ad 9), .inl (t 0, 40, .inl (nF gf))), ((ad 10), .inr (7, [.ref (ad 11), .ref (ad 12), .int (nI nt)])), ((ad 11), .inl (t 0, 40, .inl (nF ts))), ((ad 12), .inl (t 0, 40, .inl (nF te)))] ∧ va_S A s.heap H locs ∧ lv_has ls 5 [(3, .int (nI i)), (2, .int (nI (sl ix))), (0, .ref (ad 0)), (1, .int (nI ix))] ∧ i ≤ nr ∧ ∀ j, j < i → NoR ts te nt rs re rr (sl ix) (sa ix) (sk ix) j) ?_ 0 _ _ _ ⟨hP, hD, hS, hl, Nat.zero_le _, fun j hj => absurd hj (Nat.not_lt_zero _)⟩
    clear hP hD hS hl
    rintro i H locs ls ⟨hP, hD, hS, hl, hi, hno⟩ ih
    refine lv_iload_n hx hb dX7_takeSpaceFor_18 rfl (lv_at hl 0 rfl) ?_
    refine lv_aload_n hx hb dX7_takeSpaceFor_19 rfl (lv_at hl 2 rfl) ?_
    refine va_get (D := D) (ci := 8) (v := .ref (ad 1)) (C := RX7) (T := TX7) (N := 9) hx hb hts i_X7_takeSpaceFor_X7 hown hK hP 0 rfl rfl 1 (by decide) (hts (.fieldLink RX7 10 "MemoryMap" "regions" "LMemoryMap$Regions;") (List.mem_of_getElem? (i := 2) rfl)) (fun _ h9 => h9) rfl dX7_takeSpaceFor_20 ?_
    refine va_getN (host := "MemoryMap") (own := RX7) (D := D) (ci := 5) (v := .int (nI nr)) (C := RX4) (T := TX4) (N := 4) hx hb hts i_X7_takeSpaceFor_X4 hown hK hP 1 rfl rfl 3 (by decide) (hN.f 2 rfl) (fun _ h9 => h9) rfl dX7_takeSpaceFor_23 ?_
    refine r_icmp_ge (x := i) (y := nr) (tgt := 115) hx hb (by omega) (by omega) dX7_takeSpaceFor_26 (by decide) (fun c2 => ?_) (fun c2 => ?_)
    · refine lv_iconst (v := ((-1))) hx hb dX7_takeSpaceFor_115 (by decide) ?_
      exact ret_Mi hx hb hr hlk ((nt, ts, te)) (Or.inr (Or.inr ⟨c1, fun j hj => hno j (by omega), rfl, rfl⟩)) hP hD hS (Nat.le_of_ble_eq_true rfl) (Nat.le_of_ble_eq_true rfl) dX7_takeSpaceFor_116
    · refine lv_aload_n hx hb dX7_takeSpaceFor_29 rfl (lv_at hl 2 rfl) ?_
      refine va_get (D := D) (ci := 8) (v := .ref (ad 1)) (C := RX7) (T := TX7) (N := 9) hx hb hts i_X7_takeSpaceFor_X7 hown hK hP 0 rfl rfl 1 (by decide) (hts (.fieldLink RX7 10 "MemoryMap" "regions" "LMemoryMap$Regions;") (List.mem_of_getElem? (i := 2) rfl)) (fun _ h9 => h9) rfl dX7_takeSpaceFor_30 ?_
      refine lv_iload_n hx hb dX7_takeSpaceFor_33 rfl (lv_at hl 0 rfl) ?_
      refine lv_aload_n hx hb dX7_takeSpaceFor_34 rfl (lv_at hl 2 rfl) ?_
      refine va_get (D := D) (ci := 8) (v := .ref (ad 5)) (C := RX7) (T := TX7) (N := 9) hx hb hts i_X7_takeSpaceFor_X7 hown hK hP 0 rfl rfl 2 (by decide) (hts (.fieldLink RX7 19 "MemoryMap" "sections" "LMemoryMap$Sections;") (List.mem_of_getElem? (i := 1) rfl)) (fun _ h9 => h9) rfl dX7_takeSpaceFor_35 ?_
      refine va_getN (host := "MemoryMap") (own := RX7) (D := D) (ci := 6) (v := .ref (ad 8)) (C := RX5) (T := TX5) (N := 5) hx hb hts i_X7_takeSpaceFor_X5 hown hK hP 5 rfl rfl 2 (by decide) (hN.f 5 rfl) (fun _ h9 => h9) rfl dX7_takeSpaceFor_38 ?_
      refine lv_iload_n hx hb dX7_takeSpaceFor_41 rfl (lv_at hl 3 rfl) ?_
      refine r_iald hx hb hK hP 8 0 rfl rfl (i := ix) (by omega) (by omega) dX7_takeSpaceFor_42 ?_
      have hb_1 := hsk ix
      refine vp_callSi (va_Run.run (va_runVN (As := [.int (nI i), .int (nI (sk ix))]) (rest := []) ⟨hx, hb, hml, hown, hts⟩ (c_X4_allow l D t (ad 1) (ad 2) (ad 3) (ad 4) nr rs re rr i (sk ix) (by omega) (hsk ix) _) (⟨va_cnB 2 hts ggX7_takeSpaceFor_X4_allow rfl rfl rfl (hN.m 8 rfl) (hts (.initialized RX4) (List.mem_of_getElem? (i := 5) rfl)) (by decide +kernel) ⟨Nat.le_of_ble_eq_true rfl, Nat.le_of_ble_eq_true rfl⟩, (hts (.instanceMethod yX4_allow) (List.mem_of_getElem? (i := 4) rfl)), (hts (.selects RX4 yX4_allow yX4_allow) (List.mem_of_getElem? (i := 6) rfl))⟩) (preVp (wc := [((ad 1), .inr (5, [.ref (ad 2), .ref (ad 3), .ref (ad 4), .int (nI nr)])), ((ad 2), .inl (t 0, 16, .inl (nF rs))), ((ad 3), .inl (t 0, 16, .inl (nF re))), ((ad 4), .inl (t 0, 16, .inl (nF rr)))]) [((ad 0), .inr (8, [.int (nI sz), .ref (ad 1), .ref (ad 5), .ref (ad 10), .ref (ad 13), .ref (ad 19), .ref (ad 14), .ref (ad 18), .int (nI nb)]))] [((ad 5), .inr (6, [.ref (ad 6), .ref (ad 7), .ref (ad 8), .ref (ad 9), .int (nI ns)])), ((ad 6), .inl (t 0, 40, .inl (nF sl))), ((ad 7), .inl (t 0, 40, .inl (nF sa))), ((ad 8), .inl (t 0, 40, .inl (nF sk))), ((ad 9), .inl (t 0, 40, .inl (nF gf))), ((ad 10), .inr (7, [.ref (ad 11), .ref (ad 12), .int (nI nt)])), ((ad 11), .inl (t 0, 40, .inl (nF ts))), ((ad 12), .inl (t 0, 40, .inl (nF te)))] hP hD hK hN 5 0 rfl rfl rfl) rfl rfl hl.1 rfl (lv_room (Nat.le_of_ble_eq_true rfl)) dX7_takeSpaceFor_43 ⟨Nat.le_of_ble_eq_true rfl, Nat.le_of_ble_eq_true rfl⟩)) (fun r hw => ?_)
      rcases hw with ⟨rfl, g⟩ | ⟨rfl, g⟩
      · refine r_if_eq (x := 1) (tgt := 109) hx hb (by omega) dX7_takeSpaceFor_46 (by decide) (fun c => absurd c (by decide)) (fun _ => ?_)
        refine lv_aload_n hx hb dX7_takeSpaceFor_49 rfl (lv_at hl 2 rfl) ?_
        refine va_get (D := D) (ci := 8) (v := .ref (ad 10)) (C := RX7) (T := TX7) (N := 9) hx hb hts i_X7_takeSpaceFor_X7 hown hK hP 0 rfl rfl 3 (by decide) (hts (.fieldLink RX7 26 "MemoryMap" "taken" "LMemoryMap$Taken;") (List.mem_of_getElem? (i := 3) rfl)) (fun _ h9 => h9) rfl dX7_takeSpaceFor_50 ?_
        refine lv_aload_n hx hb dX7_takeSpaceFor_53 rfl (lv_at hl 2 rfl) ?_
        refine va_get (D := D) (ci := 8) (v := .ref (ad 1)) (C := RX7) (T := TX7) (N := 9) hx hb hts i_X7_takeSpaceFor_X7 hown hK hP 0 rfl rfl 1 (by decide) (hts (.fieldLink RX7 10 "MemoryMap" "regions" "LMemoryMap$Regions;") (List.mem_of_getElem? (i := 2) rfl)) (fun _ h9 => h9) rfl dX7_takeSpaceFor_54 ?_
        refine va_getN (host := "MemoryMap") (own := RX7) (D := D) (ci := 5) (v := .ref (ad 2)) (C := RX4) (T := TX4) (N := 4) hx hb hts i_X7_takeSpaceFor_X4 hown hK hP 1 rfl rfl 0 (by decide) (hN.f 0 rfl) (fun _ h9 => h9) rfl dX7_takeSpaceFor_57 ?_
        refine lv_iload_n hx hb dX7_takeSpaceFor_60 rfl (lv_at hl 0 rfl) ?_
        refine r_iald hx hb hK hP 2 0 rfl rfl (i := i) (by omega) (by omega) dX7_takeSpaceFor_61 ?_
        have hb_2 := hrs i
        refine lv_iload_n hx hb dX7_takeSpaceFor_62 rfl (lv_at hl 1 rfl) ?_
        refine lv_aload_n hx hb dX7_takeSpaceFor_63 rfl (lv_at hl 2 rfl) ?_
        refine va_get (D := D) (ci := 8) (v := .ref (ad 5)) (C := RX7) (T := TX7) (N := 9) hx hb hts i_X7_takeSpaceFor_X7 hown hK hP 0 rfl rfl 2 (by decide) (hts (.fieldLink RX7 19 "MemoryMap" "sections" "LMemoryMap$Sections;") (List.mem_of_getElem? (i := 1) rfl)) (fun _ h9 => h9) rfl dX7_takeSpaceFor_64 ?_
        refine va_getN (host := "MemoryMap") (own := RX7) (D := D) (ci := 6) (v := .ref (ad 7)) (C := RX5) (T := TX5) (N := 5) hx hb hts i_X7_takeSpaceFor_X5 hown hK hP 5 rfl rfl 1 (by decide) (hN.f 4 rfl) (fun _ h9 => h9) rfl dX7_takeSpaceFor_67 ?_
        refine lv_iload_n hx hb dX7_takeSpaceFor_70 rfl (lv_at hl 3 rfl) ?_
        refine r_iald hx hb hK hP 7 0 rfl rfl (i := ix) (by omega) (by omega) dX7_takeSpaceFor_71 ?_
        have hb_3 := hsa ix
        have hr1 := hrs i
        have hr2 := hre i
        have hs1 := hsl ix
        have hs2 := hsa ix
        refine vp_callSi (va_Run.run (va_runVN (As := [.int (nI (rs i)), .int (nI (sl ix)), .int (nI (sa ix))]) (rest := []) ⟨hx, hb, hml, hown, hts⟩ (c_X6_leastFree l D t (ad 10) (ad 11) (ad 12) nt ts te (rs i) (sl ix) (sa ix) (by omega) hts1 hte1 hso hlt (by omega) (by omega) hsa1 (by omega) _) (⟨va_cnB 3 hts ggX7_takeSpaceFor_X6_leastFree rfl rfl rfl (hN.m 9 rfl) (hts (.initialized RX6) (List.mem_of_getElem? (i := 10) rfl)) (by decide +kernel) ⟨Nat.le_of_ble_eq_true rfl, Nat.le_of_ble_eq_true rfl⟩, (hts (.instanceMethod yX6_leastFree) (List.mem_of_getElem? (i := 9) rfl)), (hts (.selects RX6 yX6_leastFree yX6_leastFree) (List.mem_of_getElem? (i := 11) rfl))⟩) (preVp (wc := [((ad 10), .inr (7, [.ref (ad 11), .ref (ad 12), .int (nI nt)])), ((ad 11), .inl (t 0, 40, .inl (nF ts))), ((ad 12), .inl (t 0, 40, .inl (nF te)))]) [((ad 0), .inr (8, [.int (nI sz), .ref (ad 1), .ref (ad 5), .ref (ad 10), .ref (ad 13), .ref (ad 19), .ref (ad 14), .ref (ad 18), .int (nI nb)])), ((ad 1), .inr (5, [.ref (ad 2), .ref (ad 3), .ref (ad 4), .int (nI nr)])), ((ad 2), .inl (t 0, 16, .inl (nF rs))), ((ad 3), .inl (t 0, 16, .inl (nF re))), ((ad 4), .inl (t 0, 16, .inl (nF rr))), ((ad 5), .inr (6, [.ref (ad 6), .ref (ad 7), .ref (ad 8), .ref (ad 9), .int (nI ns)])), ((ad 6), .inl (t 0, 40, .inl (nF sl))), ((ad 7), .inl (t 0, 40, .inl (nF sa))), ((ad 8), .inl (t 0, 40, .inl (nF sk))), ((ad 9), .inl (t 0, 40, .inl (nF gf)))] [] hP hD hK hN 7 0 rfl rfl rfl) rfl rfl hl.1 rfl (lv_room (Nat.le_of_ble_eq_true rfl)) dX7_takeSpaceFor_72 ⟨Nat.le_of_ble_eq_true rfl, Nat.le_of_ble_eq_true rfl⟩)) (fun r hw => ?_)
        obtain ⟨a, rfl, y1, y2, y3, y4, y5⟩ := hw
        refine lv_istore (lv' := [(4, .int (nI a)), (3, .int (nI i)), (2, .int (nI (sl ix))), (0, .ref (ad 0)), (1, .int (nI ix))]) hx hb dX7_takeSpaceFor_75 hl (by decide) rfl (fun ls hl => ?_)
        refine lv_iload hx hb dX7_takeSpaceFor_77 (lv_at hl 0 rfl) ?_
        refine lv_iload_n hx hb dX7_takeSpaceFor_79 rfl (lv_at hl 2 rfl) ?_
        refine r_iadd (x := a) (y := (sl ix)) hx hb dX7_takeSpaceFor_80 ?_
        refine lv_aload_n hx hb dX7_takeSpaceFor_81 rfl (lv_at hl 3 rfl) ?_
        refine va_get (D := D) (ci := 8) (v := .ref (ad 1)) (C := RX7) (T := TX7) (N := 9) hx hb hts i_X7_takeSpaceFor_X7 hown hK hP 0 rfl rfl 1 (by decide) (hts (.fieldLink RX7 10 "MemoryMap" "regions" "LMemoryMap$Regions;") (List.mem_of_getElem? (i := 2) rfl)) (fun _ h9 => h9) rfl dX7_takeSpaceFor_82 ?_
        refine va_getN (host := "MemoryMap") (own := RX7) (D := D) (ci := 5) (v := .ref (ad 3)) (C := RX4) (T := TX4) (N := 4) hx hb hts i_X7_takeSpaceFor_X4 hown hK hP 1 rfl rfl 1 (by decide) (hN.f 1 rfl) (fun _ h9 => h9) rfl dX7_takeSpaceFor_85 ?_
        refine lv_iload_n hx hb dX7_takeSpaceFor_88 rfl (lv_at hl 1 rfl) ?_
        refine r_iald hx hb hK hP 3 0 rfl rfl (i := i) (by omega) (by omega) dX7_takeSpaceFor_89 ?_
        have hb_4 := hre i
        refine r_icmp_gt (x := (a + (sl ix))) (y := (re i)) (tgt := 109) hx hb (by omega) (by omega) dX7_takeSpaceFor_90 (by decide) (fun c3 => ?_) (fun c3 => ?_)
        · refine lv_iinc (v := (nI (i + 1))) (lv' := [(3, .int (nI (i + 1))), (4, .int (nI a)), (2, .int (nI (sl ix))), (0, .ref (ad 0)), (1, .int (nI ix))]) hx hb dX7_takeSpaceFor_109 hl (k := 1) rfl (r_inc1 _) (by decide) rfl (fun ls hl => ?_)
          refine lv_goto (tgt := 18) hx hb dX7_takeSpaceFor_112 (by decide) ?_
          refine ih (i + 1) _ _ _ ⟨hP, hD, hS, lv_sub hl [0, 2, 3, 4] rfl, by omega, fun j hj => ?_⟩ (by omega)
          rcases Nat.lt_succ_iff_lt_or_eq.mp hj with hj | rfl
          · exact hno j hj
          · exact Or.inr (fun b z1 z2 z3 => y4 b z1 (by omega) z2)
        · refine lv_aload_n hx hb dX7_takeSpaceFor_93 rfl (lv_at hl 3 rfl) ?_
          refine va_get (D := D) (ci := 8) (v := .ref (ad 10)) (C := RX7) (T := TX7) (N := 9) hx hb hts i_X7_takeSpaceFor_X7 hown hK hP 0 rfl rfl 3 (by decide) (hts (.fieldLink RX7 26 "MemoryMap" "taken" "LMemoryMap$Taken;") (List.mem_of_getElem? (i := 3) rfl)) (fun _ h9 => h9) rfl dX7_takeSpaceFor_94 ?_
          refine lv_iload hx hb dX7_takeSpaceFor_97 (lv_at hl 0 rfl) ?_
          refine lv_iload hx hb dX7_takeSpaceFor_99 (lv_at hl 0 rfl) ?_
          refine lv_iload_n hx hb dX7_takeSpaceFor_101 rfl (lv_at hl 2 rfl) ?_
          refine r_iadd (x := a) (y := (sl ix)) hx hb dX7_takeSpaceFor_102 ?_
          refine call_Mvp (wc := [((ad 10), .inr (7, [.ref (ad 11), .ref (ad 12), .int (nI nt)])), ((ad 11), .inl (t 0, 40, .inl (nF ts))), ((ad 12), .inl (t 0, 40, .inl (nF te)))]) (wc' := fun v : Nat × (Nat → Nat) × (Nat → Nat) => [((ad 10), .inr (7, [.ref (ad 11), .ref (ad 12), .int (nI (v.1))])), ((ad 11), .inl (t 0, 40, .inl (nF v.2.1))), ((ad 12), .inl (t 0, 40, .inl (nF v.2.2)))]) [((ad 0), .inr (8, [.int (nI sz), .ref (ad 1), .ref (ad 5), .ref (ad 10), .ref (ad 13), .ref (ad 19), .ref (ad 14), .ref (ad 18), .int (nI nb)])), ((ad 1), .inr (5, [.ref (ad 2), .ref (ad 3), .ref (ad 4), .int (nI nr)])), ((ad 2), .inl (t 0, 16, .inl (nF rs))), ((ad 3), .inl (t 0, 16, .inl (nF re))), ((ad 4), .inl (t 0, 16, .inl (nF rr))), ((ad 5), .inr (6, [.ref (ad 6), .ref (ad 7), .ref (ad 8), .ref (ad 9), .int (nI ns)])), ((ad 6), .inl (t 0, 40, .inl (nF sl))), ((ad 7), .inl (t 0, 40, .inl (nF sa))), ((ad 8), .inl (t 0, 40, .inl (nF sk))), ((ad 9), .inl (t 0, 40, .inl (nF gf)))] [] (va_runVN (As := [.int (nI a), .int (nI (a + (sl ix)))]) (rest := []) ⟨hx, hb, hml, hown, hts⟩ (c_X6_add l D t (ad 10) (ad 11) (ad 12) nt ts te a (a + sl ix) hnt hts1 (by omega) _) (⟨va_cnB 2 hts ggX7_takeSpaceFor_X6_add rfl rfl rfl (hN.m 10 rfl) (hts (.initialized RX6) (List.mem_of_getElem? (i := 10) rfl)) (by decide +kernel) ⟨Nat.le_of_ble_eq_true rfl, Nat.le_of_ble_eq_true rfl⟩, (hts (.instanceMethod yX6_add) (List.mem_of_getElem? (i := 19) rfl)), (hts (.selects RX6 yX6_add yX6_add) (List.mem_of_getElem? (i := 20) rfl))⟩) (preVp (wc := [((ad 10), .inr (7, [.ref (ad 11), .ref (ad 12), .int (nI nt)])), ((ad 11), .inl (t 0, 40, .inl (nF ts))), ((ad 12), .inl (t 0, 40, .inl (nF te)))]) [((ad 0), .inr (8, [.int (nI sz), .ref (ad 1), .ref (ad 5), .ref (ad 10), .ref (ad 13), .ref (ad 19), .ref (ad 14), .ref (ad 18), .int (nI nb)])), ((ad 1), .inr (5, [.ref (ad 2), .ref (ad 3), .ref (ad 4), .int (nI nr)])), ((ad 2), .inl (t 0, 16, .inl (nF rs))), ((ad 3), .inl (t 0, 16, .inl (nF re))), ((ad 4), .inl (t 0, 16, .inl (nF rr))), ((ad 5), .inr (6, [.ref (ad 6), .ref (ad 7), .ref (ad 8), .ref (ad 9), .int (nI ns)])), ((ad 6), .inl (t 0, 40, .inl (nF sl))), ((ad 7), .inl (t 0, 40, .inl (nF sa))), ((ad 8), .inl (t 0, 40, .inl (nF sk))), ((ad 9), .inl (t 0, 40, .inl (nF gf)))] [] hP hD hK hN 7 0 rfl rfl rfl) rfl rfl hl.1 rfl (lv_room (Nat.le_of_ble_eq_true rfl)) dX7_takeSpaceFor_103 ⟨Nat.le_of_ble_eq_true rfl, Nat.le_of_ble_eq_true rfl⟩) hP hD hS hA (fun v H locs hw hP hD hS hz => ?_)
          have hP : va_P D vwCl [((ad 0), .inr (8, [.int (nI sz), .ref (ad 1), .ref (ad 5), .ref (ad 10), .ref (ad 13), .ref (ad 19), .ref (ad 14), .ref (ad 18), .int (nI nb)])), ((ad 1), .inr (5, [.ref (ad 2), .ref (ad 3), .ref (ad 4), .int (nI nr)])), ((ad 2), .inl (t 0, 16, .inl (nF rs))), ((ad 3), .inl (t 0, 16, .inl (nF re))), ((ad 4), .inl (t 0, 16, .inl (nF rr))), ((ad 5), .inr (6, [.ref (ad 6), .ref (ad 7), .ref (ad 8), .ref (ad 9), .int (nI ns)])), ((ad 6), .inl (t 0, 40, .inl (nF sl))), ((ad 7), .inl (t 0, 40, .inl (nF sa))), ((ad 8), .inl (t 0, 40, .inl (nF sk))), ((ad 9), .inl (t 0, 40, .inl (nF gf))), ((ad 10), .inr (7, [.ref (ad 11), .ref (ad 12), .int (nI (v.1))])), ((ad 11), .inl (t 0, 40, .inl (nF v.2.1))), ((ad 12), .inl (t 0, 40, .inl (nF v.2.2)))] H := hP
          have hD : va_D A [((ad 0), .inr (8, [.int (nI sz), .ref (ad 1), .ref (ad 5), .ref (ad 10), .ref (ad 13), .ref (ad 19), .ref (ad 14), .ref (ad 18), .int (nI nb)])), ((ad 1), .inr (5, [.ref (ad 2), .ref (ad 3), .ref (ad 4), .int (nI nr)])), ((ad 2), .inl (t 0, 16, .inl (nF rs))), ((ad 3), .inl (t 0, 16, .inl (nF re))), ((ad 4), .inl (t 0, 16, .inl (nF rr))), ((ad 5), .inr (6, [.ref (ad 6), .ref (ad 7), .ref (ad 8), .ref (ad 9), .int (nI ns)])), ((ad 6), .inl (t 0, 40, .inl (nF sl))), ((ad 7), .inl (t 0, 40, .inl (nF sa))), ((ad 8), .inl (t 0, 40, .inl (nF sk))), ((ad 9), .inl (t 0, 40, .inl (nF gf))), ((ad 10), .inr (7, [.ref (ad 11), .ref (ad 12), .int (nI (v.1))])), ((ad 11), .inl (t 0, 40, .inl (nF v.2.1))), ((ad 12), .inl (t 0, 40, .inl (nF v.2.2)))] := hD
          refine lv_iload hx hb dX7_takeSpaceFor_106 (lv_at hl 0 rfl) ?_
          exact ret_Mi hx hb hr hlk (v) (by obtain ⟨g1, g2, e, h9⟩ := hw; exact Or.inr (Or.inl ⟨c1, i, c2, hno, g, a, rfl, ⟨y1, y2, c3, y3, y4⟩, g1, g2, e, h9⟩)) hP hD hS (Nat.le_of_ble_eq_true rfl) (Nat.le_of_ble_eq_true rfl) dX7_takeSpaceFor_108
      · refine r_if_eq (x := 0) (tgt := 109) hx hb (by omega) dX7_takeSpaceFor_46 (by decide) (fun _ => ?_) (fun c => absurd c (by decide))
        refine lv_iinc (v := (nI (i + 1))) (lv' := [(3, .int (nI (i + 1))), (2, .int (nI (sl ix))), (0, .ref (ad 0)), (1, .int (nI ix))]) hx hb dX7_takeSpaceFor_109 hl (k := 0) rfl (r_inc1 _) (by decide) rfl (fun ls hl => ?_)
        refine lv_goto (tgt := 18) hx hb dX7_takeSpaceFor_112 (by decide) ?_
        refine ih (i + 1) _ _ _ ⟨hP, hD, hS, lv_sub hl [0, 1, 2, 3] rfl, by omega, fun j hj => ?_⟩ (by omega)
        rcases Nat.lt_succ_iff_lt_or_eq.mp hj with hj | rfl
        · exact hno j hj
        · exact Or.inl g
  · refine lv_iconst (v := (nI 0)) hx hb dX7_takeSpaceFor_14 (by decide) ?_
    exact ret_Mi hx hb hr hlk ((nt, ts, te)) (Or.inl ⟨c1, rfl, rfl⟩) hP hD hS (Nat.le_of_ble_eq_true rfl) (Nat.le_of_ble_eq_true rfl) dX7_takeSpaceFor_15
end
section
/-- free of what the sections before the i-th in order have -/
def FreeO (sl gf P : Nat → Nat) (i a len : Nat) : Prop := ∀ m, m < i → sl (gf m) ≠ 0 → P (gf m) + sl (gf m) ≤ a ∨ a + len ≤ P (gf m)
def LF (F : Nat → Prop) (fr en len al a : Nat) : Prop := al ∣ a ∧ fr ≤ a ∧ a + len ≤ en ∧ F a ∧ ∀ b, fr ≤ b → b < a → al ∣ b → ¬ F b
def NF (F : Nat → Prop) (fr en len al : Nat) : Prop := ∀ b, fr ≤ b → al ∣ b → b + len ≤ en → ¬ F b
def NoO (nr : Nat) (rs re rr sl sa sk gf P : Nat → Nat) (i q : Nat) : Prop := rr q &&& sk (gf i) ≠ sk (gf i) ∨ NF (fun b => FreeO sl gf P i b (sl (gf i))) (rs q) (re q) (sl (gf i)) (sa (gf i))
/-- the i-th in order has its right place -/
def OkAt (nr : Nat) (rs re rr sl sa sk gf P : Nat → Nat) (i : Nat) : Prop := (sl (gf i) = 0 ∧ P (gf i) = 0) ∨ (0 < sl (gf i) ∧ ∃ q, q < nr ∧ (∀ j, j < q → NoO nr rs re rr sl sa sk gf P i j) ∧ rr q &&& sk (gf i) = sk (gf i) ∧ LF (fun b => FreeO sl gf P i b (sl (gf i))) (rs q) (re q) (sl (gf i)) (sa (gf i)) (P (gf i)))
/-- there is none for the i-th in order -/
def BadAt (nr : Nat) (rs re rr sl sa sk gf P : Nat → Nat) (i : Nat) : Prop := 0 < sl (gf i) ∧ ∀ q, q < nr → NoO nr rs re rr sl sa sk gf P i q
theorem FreeO_congr {sl gf P P' : Nat → Nat} {i a len : Nat} (h : ∀ m, m < i → P (gf m) = P' (gf m)) : FreeO sl gf P i a len ↔ FreeO sl gf P' i a len := by
  constructor
  · intro q m hm hs
    rw [← h m hm]
    exact q m hm hs
  · intro q m hm hs
    rw [h m hm]
    exact q m hm hs
theorem NoO_congr {nr : Nat} {rs re rr sl sa sk gf P P' : Nat → Nat} {i q : Nat} (h : ∀ m, m < i → P (gf m) = P' (gf m)) (g : NoO nr rs re rr sl sa sk gf P i q) : NoO nr rs re rr sl sa sk gf P' i q :=
  g.imp id (fun z b h1 h2 h3 h4 => z b h1 h2 h3 ((FreeO_congr h).mpr h4))
theorem OkAt_congr {nr : Nat} {rs re rr sl sa sk gf P P' : Nat → Nat} {i : Nat} (h : ∀ m, m ≤ i → P (gf m) = P' (gf m)) (g : OkAt nr rs re rr sl sa sk gf P i) : OkAt nr rs re rr sl sa sk gf P' i := by
  have h' : ∀ m, m < i → P (gf m) = P' (gf m) := fun m hm => h m (Nat.le_of_lt hm)
  rcases g with ⟨g1, g2⟩ | ⟨g1, q, g2, g3, g4, g5, g6, g7, g8, g9⟩
  · exact Or.inl ⟨g1, (h i (Nat.le_refl _)).symm.trans g2⟩
  · have e := h i (Nat.le_refl _)
    refine Or.inr ⟨g1, q, g2, fun j hj => NoO_congr h' (g3 j hj), g4, by rw [← e]; exact g5, by rw [← e]; exact g6, by rw [← e]; exact g7, by rw [← e]; exact (FreeO_congr h').mp g8, fun b b1 b2 b3 b4 => ?_⟩
    rw [← e] at b2
    exact g9 b b1 b2 b3 ((FreeO_congr h').mpr b4)
/-- what is taken, as stretches, is what the first i in order have -/
def TkI (nt : Nat) (ts te sl gf P : Nat → Nat) (i : Nat) : Prop := nt ≤ i ∧ (∀ a b, a < b → b < nt → te a ≤ ts b) ∧ (∀ a, a < nt → ts a < te a) ∧ (∀ k, ts k ≤ 65536) ∧ (∀ k, te k ≤ 65536) ∧ (∀ a, a < nt → ∃ m, m < i ∧ sl (gf m) ≠ 0 ∧ ts a = P (gf m) ∧ te a = P (gf m) + sl (gf m)) ∧ ∀ m, m < i → sl (gf m) ≠ 0 → ∃ a, a < nt ∧ ts a = P (gf m) ∧ te a = P (gf m) + sl (gf m)
theorem TkI_fre {nt : Nat} {ts te sl gf P : Nat → Nat} {i a len : Nat} (h : TkI nt ts te sl gf P i) : Fre ts te nt a len ↔ FreeO sl gf P i a len := by
  obtain ⟨-, -, -, -, -, h1, h2⟩ := h
  constructor
  · intro f m hm hs
    obtain ⟨j, hj, e1, e2⟩ := h2 m hm hs
    have := f j hj
    rw [e1, e2] at this
    exact this
  · intro f j hj
    obtain ⟨m, hm, hs, e1, e2⟩ := h1 j hj
    rw [e1, e2]
    exact f m hm hs
theorem TkI_0 {ts te sl gf P : Nat → Nat} (h1 : ∀ k, ts k ≤ 65536) (h2 : ∀ k, te k ≤ 65536) : TkI 0 ts te sl gf P 0 := ⟨Nat.le_refl _, fun a b _ h => absurd h (Nat.not_lt_zero _), fun a h => absurd h (Nat.not_lt_zero _), h1, h2, fun a h => absurd h (Nat.not_lt_zero _), fun a h => absurd h (Nat.not_lt_zero _)⟩
theorem TkI_skip {nt : Nat} {ts te sl gf P P' : Nat → Nat} {i : Nat} (h : TkI nt ts te sl gf P i) (h0 : sl (gf i) = 0) (hP : ∀ m, m < i → P' (gf m) = P (gf m)) : TkI nt ts te sl gf P' (i + 1) := by
  obtain ⟨k1, k2, k3, k4, k5, k6, k7⟩ := h
  refine ⟨by omega, k2, k3, k4, k5, fun a ha => ?_, fun m hm hs => ?_⟩
  · obtain ⟨m, hm, hs, e1, e2⟩ := k6 a ha
    exact ⟨m, by omega, hs, by rw [hP m hm]; exact e1, by rw [hP m hm]; exact e2⟩
  · rcases Nat.lt_succ_iff_lt_or_eq.mp hm with q | rfl
    · obtain ⟨a, ha, e1, e2⟩ := k7 m q hs
      exact ⟨a, ha, by rw [hP m q]; exact e1, by rw [hP m q]; exact e2⟩
    · exact absurd h0 hs
theorem TkI_add {nt : Nat} {ts te sl gf P P' g1 g2 : Nat → Nat} {i a p : Nat} (h : TkI nt ts te sl gf P i) (hs : 0 < sl (gf i)) (hP : ∀ m, m < i → P' (gf m) = P (gf m)) (hPi : P' (gf i) = a) (hF : Fre ts te nt a (sl (gf i))) (hb : a + sl (gf i) ≤ 65536)
    (y1 : InsAt ts g1 nt p a) (y2 : InsAt te g2 nt p (a + sl (gf i))) (y3 : p = 0 ∨ ts (p - 1) ≤ a) (y4 : ∀ j, p ≤ j → j < nt → a < ts j) (y5 : ∀ k, nt < k → g1 k = ts k ∧ g2 k = te k) : TkI (nt + 1) g1 g2 sl gf P' (i + 1) := by
  obtain ⟨k1, k2, k3, k4, k5, k6, k7⟩ := h
  obtain ⟨z0, z1, z2, z3⟩ := y1
  obtain ⟨-, w1, w2, w3⟩ := y2
  -- a stretch ahead of place p ends at a or before
  have lo : ∀ j, j < p → te j ≤ a := by
    intro j hj
    rcases hF j (by omega) with q | q
    · exact q
    · have hj2 := k3 j (by omega)
      have : ts j ≤ a := by
        rcases y3 with z | z
        · omega
        · rcases Nat.lt_or_ge j (p - 1) with v | v
          · have := k2 j (p - 1) v (by omega)
            omega
          · have e : j = p - 1 := by omega
            rw [e]; exact z
      omega
  have hi : ∀ j, p ≤ j → j < nt → a + sl (gf i) ≤ ts j := by
    intro j h1 h2
    have := y4 j h1 h2
    have := k3 j h2
    rcases hF j h2 with q | q
    · omega
    · exact q
  have r1 : ∀ j, p < j → j ≤ nt → g1 j = ts (j - 1) := z3
  have r2 : ∀ j, p < j → j ≤ nt → g2 j = te (j - 1) := w3
  refine ⟨by omega, fun x y hxy hy => ?_, fun x hx => ?_, fun k => ?_, fun k => ?_, fun x hx => ?_, fun m hm hs2 => ?_⟩
  · rcases Nat.lt_trichotomy x p with q | q | q
    · rw [w1 x q]
      rcases Nat.lt_trichotomy y p with v | v | v
      · rw [z1 y v]; exact k2 x y hxy (by omega)
      · rw [v, z2]; exact lo x q
      · rw [r1 y v (by omega)]
        exact k2 x (y - 1) (by omega) (by omega)
    · rw [q, w2, r1 y (by omega) (by omega)]
      exact hi (y - 1) (by omega) (by omega)
    · rw [r2 x q (by omega), r1 y (by omega) (by omega)]
      exact k2 (x - 1) (y - 1) (by omega) (by omega)
  · rcases Nat.lt_trichotomy x p with q | q | q
    · rw [z1 x q, w1 x q]; exact k3 x (by omega)
    · rw [q, z2, w2]; omega
    · rw [r1 x q (by omega), r2 x q (by omega)]; exact k3 (x - 1) (by omega)
  · rcases Nat.lt_trichotomy k p with q | q | q
    · rw [z1 k q]; exact k4 k
    · rw [q, z2]; omega
    · rcases Nat.lt_or_ge nt k with v | v
      · rw [(y5 k v).1]; exact k4 k
      · rw [r1 k q v]; exact k4 _
  · rcases Nat.lt_trichotomy k p with q | q | q
    · rw [w1 k q]; exact k5 k
    · rw [q, w2]; omega
    · rcases Nat.lt_or_ge nt k with v | v
      · rw [(y5 k v).2]; exact k5 k
      · rw [r2 k q v]; exact k5 _
  · have old : ∀ j, j < nt → ∃ m, m < i + 1 ∧ sl (gf m) ≠ 0 ∧ ts j = P' (gf m) ∧ te j = P' (gf m) + sl (gf m) := by
      intro j hj
      obtain ⟨m, hm, hs3, e1, e2⟩ := k6 j hj
      exact ⟨m, by omega, hs3, by rw [hP m hm]; exact e1, by rw [hP m hm]; exact e2⟩
    rcases Nat.lt_trichotomy x p with q | q | q
    · rw [z1 x q, w1 x q]; exact old x (by omega)
    · rw [q, z2, w2]; exact ⟨i, by omega, by omega, hPi.symm, by rw [hPi]⟩
    · rw [r1 x q (by omega), r2 x q (by omega)]; exact old (x - 1) (by omega)
  · rcases Nat.lt_succ_iff_lt_or_eq.mp hm with q | rfl
    · obtain ⟨j, hj, e1, e2⟩ := k7 m q hs2
      rw [hP m q]
      rcases Nat.lt_or_ge j p with v | v
      · exact ⟨j, by omega, by rw [z1 j v]; exact e1, by rw [w1 j v]; exact e2⟩
      · exact ⟨j + 1, by omega, by rw [r1 (j + 1) (by omega) (by omega)]; exact e1, by rw [r2 (j + 1) (by omega) (by omega)]; exact e2⟩
    · exact ⟨p, by omega, by rw [z2, hPi], by rw [w2, hPi]⟩
theorem i_X7_place_X5 : ∀ w ∈ wsX50, w ∈ wsX7_place := by decide +kernel
theorem i_X7_place_X7 : ∀ w ∈ wsX70, w ∈ wsX7_place := by decide +kernel
abbrev rm_X7_place : Room := { frames := 3, cells := 0, slots := 0, locals := 70 }
set_option maxHeartbeats 4000000 in
set_option maxRecDepth 100000 in
theorem c_X7_place (l : Launch) (D : va_G) (t : Nat → ClassId) (ad : Nat → Nat) (sz nr : Nat) (rs re rr : Nat → Nat) (ns : Nat) (sl sa sk gf : Nat → Nat) (nt : Nat) (ts te : Nat → Nat) (stk cm dp : Nat → Nat) (nb : Nat) (B : Nat → BT) (lc kc : Nat) (last sc r : Nat → Nat) (K : Nat → Nat → Nat) (tr : Nat → Nat) (hnr : nr ≤ 16) (hrs : ∀ k, rs k ≤ 65536) (hre : ∀ k, re k ≤ 65536) (hns : ns ≤ 40) (hsl : ∀ k, sl k ≤ 65536) (hsa : ∀ k, sa k ≤ 65536) (hsk : ∀ k, sk k ≤ 7) (hgf : ∀ k, k < ns → gf k < ns) (hinj : ∀ i j, i < ns → j < ns → gf i = gf j → i = j) (hsa1 : ∀ k, k < ns → 1 ≤ sa k) (hts1 : ∀ k, ts k ≤ 65536) (hte1 : ∀ k, te k ≤ 65536) (hkc : kc ≤ 50) (htr : ∀ k, tr k ≤ 65536) : Mi l yX7_place wsX7_place rm_X7_place D (TY t) [.ref (ad 0)] ([((ad 0), .inr (8, [.int (nI sz), .ref (ad 1), .ref (ad 5), .ref (ad 10), .ref (ad 13), .ref (ad 19), .ref (ad 14), .ref (ad 18), .int (nI nb)])), ((ad 1), .inr (5, [.ref (ad 2), .ref (ad 3), .ref (ad 4), .int (nI nr)])), ((ad 2), .inl (t 0, 16, .inl (nF rs))), ((ad 3), .inl (t 0, 16, .inl (nF re))), ((ad 4), .inl (t 0, 16, .inl (nF rr))), ((ad 5), .inr (6, [.ref (ad 6), .ref (ad 7), .ref (ad 8), .ref (ad 9), .int (nI ns)])), ((ad 6), .inl (t 0, 40, .inl (nF sl))), ((ad 7), .inl (t 0, 40, .inl (nF sa))), ((ad 8), .inl (t 0, 40, .inl (nF sk))), ((ad 9), .inl (t 0, 40, .inl (nF gf))), ((ad 10), .inr (7, [.ref (ad 11), .ref (ad 12), .int (nI nt)])), ((ad 11), .inl (t 0, 40, .inl (nF ts))), ((ad 12), .inl (t 0, 40, .inl (nF te))), ((ad 14), .inr (3, [.ref (ad 15), .ref (ad 16), .ref (ad 17)])), ((ad 15), .inl (t 0, 31, .inl (nF stk))), ((ad 16), .inl (t 0, 31, .inl (nF cm))), ((ad 17), .inl (t 0, 31, .inl (nF dp))), ((ad 18), .inl (t 4, 20, .inr (.inr (.inr (.inr (blkQ B nb)))))), ((ad 19), .inr (4, [.ref (ad 20), .int (nI lc), .ref (ad 21), .ref (ad 22), .int (nI kc)])), ((ad 20), .inl (t 0, 40, .inl (nF last))), ((ad 21), .inl (t 5, 50, .inr (.inr (.inr (.inr (rowQ r)))))), ((ad 22), .inl (t 0, 50, .inl (nF sc))), ((ad 13), .inl (t 0, 40, .inl (nF tr)))] ++ (seg (rowF t r K) 50 ++ seg (blkF t B) nb)) (S := (Nat × (Nat → Nat) × (Nat → Nat)) × (Nat → Nat) × (Nat × (Nat → Nat) × Nat × (Nat → Nat) × (Nat → Nat → Nat))) (fun z u => (∀ k, u.1.2.1 k ≤ 65536) ∧ (∀ k, u.1.2.2 k ≤ 65536) ∧ (∀ k, u.2.1 k ≤ 65536) ∧ (((∀ i, i < ns → OkAt nr rs re rr sl sa sk gf u.2.1 i) ∧ z = nI 1 ∧ u.2.2 = (ns, va_cpy u.2.1 last 0 0 ns, (if kc < 50 then kc + 1 else kc), (if kc < 50 then va_up sc kc ns else sc), (if kc < 50 then va_up K kc (va_cpy u.2.1 (K kc) 0 0 ns) else K))) ∨ ∃ i, i < ns ∧ (∀ j, j < i → OkAt nr rs re rr sl sa sk gf u.2.1 j) ∧ BadAt nr rs re rr sl sa sk gf u.2.1 i ∧ z = -(nI (gf i + 1)) ∧ u.2.2 = (lc, last, kc, sc, K))) (fun u => ([((ad 0), .inr (8, [.int (nI sz), .ref (ad 1), .ref (ad 5), .ref (ad 10), .ref (ad 13), .ref (ad 19), .ref (ad 14), .ref (ad 18), .int (nI nb)])), ((ad 1), .inr (5, [.ref (ad 2), .ref (ad 3), .ref (ad 4), .int (nI nr)])), ((ad 2), .inl (t 0, 16, .inl (nF rs))), ((ad 3), .inl (t 0, 16, .inl (nF re))), ((ad 4), .inl (t 0, 16, .inl (nF rr))), ((ad 5), .inr (6, [.ref (ad 6), .ref (ad 7), .ref (ad 8), .ref (ad 9), .int (nI ns)])), ((ad 6), .inl (t 0, 40, .inl (nF sl))), ((ad 7), .inl (t 0, 40, .inl (nF sa))), ((ad 8), .inl (t 0, 40, .inl (nF sk))), ((ad 9), .inl (t 0, 40, .inl (nF gf))), ((ad 10), .inr (7, [.ref (ad 11), .ref (ad 12), .int (nI (u.1.1))])), ((ad 11), .inl (t 0, 40, .inl (nF u.1.2.1))), ((ad 12), .inl (t 0, 40, .inl (nF u.1.2.2))), ((ad 14), .inr (3, [.ref (ad 15), .ref (ad 16), .ref (ad 17)])), ((ad 15), .inl (t 0, 31, .inl (nF stk))), ((ad 16), .inl (t 0, 31, .inl (nF cm))), ((ad 17), .inl (t 0, 31, .inl (nF dp))), ((ad 18), .inl (t 4, 20, .inr (.inr (.inr (.inr (blkQ B nb)))))), ((ad 19), .inr (4, [.ref (ad 20), .int (nI (u.2.2.1)), .ref (ad 21), .ref (ad 22), .int (nI (u.2.2.2.2.1))])), ((ad 20), .inl (t 0, 40, .inl (nF u.2.2.2.1))), ((ad 21), .inl (t 5, 50, .inr (.inr (.inr (.inr (rowQ r)))))), ((ad 22), .inl (t 0, 50, .inl (nF u.2.2.2.2.2.1))), ((ad 13), .inl (t 0, 40, .inl (nF u.2.1)))] ++ (seg (rowF t r u.2.2.2.2.2.2) 50 ++ seg (blkF t B) nb))) := by
  refine start_Mi cX7_place 4 (some .int) (by decide) rfl (Nat.le_of_ble_eq_true rfl) ?_
  intro p e s m below meth c A ls B hin hP hD hS hA hl
  obtain ⟨hx, hb, hr, hts, hown, hlk, hml, hN, hK⟩ := B
  have hl : lv_has ls 4 [(0, .ref (ad 0))] := hl
  refine lv_aload_n hx hb dX7_place_0 rfl (lv_at hl 0 rfl) ?_
  refine va_get (D := D) (ci := 8) (v := .ref (ad 10)) (C := RX7) (T := TX7) (N := 9) hx hb hts i_X7_place_X7 hown hK hP 0 rfl rfl 3 (by decide) (hts (.fieldLink RX7 26 "MemoryMap" "taken" "LMemoryMap$Taken;") (List.mem_of_getElem? (i := 1) rfl)) (fun _ h9 => h9) rfl dX7_place_1 ?_
  refine call_Mvp (wc := [((ad 10), .inr (7, [.ref (ad 11), .ref (ad 12), .int (nI nt)])), ((ad 11), .inl (t 0, 40, .inl (nF ts))), ((ad 12), .inl (t 0, 40, .inl (nF te)))]) (wc' := fun v0 : Unit => [((ad 10), .inr (7, [.ref (ad 11), .ref (ad 12), .int (nI 0)])), ((ad 11), .inl (t 0, 40, .inl (nF ts))), ((ad 12), .inl (t 0, 40, .inl (nF te)))]) [((ad 0), .inr (8, [.int (nI sz), .ref (ad 1), .ref (ad 5), .ref (ad 10), .ref (ad 13), .ref (ad 19), .ref (ad 14), .ref (ad 18), .int (nI nb)])), ((ad 1), .inr (5, [.ref (ad 2), .ref (ad 3), .ref (ad 4), .int (nI nr)])), ((ad 2), .inl (t 0, 16, .inl (nF rs))), ((ad 3), .inl (t 0, 16, .inl (nF re))), ((ad 4), .inl (t 0, 16, .inl (nF rr))), ((ad 5), .inr (6, [.ref (ad 6), .ref (ad 7), .ref (ad 8), .ref (ad 9), .int (nI ns)])), ((ad 6), .inl (t 0, 40, .inl (nF sl))), ((ad 7), .inl (t 0, 40, .inl (nF sa))), ((ad 8), .inl (t 0, 40, .inl (nF sk))), ((ad 9), .inl (t 0, 40, .inl (nF gf)))] ([((ad 14), .inr (3, [.ref (ad 15), .ref (ad 16), .ref (ad 17)])), ((ad 15), .inl (t 0, 31, .inl (nF stk))), ((ad 16), .inl (t 0, 31, .inl (nF cm))), ((ad 17), .inl (t 0, 31, .inl (nF dp))), ((ad 18), .inl (t 4, 20, .inr (.inr (.inr (.inr (blkQ B nb)))))), ((ad 19), .inr (4, [.ref (ad 20), .int (nI lc), .ref (ad 21), .ref (ad 22), .int (nI kc)])), ((ad 20), .inl (t 0, 40, .inl (nF last))), ((ad 21), .inl (t 5, 50, .inr (.inr (.inr (.inr (rowQ r)))))), ((ad 22), .inl (t 0, 50, .inl (nF sc))), ((ad 13), .inl (t 0, 40, .inl (nF tr)))] ++ (seg (rowF t r K) 50 ++ seg (blkF t B) nb)) (va_runVN (As := []) (rest := []) ⟨hx, hb, hml, hown, hts⟩ (c_X6_clear l D t (ad 10) (ad 11) (ad 12) nt ts te _) (⟨va_cnB 0 hts ggX7_place_X6_clear rfl rfl rfl (hN.m 7 rfl) (hts (.initialized RX6) (List.mem_of_getElem? (i := 6) rfl)) (by decide +kernel) ⟨Nat.le_of_ble_eq_true rfl, Nat.le_of_ble_eq_true rfl⟩, (hts (.instanceMethod yX6_clear) (List.mem_of_getElem? (i := 5) rfl)), (hts (.selects RX6 yX6_clear yX6_clear) (List.mem_of_getElem? (i := 7) rfl))⟩) (preVp (wc := [((ad 10), .inr (7, [.ref (ad 11), .ref (ad 12), .int (nI nt)])), ((ad 11), .inl (t 0, 40, .inl (nF ts))), ((ad 12), .inl (t 0, 40, .inl (nF te)))]) [((ad 0), .inr (8, [.int (nI sz), .ref (ad 1), .ref (ad 5), .ref (ad 10), .ref (ad 13), .ref (ad 19), .ref (ad 14), .ref (ad 18), .int (nI nb)])), ((ad 1), .inr (5, [.ref (ad 2), .ref (ad 3), .ref (ad 4), .int (nI nr)])), ((ad 2), .inl (t 0, 16, .inl (nF rs))), ((ad 3), .inl (t 0, 16, .inl (nF re))), ((ad 4), .inl (t 0, 16, .inl (nF rr))), ((ad 5), .inr (6, [.ref (ad 6), .ref (ad 7), .ref (ad 8), .ref (ad 9), .int (nI ns)])), ((ad 6), .inl (t 0, 40, .inl (nF sl))), ((ad 7), .inl (t 0, 40, .inl (nF sa))), ((ad 8), .inl (t 0, 40, .inl (nF sk))), ((ad 9), .inl (t 0, 40, .inl (nF gf)))] ([((ad 14), .inr (3, [.ref (ad 15), .ref (ad 16), .ref (ad 17)])), ((ad 15), .inl (t 0, 31, .inl (nF stk))), ((ad 16), .inl (t 0, 31, .inl (nF cm))), ((ad 17), .inl (t 0, 31, .inl (nF dp))), ((ad 18), .inl (t 4, 20, .inr (.inr (.inr (.inr (blkQ B nb)))))), ((ad 19), .inr (4, [.ref (ad 20), .int (nI lc), .ref (ad 21), .ref (ad 22), .int (nI kc)])), ((ad 20), .inl (t 0, 40, .inl (nF last))), ((ad 21), .inl (t 5, 50, .inr (.inr (.inr (.inr (rowQ r)))))), ((ad 22), .inl (t 0, 50, .inl (nF sc))), ((ad 13), .inl (t 0, 40, .inl (nF tr)))] ++ (seg (rowF t r K) 50 ++ seg (blkF t B) nb)) hP hD hK hN 7 0 rfl rfl rfl) rfl rfl hl.1 rfl (lv_room (Nat.le_of_ble_eq_true rfl)) dX7_place_4 ⟨Nat.le_of_ble_eq_true rfl, Nat.le_of_ble_eq_true rfl⟩) hP hD hS hA (fun v0 H locs hw hP hD hS hz => ?_)
  have hP : va_P D vwCl ([((ad 0), .inr (8, [.int (nI sz), .ref (ad 1), .ref (ad 5), .ref (ad 10), .ref (ad 13), .ref (ad 19), .ref (ad 14), .ref (ad 18), .int (nI nb)])), ((ad 1), .inr (5, [.ref (ad 2), .ref (ad 3), .ref (ad 4), .int (nI nr)])), ((ad 2), .inl (t 0, 16, .inl (nF rs))), ((ad 3), .inl (t 0, 16, .inl (nF re))), ((ad 4), .inl (t 0, 16, .inl (nF rr))), ((ad 5), .inr (6, [.ref (ad 6), .ref (ad 7), .ref (ad 8), .ref (ad 9), .int (nI ns)])), ((ad 6), .inl (t 0, 40, .inl (nF sl))), ((ad 7), .inl (t 0, 40, .inl (nF sa))), ((ad 8), .inl (t 0, 40, .inl (nF sk))), ((ad 9), .inl (t 0, 40, .inl (nF gf))), ((ad 10), .inr (7, [.ref (ad 11), .ref (ad 12), .int (nI 0)])), ((ad 11), .inl (t 0, 40, .inl (nF ts))), ((ad 12), .inl (t 0, 40, .inl (nF te))), ((ad 14), .inr (3, [.ref (ad 15), .ref (ad 16), .ref (ad 17)])), ((ad 15), .inl (t 0, 31, .inl (nF stk))), ((ad 16), .inl (t 0, 31, .inl (nF cm))), ((ad 17), .inl (t 0, 31, .inl (nF dp))), ((ad 18), .inl (t 4, 20, .inr (.inr (.inr (.inr (blkQ B nb)))))), ((ad 19), .inr (4, [.ref (ad 20), .int (nI lc), .ref (ad 21), .ref (ad 22), .int (nI kc)])), ((ad 20), .inl (t 0, 40, .inl (nF last))), ((ad 21), .inl (t 5, 50, .inr (.inr (.inr (.inr (rowQ r)))))), ((ad 22), .inl (t 0, 50, .inl (nF sc))), ((ad 13), .inl (t 0, 40, .inl (nF tr)))] ++ (seg (rowF t r K) 50 ++ seg (blkF t B) nb)) H := hP
  have hD : va_D A ([((ad 0), .inr (8, [.int (nI sz), .ref (ad 1), .ref (ad 5), .ref (ad 10), .ref (ad 13), .ref (ad 19), .ref (ad 14), .ref (ad 18), .int (nI nb)])), ((ad 1), .inr (5, [.ref (ad 2), .ref (ad 3), .ref (ad 4), .int (nI nr)])), ((ad 2), .inl (t 0, 16, .inl (nF rs))), ((ad 3), .inl (t 0, 16, .inl (nF re))), ((ad 4), .inl (t 0, 16, .inl (nF rr))), ((ad 5), .inr (6, [.ref (ad 6), .ref (ad 7), .ref (ad 8), .ref (ad 9), .int (nI ns)])), ((ad 6), .inl (t 0, 40, .inl (nF sl))), ((ad 7), .inl (t 0, 40, .inl (nF sa))), ((ad 8), .inl (t 0, 40, .inl (nF sk))), ((ad 9), .inl (t 0, 40, .inl (nF gf))), ((ad 10), .inr (7, [.ref (ad 11), .ref (ad 12), .int (nI 0)])), ((ad 11), .inl (t 0, 40, .inl (nF ts))), ((ad 12), .inl (t 0, 40, .inl (nF te))), ((ad 14), .inr (3, [.ref (ad 15), .ref (ad 16), .ref (ad 17)])), ((ad 15), .inl (t 0, 31, .inl (nF stk))), ((ad 16), .inl (t 0, 31, .inl (nF cm))), ((ad 17), .inl (t 0, 31, .inl (nF dp))), ((ad 18), .inl (t 4, 20, .inr (.inr (.inr (.inr (blkQ B nb)))))), ((ad 19), .inr (4, [.ref (ad 20), .int (nI lc), .ref (ad 21), .ref (ad 22), .int (nI kc)])), ((ad 20), .inl (t 0, 40, .inl (nF last))), ((ad 21), .inl (t 5, 50, .inr (.inr (.inr (.inr (rowQ r)))))), ((ad 22), .inl (t 0, 50, .inl (nF sc))), ((ad 13), .inl (t 0, 40, .inl (nF tr)))] ++ (seg (rowF t r K) 50 ++ seg (blkF t B) nb)) := hD
  refine lv_iconst (v := (nI 0)) hx hb dX7_place_7 (by decide) ?_
  refine lv_istore_n (lv' := [(1, .int (nI 0)), (0, .ref (ad 0))]) hx hb dX7_place_8 rfl hl (by decide) rfl (fun ls hl => ?_)
  refine W_loop (σ := Nat × (Nat × (Nat → Nat) × (Nat → Nat)) × (Nat → Nat)) (fun x => ns - x.1) (fun x H locs ls => match x with | (i, (a, f, g), P) => va_P D vwCl ([((ad 0), .inr (8, [.int (nI sz), .ref (ad 1), .ref (ad 5), .ref (ad 10), .ref (ad 13), .ref (ad 19), .ref (ad 14), .ref (ad 18), .int (nI nb)])), ((ad 1), .inr (5, [.ref (ad 2), .ref (ad 3), .ref (ad 4), .int (nI nr)])), ((ad 2), .inl (t 0, 16, .inl (nF rs))), ((ad 3), .inl (t 0, 16, .inl (nF re))), ((ad 4), .inl (t 0, 16, .inl (nF rr))), ((ad 5), .inr (6, [.ref (ad 6), .ref (ad 7), .ref (ad 8), .ref (ad 9), .int (nI ns)])), ((ad 6), .inl (t 0, 40, .inl (nF sl))), ((ad 7), .inl (t 0, 40, .inl (nF sa))), ((ad 8), .inl (t 0, 40, .inl (nF sk))), ((ad 9), .inl (t 0, 40, .inl (nF gf))), ((ad 10), .inr (7, [.ref (ad 11), .ref (ad 12), .int (nI a)])), ((ad 11), .inl (t 0, 40, .inl (nF f))), ((ad 12), .inl (t 0, 40, .inl (nF g))), ((ad 14), .inr (3, [.ref (ad 15), .ref (ad 16), .ref (ad 17)])), ((ad 15), .inl (t 0, 31, .inl (nF stk))), ((ad 16), .inl (t 0, 31, .inl (nF cm))), ((ad 17), .inl (t 0, 31, .inl (nF dp))), ((ad 18), .inl (t 4, 20, .inr (.inr (.inr (.inr (blkQ B nb)))))), ((ad 19), .inr (4, [.ref (ad 20), .int (nI lc), .ref (ad 21), .ref (ad 22), .int (nI kc)])), ((ad 20), .inl (t 0, 40, .inl (nF last))), ((ad 21), .inl (t 5, 50, .inr (.inr (.inr (.inr (rowQ r)))))), ((ad 22), .inl (t 0, 50, .inl (nF sc))), ((ad 13), .inl (t 0, 40, .inl (nF P)))] ++ (seg (rowF t r K) 50 ++ seg (blkF t B) nb)) H ∧ va_D A ([((ad 0), .inr (8, [.int (nI sz), .ref (ad 1), .ref (ad 5), .ref (ad 10), .ref (ad 13), .ref (ad 19), .ref (ad 14), .ref (ad 18), .int (nI nb)])), ((ad 1), .inr (5, [.ref (ad 2), .ref (ad 3), .ref (ad 4), .int (nI nr)])), ((ad 2), .inl (t 0, 16, .inl (nF rs))), ((ad 3), .inl (t 0, 16, .inl (nF re))), ((ad 4), .inl (t 0, 16, .inl (nF rr))), ((ad 5), .inr (6, [.ref (ad 6), .ref (ad 7), .ref (ad 8), .ref (ad 9), .int (nI ns)])), ((ad 6), .inl (t 0, 40, .inl (nF sl))), ((ad 7), .inl (t 0, 40, .inl (nF sa))), ((ad 8), .inl (t 0, 40, .inl (nF sk))), ((ad 9), .inl (t 0, 40, .inl (nF gf))), ((ad 10), .inr (7, [.ref (ad 11), .ref (ad 12), .int (nI a)])), ((ad 11), .inl (t 0, 40, .inl (nF f))), ((ad 12), .inl (t 0, 40, .inl (nF g))), ((ad 14), .inr (3, [.ref (ad 15), .ref (ad 16), .ref (ad 17)])), ((ad 15), .inl (t 0, 31, .inl (nF stk))), ((ad 16), .inl (t 0, 31, .inl (nF cm))), ((ad 17), .inl (t 0, 31, .inl (nF dp))), ((ad 18), .inl (t 4, 20, .inr (.inr (.inr (.inr (blkQ B nb)))))), ((ad 19), .inr (4, [.ref (ad 20), .int (nI lc), .ref (ad 21), .ref (ad 22), .int (nI kc)])), ((ad 20), .inl (t 0, 40, .inl (nF last))), ((ad 21), .inl (t 5, 50, .inr (.inr (.inr (.inr (rowQ r)))))), ((ad 22), .inl (t 0, 50, .inl (nF sc))), ((ad 13), .inl (t 0, 40, .inl (nF P)))] ++ (seg (rowF t r K) 50 ++ seg (blkF t B) nb)) ∧ va_S A s.heap H locs ∧ lv_has ls 4 [(1, .int (nI i)), (0, .ref (ad 0))] ∧ i ≤ ns ∧ TkI a f g sl gf P i ∧ (∀ j, j < i → OkAt nr rs re rr sl sa sk gf P j) ∧ ∀ k, P k ≤ 65536) ?_ (0, (0, ts, te), tr) _ _ _ ⟨hP, hD, hS, hl, Nat.zero_le _, TkI_0 hts1 hte1, fun j hj => absurd hj (Nat.not_lt_zero _), htr⟩
  clear hP hD hS hl
  rintro ⟨i, ⟨a, f, g⟩, P⟩ H locs ls ⟨hP, hD, hS, hl, hi, hT, hok, hPb⟩ ih
  refine lv_iload_n hx hb dX7_place_9 rfl (lv_at hl 0 rfl) ?_
  refine lv_aload_n hx hb dX7_place_10 rfl (lv_at hl 1 rfl) ?_
  refine va_get (D := D) (ci := 8) (v := .ref (ad 5)) (C := RX7) (T := TX7) (N := 9) hx hb hts i_X7_place_X7 hown hK hP 0 rfl rfl 2 (by decide) (hts (.fieldLink RX7 19 "MemoryMap" "sections" "LMemoryMap$Sections;") (List.mem_of_getElem? (i := 2) rfl)) (fun _ h9 => h9) rfl dX7_place_11 ?_
  refine va_getN (host := "MemoryMap") (own := RX7) (D := D) (ci := 6) (v := .int (nI ns)) (C := RX5) (T := TX5) (N := 5) hx hb hts i_X7_place_X5 hown hK hP 5 rfl rfl 4 (by decide) (hN.f 7 rfl) (fun _ h9 => h9) rfl dX7_place_14 ?_
  refine r_icmp_ge (x := i) (y := ns) (tgt := 59) hx hb (by omega) (by omega) dX7_place_17 (by decide) (fun c1 => ?_) (fun c1 => ?_)
  · refine lv_aload_n hx hb dX7_place_59 rfl (lv_at hl 1 rfl) ?_
    refine va_get (D := D) (ci := 8) (v := .ref (ad 19)) (C := RX7) (T := TX7) (N := 9) hx hb hts i_X7_place_X7 hown hK hP 0 rfl rfl 5 (by decide) (hts (.fieldLink RX7 37 "MemoryMap" "placements" "LMemoryMap$Placements;") (List.mem_of_getElem? (i := 4) rfl)) (fun _ h9 => h9) rfl dX7_place_60 ?_
    refine lv_aload_n hx hb dX7_place_63 rfl (lv_at hl 1 rfl) ?_
    refine va_get (D := D) (ci := 8) (v := .ref (ad 13)) (C := RX7) (T := TX7) (N := 9) hx hb hts i_X7_place_X7 hown hK hP 0 rfl rfl 4 (by decide) (hts (.fieldLink RX7 30 "MemoryMap" "trial" "[I") (List.mem_of_getElem? (i := 3) rfl)) (fun _ h9 => h9) rfl dX7_place_64 ?_
    refine lv_aload_n hx hb dX7_place_67 rfl (lv_at hl 1 rfl) ?_
    refine va_get (D := D) (ci := 8) (v := .ref (ad 5)) (C := RX7) (T := TX7) (N := 9) hx hb hts i_X7_place_X7 hown hK hP 0 rfl rfl 2 (by decide) (hts (.fieldLink RX7 19 "MemoryMap" "sections" "LMemoryMap$Sections;") (List.mem_of_getElem? (i := 2) rfl)) (fun _ h9 => h9) rfl dX7_place_68 ?_
    refine va_getN (host := "MemoryMap") (own := RX7) (D := D) (ci := 6) (v := .int (nI ns)) (C := RX5) (T := TX5) (N := 5) hx hb hts i_X7_place_X5 hown hK hP 5 rfl rfl 4 (by decide) (hN.f 7 rfl) (fun _ h9 => h9) rfl dX7_place_71 ?_
    refine call_Mvp (wc := ([((ad 19), .inr (4, [.ref (ad 20), .int (nI lc), .ref (ad 21), .ref (ad 22), .int (nI kc)])), ((ad 20), .inl (t 0, 40, .inl (nF last))), ((ad 21), .inl (t 5, 50, .inr (.inr (.inr (.inr (rowQ r)))))), ((ad 22), .inl (t 0, 50, .inl (nF sc))), ((ad 13), .inl (t 0, 40, .inl (nF P)))] ++ seg (rowF t r K) 50)) (wc' := fun v : (Nat → Nat) × Nat × (Nat → Nat) × (Nat → Nat → Nat) => ([((ad 19), .inr (4, [.ref (ad 20), .int (nI ns), .ref (ad 21), .ref (ad 22), .int (nI (v.2.1))])), ((ad 20), .inl (t 0, 40, .inl (nF v.1))), ((ad 21), .inl (t 5, 50, .inr (.inr (.inr (.inr (rowQ r)))))), ((ad 22), .inl (t 0, 50, .inl (nF v.2.2.1))), ((ad 13), .inl (t 0, 40, .inl (nF P)))] ++ seg (rowF t r v.2.2.2) 50)) [((ad 0), .inr (8, [.int (nI sz), .ref (ad 1), .ref (ad 5), .ref (ad 10), .ref (ad 13), .ref (ad 19), .ref (ad 14), .ref (ad 18), .int (nI nb)])), ((ad 1), .inr (5, [.ref (ad 2), .ref (ad 3), .ref (ad 4), .int (nI nr)])), ((ad 2), .inl (t 0, 16, .inl (nF rs))), ((ad 3), .inl (t 0, 16, .inl (nF re))), ((ad 4), .inl (t 0, 16, .inl (nF rr))), ((ad 5), .inr (6, [.ref (ad 6), .ref (ad 7), .ref (ad 8), .ref (ad 9), .int (nI ns)])), ((ad 6), .inl (t 0, 40, .inl (nF sl))), ((ad 7), .inl (t 0, 40, .inl (nF sa))), ((ad 8), .inl (t 0, 40, .inl (nF sk))), ((ad 9), .inl (t 0, 40, .inl (nF gf))), ((ad 10), .inr (7, [.ref (ad 11), .ref (ad 12), .int (nI a)])), ((ad 11), .inl (t 0, 40, .inl (nF f))), ((ad 12), .inl (t 0, 40, .inl (nF g))), ((ad 14), .inr (3, [.ref (ad 15), .ref (ad 16), .ref (ad 17)])), ((ad 15), .inl (t 0, 31, .inl (nF stk))), ((ad 16), .inl (t 0, 31, .inl (nF cm))), ((ad 17), .inl (t 0, 31, .inl (nF dp))), ((ad 18), .inl (t 4, 20, .inr (.inr (.inr (.inr (blkQ B nb))))))] (seg (blkF t B) nb) (va_runVN (As := [.ref (ad 13), .int (nI ns)]) (rest := []) ⟨hx, hb, hml, hown, hts⟩ (c_X3_add l D t (ad 19) (ad 20) (ad 21) (ad 22) lc kc last sc r K (ad 13) ns P hns hkc _) (⟨va_cnB 2 hts ggX7_place_X3_add rfl rfl rfl (hN.m 11 rfl) (hts (.initialized RX3) (List.mem_of_getElem? (i := 33) rfl)) (by decide +kernel) ⟨Nat.le_of_ble_eq_true rfl, Nat.le_of_ble_eq_true rfl⟩, (hts (.instanceMethod yX3_add) (List.mem_of_getElem? (i := 32) rfl)), (hts (.selects RX3 yX3_add yX3_add) (List.mem_of_getElem? (i := 34) rfl))⟩) (preVp (wc := ([((ad 19), .inr (4, [.ref (ad 20), .int (nI lc), .ref (ad 21), .ref (ad 22), .int (nI kc)])), ((ad 20), .inl (t 0, 40, .inl (nF last))), ((ad 21), .inl (t 5, 50, .inr (.inr (.inr (.inr (rowQ r)))))), ((ad 22), .inl (t 0, 50, .inl (nF sc))), ((ad 13), .inl (t 0, 40, .inl (nF P)))] ++ seg (rowF t r K) 50)) [((ad 0), .inr (8, [.int (nI sz), .ref (ad 1), .ref (ad 5), .ref (ad 10), .ref (ad 13), .ref (ad 19), .ref (ad 14), .ref (ad 18), .int (nI nb)])), ((ad 1), .inr (5, [.ref (ad 2), .ref (ad 3), .ref (ad 4), .int (nI nr)])), ((ad 2), .inl (t 0, 16, .inl (nF rs))), ((ad 3), .inl (t 0, 16, .inl (nF re))), ((ad 4), .inl (t 0, 16, .inl (nF rr))), ((ad 5), .inr (6, [.ref (ad 6), .ref (ad 7), .ref (ad 8), .ref (ad 9), .int (nI ns)])), ((ad 6), .inl (t 0, 40, .inl (nF sl))), ((ad 7), .inl (t 0, 40, .inl (nF sa))), ((ad 8), .inl (t 0, 40, .inl (nF sk))), ((ad 9), .inl (t 0, 40, .inl (nF gf))), ((ad 10), .inr (7, [.ref (ad 11), .ref (ad 12), .int (nI a)])), ((ad 11), .inl (t 0, 40, .inl (nF f))), ((ad 12), .inl (t 0, 40, .inl (nF g))), ((ad 14), .inr (3, [.ref (ad 15), .ref (ad 16), .ref (ad 17)])), ((ad 15), .inl (t 0, 31, .inl (nF stk))), ((ad 16), .inl (t 0, 31, .inl (nF cm))), ((ad 17), .inl (t 0, 31, .inl (nF dp))), ((ad 18), .inl (t 4, 20, .inr (.inr (.inr (.inr (blkQ B nb))))))] (seg (blkF t B) nb) hP hD hK hN 4 0 rfl rfl rfl) rfl rfl hl.1 rfl (lv_room (Nat.le_of_ble_eq_true rfl)) dX7_place_74 ⟨Nat.le_of_ble_eq_true rfl, Nat.le_of_ble_eq_true rfl⟩) hP hD hS hA (fun v H locs hw hP hD hS hz => ?_)
    have hP : va_P D vwCl ([((ad 0), .inr (8, [.int (nI sz), .ref (ad 1), .ref (ad 5), .ref (ad 10), .ref (ad 13), .ref (ad 19), .ref (ad 14), .ref (ad 18), .int (nI nb)])), ((ad 1), .inr (5, [.ref (ad 2), .ref (ad 3), .ref (ad 4), .int (nI nr)])), ((ad 2), .inl (t 0, 16, .inl (nF rs))), ((ad 3), .inl (t 0, 16, .inl (nF re))), ((ad 4), .inl (t 0, 16, .inl (nF rr))), ((ad 5), .inr (6, [.ref (ad 6), .ref (ad 7), .ref (ad 8), .ref (ad 9), .int (nI ns)])), ((ad 6), .inl (t 0, 40, .inl (nF sl))), ((ad 7), .inl (t 0, 40, .inl (nF sa))), ((ad 8), .inl (t 0, 40, .inl (nF sk))), ((ad 9), .inl (t 0, 40, .inl (nF gf))), ((ad 10), .inr (7, [.ref (ad 11), .ref (ad 12), .int (nI a)])), ((ad 11), .inl (t 0, 40, .inl (nF f))), ((ad 12), .inl (t 0, 40, .inl (nF g))), ((ad 14), .inr (3, [.ref (ad 15), .ref (ad 16), .ref (ad 17)])), ((ad 15), .inl (t 0, 31, .inl (nF stk))), ((ad 16), .inl (t 0, 31, .inl (nF cm))), ((ad 17), .inl (t 0, 31, .inl (nF dp))), ((ad 18), .inl (t 4, 20, .inr (.inr (.inr (.inr (blkQ B nb)))))), ((ad 19), .inr (4, [.ref (ad 20), .int (nI ns), .ref (ad 21), .ref (ad 22), .int (nI (v.2.1))])), ((ad 20), .inl (t 0, 40, .inl (nF v.1))), ((ad 21), .inl (t 5, 50, .inr (.inr (.inr (.inr (rowQ r)))))), ((ad 22), .inl (t 0, 50, .inl (nF v.2.2.1))), ((ad 13), .inl (t 0, 40, .inl (nF P)))] ++ (seg (rowF t r v.2.2.2) 50 ++ seg (blkF t B) nb)) H := hP
    have hD : va_D A ([((ad 0), .inr (8, [.int (nI sz), .ref (ad 1), .ref (ad 5), .ref (ad 10), .ref (ad 13), .ref (ad 19), .ref (ad 14), .ref (ad 18), .int (nI nb)])), ((ad 1), .inr (5, [.ref (ad 2), .ref (ad 3), .ref (ad 4), .int (nI nr)])), ((ad 2), .inl (t 0, 16, .inl (nF rs))), ((ad 3), .inl (t 0, 16, .inl (nF re))), ((ad 4), .inl (t 0, 16, .inl (nF rr))), ((ad 5), .inr (6, [.ref (ad 6), .ref (ad 7), .ref (ad 8), .ref (ad 9), .int (nI ns)])), ((ad 6), .inl (t 0, 40, .inl (nF sl))), ((ad 7), .inl (t 0, 40, .inl (nF sa))), ((ad 8), .inl (t 0, 40, .inl (nF sk))), ((ad 9), .inl (t 0, 40, .inl (nF gf))), ((ad 10), .inr (7, [.ref (ad 11), .ref (ad 12), .int (nI a)])), ((ad 11), .inl (t 0, 40, .inl (nF f))), ((ad 12), .inl (t 0, 40, .inl (nF g))), ((ad 14), .inr (3, [.ref (ad 15), .ref (ad 16), .ref (ad 17)])), ((ad 15), .inl (t 0, 31, .inl (nF stk))), ((ad 16), .inl (t 0, 31, .inl (nF cm))), ((ad 17), .inl (t 0, 31, .inl (nF dp))), ((ad 18), .inl (t 4, 20, .inr (.inr (.inr (.inr (blkQ B nb)))))), ((ad 19), .inr (4, [.ref (ad 20), .int (nI ns), .ref (ad 21), .ref (ad 22), .int (nI (v.2.1))])), ((ad 20), .inl (t 0, 40, .inl (nF v.1))), ((ad 21), .inl (t 5, 50, .inr (.inr (.inr (.inr (rowQ r)))))), ((ad 22), .inl (t 0, 50, .inl (nF v.2.2.1))), ((ad 13), .inl (t 0, 40, .inl (nF P)))] ++ (seg (rowF t r v.2.2.2) 50 ++ seg (blkF t B) nb)) := hD
    refine lv_iconst (v := (nI 1)) hx hb dX7_place_77 (by decide) ?_
    subst hw
    exact ret_Mi hx hb hr hlk (((a, f, g), P, (ns, va_cpy P last 0 0 ns, (if kc < 50 then kc + 1 else kc), (if kc < 50 then va_up sc kc ns else sc), (if kc < 50 then va_up K kc (va_cpy P (K kc) 0 0 ns) else K)))) (⟨hT.2.2.2.1, hT.2.2.2.2.1, hPb, Or.inl ⟨fun j hj => hok j (by omega), rfl, rfl⟩⟩) hP hD hS (Nat.le_of_ble_eq_true rfl) (Nat.le_of_ble_eq_true rfl) dX7_place_78
  · refine lv_aload_n hx hb dX7_place_20 rfl (lv_at hl 1 rfl) ?_
    refine va_get (D := D) (ci := 8) (v := .ref (ad 5)) (C := RX7) (T := TX7) (N := 9) hx hb hts i_X7_place_X7 hown hK hP 0 rfl rfl 2 (by decide) (hts (.fieldLink RX7 19 "MemoryMap" "sections" "LMemoryMap$Sections;") (List.mem_of_getElem? (i := 2) rfl)) (fun _ h9 => h9) rfl dX7_place_21 ?_
    refine va_getN (host := "MemoryMap") (own := RX7) (D := D) (ci := 6) (v := .ref (ad 9)) (C := RX5) (T := TX5) (N := 5) hx hb hts i_X7_place_X5 hown hK hP 5 rfl rfl 3 (by decide) (hN.f 6 rfl) (fun _ h9 => h9) rfl dX7_place_24 ?_
    refine lv_iload_n hx hb dX7_place_27 rfl (lv_at hl 0 rfl) ?_
    refine r_iald hx hb hK hP 9 0 rfl rfl (i := i) (by omega) (by omega) dX7_place_28 ?_
    have hg1 := hgf i c1
    have hnta := hT.1
    refine lv_istore_n (lv' := [(2, .int (nI (gf i))), (1, .int (nI i)), (0, .ref (ad 0))]) hx hb dX7_place_29 rfl hl (by decide) rfl (fun ls hl => ?_)
    refine lv_aload_n hx hb dX7_place_30 rfl (lv_at hl 2 rfl) ?_
    refine lv_iload_n hx hb dX7_place_31 rfl (lv_at hl 0 rfl) ?_
    refine call_Mip (wc := [((ad 0), .inr (8, [.int (nI sz), .ref (ad 1), .ref (ad 5), .ref (ad 10), .ref (ad 13), .ref (ad 19), .ref (ad 14), .ref (ad 18), .int (nI nb)])), ((ad 1), .inr (5, [.ref (ad 2), .ref (ad 3), .ref (ad 4), .int (nI nr)])), ((ad 2), .inl (t 0, 16, .inl (nF rs))), ((ad 3), .inl (t 0, 16, .inl (nF re))), ((ad 4), .inl (t 0, 16, .inl (nF rr))), ((ad 5), .inr (6, [.ref (ad 6), .ref (ad 7), .ref (ad 8), .ref (ad 9), .int (nI ns)])), ((ad 6), .inl (t 0, 40, .inl (nF sl))), ((ad 7), .inl (t 0, 40, .inl (nF sa))), ((ad 8), .inl (t 0, 40, .inl (nF sk))), ((ad 9), .inl (t 0, 40, .inl (nF gf))), ((ad 10), .inr (7, [.ref (ad 11), .ref (ad 12), .int (nI a)])), ((ad 11), .inl (t 0, 40, .inl (nF f))), ((ad 12), .inl (t 0, 40, .inl (nF g)))]) (wc' := fun v : Nat × (Nat → Nat) × (Nat → Nat) => [((ad 0), .inr (8, [.int (nI sz), .ref (ad 1), .ref (ad 5), .ref (ad 10), .ref (ad 13), .ref (ad 19), .ref (ad 14), .ref (ad 18), .int (nI nb)])), ((ad 1), .inr (5, [.ref (ad 2), .ref (ad 3), .ref (ad 4), .int (nI nr)])), ((ad 2), .inl (t 0, 16, .inl (nF rs))), ((ad 3), .inl (t 0, 16, .inl (nF re))), ((ad 4), .inl (t 0, 16, .inl (nF rr))), ((ad 5), .inr (6, [.ref (ad 6), .ref (ad 7), .ref (ad 8), .ref (ad 9), .int (nI ns)])), ((ad 6), .inl (t 0, 40, .inl (nF sl))), ((ad 7), .inl (t 0, 40, .inl (nF sa))), ((ad 8), .inl (t 0, 40, .inl (nF sk))), ((ad 9), .inl (t 0, 40, .inl (nF gf))), ((ad 10), .inr (7, [.ref (ad 11), .ref (ad 12), .int (nI (v.1))])), ((ad 11), .inl (t 0, 40, .inl (nF v.2.1))), ((ad 12), .inl (t 0, 40, .inl (nF v.2.2)))]) [] ([((ad 14), .inr (3, [.ref (ad 15), .ref (ad 16), .ref (ad 17)])), ((ad 15), .inl (t 0, 31, .inl (nF stk))), ((ad 16), .inl (t 0, 31, .inl (nF cm))), ((ad 17), .inl (t 0, 31, .inl (nF dp))), ((ad 18), .inl (t 4, 20, .inr (.inr (.inr (.inr (blkQ B nb)))))), ((ad 19), .inr (4, [.ref (ad 20), .int (nI lc), .ref (ad 21), .ref (ad 22), .int (nI kc)])), ((ad 20), .inl (t 0, 40, .inl (nF last))), ((ad 21), .inl (t 5, 50, .inr (.inr (.inr (.inr (rowQ r)))))), ((ad 22), .inl (t 0, 50, .inl (nF sc))), ((ad 13), .inl (t 0, 40, .inl (nF P)))] ++ (seg (rowF t r K) 50 ++ seg (blkF t B) nb)) (va_runV (As := [.int (nI (gf i))]) (rest := []) ⟨hx, hb, hml, hown, hts⟩ (c_X7_takeSpaceFor l D t ad sz nb nr rs re rr ns sl sa sk gf a f g (gf i) hnr hrs hre hns hsl hsa hsk hg1 (hsa1 _ hg1) (by omega) hT.2.2.2.1 hT.2.2.2.2.1 hT.2.1 hT.2.2.1 _) (cwV 1 hts gX7_place_X7_takeSpaceFor rfl rfl rfl (by decide +kernel) ⟨Nat.le_of_ble_eq_true rfl, Nat.le_of_ble_eq_true rfl⟩) (preVp (wc := [((ad 0), .inr (8, [.int (nI sz), .ref (ad 1), .ref (ad 5), .ref (ad 10), .ref (ad 13), .ref (ad 19), .ref (ad 14), .ref (ad 18), .int (nI nb)])), ((ad 1), .inr (5, [.ref (ad 2), .ref (ad 3), .ref (ad 4), .int (nI nr)])), ((ad 2), .inl (t 0, 16, .inl (nF rs))), ((ad 3), .inl (t 0, 16, .inl (nF re))), ((ad 4), .inl (t 0, 16, .inl (nF rr))), ((ad 5), .inr (6, [.ref (ad 6), .ref (ad 7), .ref (ad 8), .ref (ad 9), .int (nI ns)])), ((ad 6), .inl (t 0, 40, .inl (nF sl))), ((ad 7), .inl (t 0, 40, .inl (nF sa))), ((ad 8), .inl (t 0, 40, .inl (nF sk))), ((ad 9), .inl (t 0, 40, .inl (nF gf))), ((ad 10), .inr (7, [.ref (ad 11), .ref (ad 12), .int (nI a)])), ((ad 11), .inl (t 0, 40, .inl (nF f))), ((ad 12), .inl (t 0, 40, .inl (nF g)))]) [] ([((ad 14), .inr (3, [.ref (ad 15), .ref (ad 16), .ref (ad 17)])), ((ad 15), .inl (t 0, 31, .inl (nF stk))), ((ad 16), .inl (t 0, 31, .inl (nF cm))), ((ad 17), .inl (t 0, 31, .inl (nF dp))), ((ad 18), .inl (t 4, 20, .inr (.inr (.inr (.inr (blkQ B nb)))))), ((ad 19), .inr (4, [.ref (ad 20), .int (nI lc), .ref (ad 21), .ref (ad 22), .int (nI kc)])), ((ad 20), .inl (t 0, 40, .inl (nF last))), ((ad 21), .inl (t 5, 50, .inr (.inr (.inr (.inr (rowQ r)))))), ((ad 22), .inl (t 0, 50, .inl (nF sc))), ((ad 13), .inl (t 0, 40, .inl (nF P)))] ++ (seg (rowF t r K) 50 ++ seg (blkF t B) nb)) hP hD hK hN 8 0 rfl rfl rfl) rfl rfl hl.1 rfl (lv_room (Nat.le_of_ble_eq_true rfl)) dX7_place_32 ⟨Nat.le_of_ble_eq_true rfl, Nat.le_of_ble_eq_true rfl⟩) hP hD hS hA (fun z v H locs hw hP hD hS hz => ?_)
    have hP : va_P D vwCl ([((ad 0), .inr (8, [.int (nI sz), .ref (ad 1), .ref (ad 5), .ref (ad 10), .ref (ad 13), .ref (ad 19), .ref (ad 14), .ref (ad 18), .int (nI nb)])), ((ad 1), .inr (5, [.ref (ad 2), .ref (ad 3), .ref (ad 4), .int (nI nr)])), ((ad 2), .inl (t 0, 16, .inl (nF rs))), ((ad 3), .inl (t 0, 16, .inl (nF re))), ((ad 4), .inl (t 0, 16, .inl (nF rr))), ((ad 5), .inr (6, [.ref (ad 6), .ref (ad 7), .ref (ad 8), .ref (ad 9), .int (nI ns)])), ((ad 6), .inl (t 0, 40, .inl (nF sl))), ((ad 7), .inl (t 0, 40, .inl (nF sa))), ((ad 8), .inl (t 0, 40, .inl (nF sk))), ((ad 9), .inl (t 0, 40, .inl (nF gf))), ((ad 10), .inr (7, [.ref (ad 11), .ref (ad 12), .int (nI (v.1))])), ((ad 11), .inl (t 0, 40, .inl (nF v.2.1))), ((ad 12), .inl (t 0, 40, .inl (nF v.2.2))), ((ad 14), .inr (3, [.ref (ad 15), .ref (ad 16), .ref (ad 17)])), ((ad 15), .inl (t 0, 31, .inl (nF stk))), ((ad 16), .inl (t 0, 31, .inl (nF cm))), ((ad 17), .inl (t 0, 31, .inl (nF dp))), ((ad 18), .inl (t 4, 20, .inr (.inr (.inr (.inr (blkQ B nb)))))), ((ad 19), .inr (4, [.ref (ad 20), .int (nI lc), .ref (ad 21), .ref (ad 22), .int (nI kc)])), ((ad 20), .inl (t 0, 40, .inl (nF last))), ((ad 21), .inl (t 5, 50, .inr (.inr (.inr (.inr (rowQ r)))))), ((ad 22), .inl (t 0, 50, .inl (nF sc))), ((ad 13), .inl (t 0, 40, .inl (nF P)))] ++ (seg (rowF t r K) 50 ++ seg (blkF t B) nb)) H := hP
    have hD : va_D A ([((ad 0), .inr (8, [.int (nI sz), .ref (ad 1), .ref (ad 5), .ref (ad 10), .ref (ad 13), .ref (ad 19), .ref (ad 14), .ref (ad 18), .int (nI nb)])), ((ad 1), .inr (5, [.ref (ad 2), .ref (ad 3), .ref (ad 4), .int (nI nr)])), ((ad 2), .inl (t 0, 16, .inl (nF rs))), ((ad 3), .inl (t 0, 16, .inl (nF re))), ((ad 4), .inl (t 0, 16, .inl (nF rr))), ((ad 5), .inr (6, [.ref (ad 6), .ref (ad 7), .ref (ad 8), .ref (ad 9), .int (nI ns)])), ((ad 6), .inl (t 0, 40, .inl (nF sl))), ((ad 7), .inl (t 0, 40, .inl (nF sa))), ((ad 8), .inl (t 0, 40, .inl (nF sk))), ((ad 9), .inl (t 0, 40, .inl (nF gf))), ((ad 10), .inr (7, [.ref (ad 11), .ref (ad 12), .int (nI (v.1))])), ((ad 11), .inl (t 0, 40, .inl (nF v.2.1))), ((ad 12), .inl (t 0, 40, .inl (nF v.2.2))), ((ad 14), .inr (3, [.ref (ad 15), .ref (ad 16), .ref (ad 17)])), ((ad 15), .inl (t 0, 31, .inl (nF stk))), ((ad 16), .inl (t 0, 31, .inl (nF cm))), ((ad 17), .inl (t 0, 31, .inl (nF dp))), ((ad 18), .inl (t 4, 20, .inr (.inr (.inr (.inr (blkQ B nb)))))), ((ad 19), .inr (4, [.ref (ad 20), .int (nI lc), .ref (ad 21), .ref (ad 22), .int (nI kc)])), ((ad 20), .inl (t 0, 40, .inl (nF last))), ((ad 21), .inl (t 5, 50, .inr (.inr (.inr (.inr (rowQ r)))))), ((ad 22), .inl (t 0, 50, .inl (nF sc))), ((ad 13), .inl (t 0, 40, .inl (nF P)))] ++ (seg (rowF t r K) 50 ++ seg (blkF t B) nb)) := hD
    have hne : ∀ m, m < i → gf m ≠ gf i := fun m hm e => absurd (hinj m i (by omega) c1 e) (by omega)
    have hPu : ∀ (x m : Nat), m < i → va_up P (gf i) x (gf m) = P (gf m) := fun x m hm => va_up_ne _ _ (hne m hm)
    have hNo : ∀ q, NoR f g a rs re rr (sl (gf i)) (sa (gf i)) (sk (gf i)) q → NoO nr rs re rr sl sa sk gf P i q := fun q h => h.imp id (fun z b z1 z2 z3 z4 => z b z1 z2 z3 ((TkI_fre hT).mpr z4))
    rcases hw with ⟨g0, rfl, rfl⟩ | ⟨g0, q, g1, g2, g3, y, rfl, ⟨y1, y2, y3, y4, y5⟩, f1, f2, rfl, p, z1, z2, z3, z4, z5⟩ | ⟨g0, g1, rfl, rfl⟩
    · have hP : va_P D vwCl ([((ad 0), .inr (8, [.int (nI sz), .ref (ad 1), .ref (ad 5), .ref (ad 10), .ref (ad 13), .ref (ad 19), .ref (ad 14), .ref (ad 18), .int (nI nb)])), ((ad 1), .inr (5, [.ref (ad 2), .ref (ad 3), .ref (ad 4), .int (nI nr)])), ((ad 2), .inl (t 0, 16, .inl (nF rs))), ((ad 3), .inl (t 0, 16, .inl (nF re))), ((ad 4), .inl (t 0, 16, .inl (nF rr))), ((ad 5), .inr (6, [.ref (ad 6), .ref (ad 7), .ref (ad 8), .ref (ad 9), .int (nI ns)])), ((ad 6), .inl (t 0, 40, .inl (nF sl))), ((ad 7), .inl (t 0, 40, .inl (nF sa))), ((ad 8), .inl (t 0, 40, .inl (nF sk))), ((ad 9), .inl (t 0, 40, .inl (nF gf))), ((ad 10), .inr (7, [.ref (ad 11), .ref (ad 12), .int (nI a)])), ((ad 11), .inl (t 0, 40, .inl (nF f))), ((ad 12), .inl (t 0, 40, .inl (nF g))), ((ad 14), .inr (3, [.ref (ad 15), .ref (ad 16), .ref (ad 17)])), ((ad 15), .inl (t 0, 31, .inl (nF stk))), ((ad 16), .inl (t 0, 31, .inl (nF cm))), ((ad 17), .inl (t 0, 31, .inl (nF dp))), ((ad 18), .inl (t 4, 20, .inr (.inr (.inr (.inr (blkQ B nb)))))), ((ad 19), .inr (4, [.ref (ad 20), .int (nI lc), .ref (ad 21), .ref (ad 22), .int (nI kc)])), ((ad 20), .inl (t 0, 40, .inl (nF last))), ((ad 21), .inl (t 5, 50, .inr (.inr (.inr (.inr (rowQ r)))))), ((ad 22), .inl (t 0, 50, .inl (nF sc))), ((ad 13), .inl (t 0, 40, .inl (nF P)))] ++ (seg (rowF t r K) 50 ++ seg (blkF t B) nb)) H := hP
      have hD : va_D A ([((ad 0), .inr (8, [.int (nI sz), .ref (ad 1), .ref (ad 5), .ref (ad 10), .ref (ad 13), .ref (ad 19), .ref (ad 14), .ref (ad 18), .int (nI nb)])), ((ad 1), .inr (5, [.ref (ad 2), .ref (ad 3), .ref (ad 4), .int (nI nr)])), ((ad 2), .inl (t 0, 16, .inl (nF rs))), ((ad 3), .inl (t 0, 16, .inl (nF re))), ((ad 4), .inl (t 0, 16, .inl (nF rr))), ((ad 5), .inr (6, [.ref (ad 6), .ref (ad 7), .ref (ad 8), .ref (ad 9), .int (nI ns)])), ((ad 6), .inl (t 0, 40, .inl (nF sl))), ((ad 7), .inl (t 0, 40, .inl (nF sa))), ((ad 8), .inl (t 0, 40, .inl (nF sk))), ((ad 9), .inl (t 0, 40, .inl (nF gf))), ((ad 10), .inr (7, [.ref (ad 11), .ref (ad 12), .int (nI a)])), ((ad 11), .inl (t 0, 40, .inl (nF f))), ((ad 12), .inl (t 0, 40, .inl (nF g))), ((ad 14), .inr (3, [.ref (ad 15), .ref (ad 16), .ref (ad 17)])), ((ad 15), .inl (t 0, 31, .inl (nF stk))), ((ad 16), .inl (t 0, 31, .inl (nF cm))), ((ad 17), .inl (t 0, 31, .inl (nF dp))), ((ad 18), .inl (t 4, 20, .inr (.inr (.inr (.inr (blkQ B nb)))))), ((ad 19), .inr (4, [.ref (ad 20), .int (nI lc), .ref (ad 21), .ref (ad 22), .int (nI kc)])), ((ad 20), .inl (t 0, 40, .inl (nF last))), ((ad 21), .inl (t 5, 50, .inr (.inr (.inr (.inr (rowQ r)))))), ((ad 22), .inl (t 0, 50, .inl (nF sc))), ((ad 13), .inl (t 0, 40, .inl (nF P)))] ++ (seg (rowF t r K) 50 ++ seg (blkF t B) nb)) := hD
      refine lv_istore_n (lv' := [(3, .int (nI 0)), (2, .int (nI (gf i))), (1, .int (nI i)), (0, .ref (ad 0))]) hx hb dX7_place_35 rfl hl (by decide) rfl (fun ls hl => ?_)
      refine lv_iload_n hx hb dX7_place_36 rfl (lv_at hl 0 rfl) ?_
      refine lv_iconst (v := ((-1))) hx hb dX7_place_37 (by decide) ?_
      refine lv_icmp_ne (tgt := 46) hx hb dX7_place_38 (by decide) (fun c2 => ?_) (fun c2 => ?_)
      · refine lv_aload_n hx hb dX7_place_46 rfl (lv_at hl 3 rfl) ?_
        refine va_get (D := D) (ci := 8) (v := .ref (ad 13)) (C := RX7) (T := TX7) (N := 9) hx hb hts i_X7_place_X7 hown hK hP 0 rfl rfl 4 (by decide) (hts (.fieldLink RX7 30 "MemoryMap" "trial" "[I") (List.mem_of_getElem? (i := 3) rfl)) (fun _ h9 => h9) rfl dX7_place_47 ?_
        refine lv_iload_n hx hb dX7_place_50 rfl (lv_at hl 1 rfl) ?_
        refine lv_iload_n hx hb dX7_place_51 rfl (lv_at hl 0 rfl) ?_
        refine r_iast hx hb hK hP hD hS 22 0 rfl rfl (i := gf i) (by omega) (by omega) dX7_place_52 (fun H locs hP hD hS => ?_)
        have hP : va_P D vwCl ([((ad 0), .inr (8, [.int (nI sz), .ref (ad 1), .ref (ad 5), .ref (ad 10), .ref (ad 13), .ref (ad 19), .ref (ad 14), .ref (ad 18), .int (nI nb)])), ((ad 1), .inr (5, [.ref (ad 2), .ref (ad 3), .ref (ad 4), .int (nI nr)])), ((ad 2), .inl (t 0, 16, .inl (nF rs))), ((ad 3), .inl (t 0, 16, .inl (nF re))), ((ad 4), .inl (t 0, 16, .inl (nF rr))), ((ad 5), .inr (6, [.ref (ad 6), .ref (ad 7), .ref (ad 8), .ref (ad 9), .int (nI ns)])), ((ad 6), .inl (t 0, 40, .inl (nF sl))), ((ad 7), .inl (t 0, 40, .inl (nF sa))), ((ad 8), .inl (t 0, 40, .inl (nF sk))), ((ad 9), .inl (t 0, 40, .inl (nF gf))), ((ad 10), .inr (7, [.ref (ad 11), .ref (ad 12), .int (nI a)])), ((ad 11), .inl (t 0, 40, .inl (nF f))), ((ad 12), .inl (t 0, 40, .inl (nF g))), ((ad 14), .inr (3, [.ref (ad 15), .ref (ad 16), .ref (ad 17)])), ((ad 15), .inl (t 0, 31, .inl (nF stk))), ((ad 16), .inl (t 0, 31, .inl (nF cm))), ((ad 17), .inl (t 0, 31, .inl (nF dp))), ((ad 18), .inl (t 4, 20, .inr (.inr (.inr (.inr (blkQ B nb)))))), ((ad 19), .inr (4, [.ref (ad 20), .int (nI lc), .ref (ad 21), .ref (ad 22), .int (nI kc)])), ((ad 20), .inl (t 0, 40, .inl (nF last))), ((ad 21), .inl (t 5, 50, .inr (.inr (.inr (.inr (rowQ r)))))), ((ad 22), .inl (t 0, 50, .inl (nF sc))), ((ad 13), .inl (t 0, 40, .inl (nF (va_up P (gf i) 0))))] ++ (seg (rowF t r K) 50 ++ seg (blkF t B) nb)) H := hP
        have hD : va_D A ([((ad 0), .inr (8, [.int (nI sz), .ref (ad 1), .ref (ad 5), .ref (ad 10), .ref (ad 13), .ref (ad 19), .ref (ad 14), .ref (ad 18), .int (nI nb)])), ((ad 1), .inr (5, [.ref (ad 2), .ref (ad 3), .ref (ad 4), .int (nI nr)])), ((ad 2), .inl (t 0, 16, .inl (nF rs))), ((ad 3), .inl (t 0, 16, .inl (nF re))), ((ad 4), .inl (t 0, 16, .inl (nF rr))), ((ad 5), .inr (6, [.ref (ad 6), .ref (ad 7), .ref (ad 8), .ref (ad 9), .int (nI ns)])), ((ad 6), .inl (t 0, 40, .inl (nF sl))), ((ad 7), .inl (t 0, 40, .inl (nF sa))), ((ad 8), .inl (t 0, 40, .inl (nF sk))), ((ad 9), .inl (t 0, 40, .inl (nF gf))), ((ad 10), .inr (7, [.ref (ad 11), .ref (ad 12), .int (nI a)])), ((ad 11), .inl (t 0, 40, .inl (nF f))), ((ad 12), .inl (t 0, 40, .inl (nF g))), ((ad 14), .inr (3, [.ref (ad 15), .ref (ad 16), .ref (ad 17)])), ((ad 15), .inl (t 0, 31, .inl (nF stk))), ((ad 16), .inl (t 0, 31, .inl (nF cm))), ((ad 17), .inl (t 0, 31, .inl (nF dp))), ((ad 18), .inl (t 4, 20, .inr (.inr (.inr (.inr (blkQ B nb)))))), ((ad 19), .inr (4, [.ref (ad 20), .int (nI lc), .ref (ad 21), .ref (ad 22), .int (nI kc)])), ((ad 20), .inl (t 0, 40, .inl (nF last))), ((ad 21), .inl (t 5, 50, .inr (.inr (.inr (.inr (rowQ r)))))), ((ad 22), .inl (t 0, 50, .inl (nF sc))), ((ad 13), .inl (t 0, 40, .inl (nF (va_up P (gf i) 0))))] ++ (seg (rowF t r K) 50 ++ seg (blkF t B) nb)) := hD
        refine lv_iinc (v := (nI (i + 1))) (lv' := [(1, .int (nI (i + 1))), (3, .int (nI 0)), (2, .int (nI (gf i))), (0, .ref (ad 0))]) hx hb dX7_place_53 hl (k := 2) rfl (r_inc1 _) (by decide) rfl (fun ls hl => ?_)
        refine lv_goto (tgt := 9) hx hb dX7_place_56 (by decide) ?_
        refine ih (i + 1, (a, f, g), va_up P (gf i) 0) _ _ _ ⟨hP, hD, hS, lv_sub hl [0, 3] rfl, by omega, TkI_skip hT g0 (fun m hm => hPu 0 m hm), fun j hj => ?_, fun k => ?_⟩ (by show ns - (i + 1) < ns - i; omega)
        · rcases Nat.lt_succ_iff_lt_or_eq.mp hj with q9 | q9
          · exact OkAt_congr (fun m hm => (hPu 0 m (by omega)).symm) (hok j q9)
          · rw [q9]
            exact Or.inl ⟨g0, va_up_self _ _ _⟩
        · rw [va_upc]
          split
          · exact Nat.zero_le _
          · exact hPb k
      · exact absurd c2 (fun q => absurd ((congrArg Int32.toInt q).symm.trans (nI_toInt (by omega))) (by rw [show (-1 : Int32).toInt = -1 from rfl]; omega))
    · have hr2 := hre q
      have hP : va_P D vwCl ([((ad 0), .inr (8, [.int (nI sz), .ref (ad 1), .ref (ad 5), .ref (ad 10), .ref (ad 13), .ref (ad 19), .ref (ad 14), .ref (ad 18), .int (nI nb)])), ((ad 1), .inr (5, [.ref (ad 2), .ref (ad 3), .ref (ad 4), .int (nI nr)])), ((ad 2), .inl (t 0, 16, .inl (nF rs))), ((ad 3), .inl (t 0, 16, .inl (nF re))), ((ad 4), .inl (t 0, 16, .inl (nF rr))), ((ad 5), .inr (6, [.ref (ad 6), .ref (ad 7), .ref (ad 8), .ref (ad 9), .int (nI ns)])), ((ad 6), .inl (t 0, 40, .inl (nF sl))), ((ad 7), .inl (t 0, 40, .inl (nF sa))), ((ad 8), .inl (t 0, 40, .inl (nF sk))), ((ad 9), .inl (t 0, 40, .inl (nF gf))), ((ad 10), .inr (7, [.ref (ad 11), .ref (ad 12), .int (nI (a + 1))])), ((ad 11), .inl (t 0, 40, .inl (nF f1))), ((ad 12), .inl (t 0, 40, .inl (nF f2))), ((ad 14), .inr (3, [.ref (ad 15), .ref (ad 16), .ref (ad 17)])), ((ad 15), .inl (t 0, 31, .inl (nF stk))), ((ad 16), .inl (t 0, 31, .inl (nF cm))), ((ad 17), .inl (t 0, 31, .inl (nF dp))), ((ad 18), .inl (t 4, 20, .inr (.inr (.inr (.inr (blkQ B nb)))))), ((ad 19), .inr (4, [.ref (ad 20), .int (nI lc), .ref (ad 21), .ref (ad 22), .int (nI kc)])), ((ad 20), .inl (t 0, 40, .inl (nF last))), ((ad 21), .inl (t 5, 50, .inr (.inr (.inr (.inr (rowQ r)))))), ((ad 22), .inl (t 0, 50, .inl (nF sc))), ((ad 13), .inl (t 0, 40, .inl (nF P)))] ++ (seg (rowF t r K) 50 ++ seg (blkF t B) nb)) H := hP
      have hD : va_D A ([((ad 0), .inr (8, [.int (nI sz), .ref (ad 1), .ref (ad 5), .ref (ad 10), .ref (ad 13), .ref (ad 19), .ref (ad 14), .ref (ad 18), .int (nI nb)])), ((ad 1), .inr (5, [.ref (ad 2), .ref (ad 3), .ref (ad 4), .int (nI nr)])), ((ad 2), .inl (t 0, 16, .inl (nF rs))), ((ad 3), .inl (t 0, 16, .inl (nF re))), ((ad 4), .inl (t 0, 16, .inl (nF rr))), ((ad 5), .inr (6, [.ref (ad 6), .ref (ad 7), .ref (ad 8), .ref (ad 9), .int (nI ns)])), ((ad 6), .inl (t 0, 40, .inl (nF sl))), ((ad 7), .inl (t 0, 40, .inl (nF sa))), ((ad 8), .inl (t 0, 40, .inl (nF sk))), ((ad 9), .inl (t 0, 40, .inl (nF gf))), ((ad 10), .inr (7, [.ref (ad 11), .ref (ad 12), .int (nI (a + 1))])), ((ad 11), .inl (t 0, 40, .inl (nF f1))), ((ad 12), .inl (t 0, 40, .inl (nF f2))), ((ad 14), .inr (3, [.ref (ad 15), .ref (ad 16), .ref (ad 17)])), ((ad 15), .inl (t 0, 31, .inl (nF stk))), ((ad 16), .inl (t 0, 31, .inl (nF cm))), ((ad 17), .inl (t 0, 31, .inl (nF dp))), ((ad 18), .inl (t 4, 20, .inr (.inr (.inr (.inr (blkQ B nb)))))), ((ad 19), .inr (4, [.ref (ad 20), .int (nI lc), .ref (ad 21), .ref (ad 22), .int (nI kc)])), ((ad 20), .inl (t 0, 40, .inl (nF last))), ((ad 21), .inl (t 5, 50, .inr (.inr (.inr (.inr (rowQ r)))))), ((ad 22), .inl (t 0, 50, .inl (nF sc))), ((ad 13), .inl (t 0, 40, .inl (nF P)))] ++ (seg (rowF t r K) 50 ++ seg (blkF t B) nb)) := hD
      refine lv_istore_n (lv' := [(3, .int (nI y)), (2, .int (nI (gf i))), (1, .int (nI i)), (0, .ref (ad 0))]) hx hb dX7_place_35 rfl hl (by decide) rfl (fun ls hl => ?_)
      refine lv_iload_n hx hb dX7_place_36 rfl (lv_at hl 0 rfl) ?_
      refine lv_iconst (v := ((-1))) hx hb dX7_place_37 (by decide) ?_
      refine lv_icmp_ne (tgt := 46) hx hb dX7_place_38 (by decide) (fun c2 => ?_) (fun c2 => ?_)
      · refine lv_aload_n hx hb dX7_place_46 rfl (lv_at hl 3 rfl) ?_
        refine va_get (D := D) (ci := 8) (v := .ref (ad 13)) (C := RX7) (T := TX7) (N := 9) hx hb hts i_X7_place_X7 hown hK hP 0 rfl rfl 4 (by decide) (hts (.fieldLink RX7 30 "MemoryMap" "trial" "[I") (List.mem_of_getElem? (i := 3) rfl)) (fun _ h9 => h9) rfl dX7_place_47 ?_
        refine lv_iload_n hx hb dX7_place_50 rfl (lv_at hl 1 rfl) ?_
        refine lv_iload_n hx hb dX7_place_51 rfl (lv_at hl 0 rfl) ?_
        refine r_iast hx hb hK hP hD hS 22 0 rfl rfl (i := gf i) (by omega) (by omega) dX7_place_52 (fun H locs hP hD hS => ?_)
        have hP : va_P D vwCl ([((ad 0), .inr (8, [.int (nI sz), .ref (ad 1), .ref (ad 5), .ref (ad 10), .ref (ad 13), .ref (ad 19), .ref (ad 14), .ref (ad 18), .int (nI nb)])), ((ad 1), .inr (5, [.ref (ad 2), .ref (ad 3), .ref (ad 4), .int (nI nr)])), ((ad 2), .inl (t 0, 16, .inl (nF rs))), ((ad 3), .inl (t 0, 16, .inl (nF re))), ((ad 4), .inl (t 0, 16, .inl (nF rr))), ((ad 5), .inr (6, [.ref (ad 6), .ref (ad 7), .ref (ad 8), .ref (ad 9), .int (nI ns)])), ((ad 6), .inl (t 0, 40, .inl (nF sl))), ((ad 7), .inl (t 0, 40, .inl (nF sa))), ((ad 8), .inl (t 0, 40, .inl (nF sk))), ((ad 9), .inl (t 0, 40, .inl (nF gf))), ((ad 10), .inr (7, [.ref (ad 11), .ref (ad 12), .int (nI (a + 1))])), ((ad 11), .inl (t 0, 40, .inl (nF f1))), ((ad 12), .inl (t 0, 40, .inl (nF f2))), ((ad 14), .inr (3, [.ref (ad 15), .ref (ad 16), .ref (ad 17)])), ((ad 15), .inl (t 0, 31, .inl (nF stk))), ((ad 16), .inl (t 0, 31, .inl (nF cm))), ((ad 17), .inl (t 0, 31, .inl (nF dp))), ((ad 18), .inl (t 4, 20, .inr (.inr (.inr (.inr (blkQ B nb)))))), ((ad 19), .inr (4, [.ref (ad 20), .int (nI lc), .ref (ad 21), .ref (ad 22), .int (nI kc)])), ((ad 20), .inl (t 0, 40, .inl (nF last))), ((ad 21), .inl (t 5, 50, .inr (.inr (.inr (.inr (rowQ r)))))), ((ad 22), .inl (t 0, 50, .inl (nF sc))), ((ad 13), .inl (t 0, 40, .inl (nF (va_up P (gf i) y))))] ++ (seg (rowF t r K) 50 ++ seg (blkF t B) nb)) H := hP
        have hD : va_D A ([((ad 0), .inr (8, [.int (nI sz), .ref (ad 1), .ref (ad 5), .ref (ad 10), .ref (ad 13), .ref (ad 19), .ref (ad 14), .ref (ad 18), .int (nI nb)])), ((ad 1), .inr (5, [.ref (ad 2), .ref (ad 3), .ref (ad 4), .int (nI nr)])), ((ad 2), .inl (t 0, 16, .inl (nF rs))), ((ad 3), .inl (t 0, 16, .inl (nF re))), ((ad 4), .inl (t 0, 16, .inl (nF rr))), ((ad 5), .inr (6, [.ref (ad 6), .ref (ad 7), .ref (ad 8), .ref (ad 9), .int (nI ns)])), ((ad 6), .inl (t 0, 40, .inl (nF sl))), ((ad 7), .inl (t 0, 40, .inl (nF sa))), ((ad 8), .inl (t 0, 40, .inl (nF sk))), ((ad 9), .inl (t 0, 40, .inl (nF gf))), ((ad 10), .inr (7, [.ref (ad 11), .ref (ad 12), .int (nI (a + 1))])), ((ad 11), .inl (t 0, 40, .inl (nF f1))), ((ad 12), .inl (t 0, 40, .inl (nF f2))), ((ad 14), .inr (3, [.ref (ad 15), .ref (ad 16), .ref (ad 17)])), ((ad 15), .inl (t 0, 31, .inl (nF stk))), ((ad 16), .inl (t 0, 31, .inl (nF cm))), ((ad 17), .inl (t 0, 31, .inl (nF dp))), ((ad 18), .inl (t 4, 20, .inr (.inr (.inr (.inr (blkQ B nb)))))), ((ad 19), .inr (4, [.ref (ad 20), .int (nI lc), .ref (ad 21), .ref (ad 22), .int (nI kc)])), ((ad 20), .inl (t 0, 40, .inl (nF last))), ((ad 21), .inl (t 5, 50, .inr (.inr (.inr (.inr (rowQ r)))))), ((ad 22), .inl (t 0, 50, .inl (nF sc))), ((ad 13), .inl (t 0, 40, .inl (nF (va_up P (gf i) y))))] ++ (seg (rowF t r K) 50 ++ seg (blkF t B) nb)) := hD
        refine lv_iinc (v := (nI (i + 1))) (lv' := [(1, .int (nI (i + 1))), (3, .int (nI y)), (2, .int (nI (gf i))), (0, .ref (ad 0))]) hx hb dX7_place_53 hl (k := 2) rfl (r_inc1 _) (by decide) rfl (fun ls hl => ?_)
        refine lv_goto (tgt := 9) hx hb dX7_place_56 (by decide) ?_
        refine ih (i + 1, (a + 1, f1, f2), va_up P (gf i) y) _ _ _ ⟨hP, hD, hS, lv_sub hl [0, 3] rfl, by omega, TkI_add hT g0 (fun m hm => hPu y m hm) (va_up_self _ _ _) y4 (by omega) z1 z2 z3 z4 z5, fun j hj => ?_, fun k => ?_⟩ (by show ns - (i + 1) < ns - i; omega)
        · rcases Nat.lt_succ_iff_lt_or_eq.mp hj with q9 | q9
          · exact OkAt_congr (fun m hm => (hPu y m (by omega)).symm) (hok j q9)
          · rw [q9]
            exact Or.inr ⟨g0, q, g1, fun j9 h9 => NoO_congr (fun m hm => (hPu y m hm).symm) (hNo j9 (g2 j9 h9)), g3, by rw [va_up_self]; exact ⟨y1, y2, y3, (FreeO_congr (fun m hm => (hPu y m hm).symm)).mp ((TkI_fre hT).mp y4), fun b9 b1 b2 b3 b4 => y5 b9 b1 b2 b3 ((TkI_fre hT).mpr ((FreeO_congr (fun m hm => hPu y m hm)).mp b4))⟩⟩
        · rw [va_upc]
          split
          · omega
          · exact hPb k
      · exact absurd c2 (fun q => absurd ((congrArg Int32.toInt q).symm.trans (nI_toInt (by omega))) (by rw [show (-1 : Int32).toInt = -1 from rfl]; omega))
    · have hP : va_P D vwCl ([((ad 0), .inr (8, [.int (nI sz), .ref (ad 1), .ref (ad 5), .ref (ad 10), .ref (ad 13), .ref (ad 19), .ref (ad 14), .ref (ad 18), .int (nI nb)])), ((ad 1), .inr (5, [.ref (ad 2), .ref (ad 3), .ref (ad 4), .int (nI nr)])), ((ad 2), .inl (t 0, 16, .inl (nF rs))), ((ad 3), .inl (t 0, 16, .inl (nF re))), ((ad 4), .inl (t 0, 16, .inl (nF rr))), ((ad 5), .inr (6, [.ref (ad 6), .ref (ad 7), .ref (ad 8), .ref (ad 9), .int (nI ns)])), ((ad 6), .inl (t 0, 40, .inl (nF sl))), ((ad 7), .inl (t 0, 40, .inl (nF sa))), ((ad 8), .inl (t 0, 40, .inl (nF sk))), ((ad 9), .inl (t 0, 40, .inl (nF gf))), ((ad 10), .inr (7, [.ref (ad 11), .ref (ad 12), .int (nI a)])), ((ad 11), .inl (t 0, 40, .inl (nF f))), ((ad 12), .inl (t 0, 40, .inl (nF g))), ((ad 14), .inr (3, [.ref (ad 15), .ref (ad 16), .ref (ad 17)])), ((ad 15), .inl (t 0, 31, .inl (nF stk))), ((ad 16), .inl (t 0, 31, .inl (nF cm))), ((ad 17), .inl (t 0, 31, .inl (nF dp))), ((ad 18), .inl (t 4, 20, .inr (.inr (.inr (.inr (blkQ B nb)))))), ((ad 19), .inr (4, [.ref (ad 20), .int (nI lc), .ref (ad 21), .ref (ad 22), .int (nI kc)])), ((ad 20), .inl (t 0, 40, .inl (nF last))), ((ad 21), .inl (t 5, 50, .inr (.inr (.inr (.inr (rowQ r)))))), ((ad 22), .inl (t 0, 50, .inl (nF sc))), ((ad 13), .inl (t 0, 40, .inl (nF P)))] ++ (seg (rowF t r K) 50 ++ seg (blkF t B) nb)) H := hP
      have hD : va_D A ([((ad 0), .inr (8, [.int (nI sz), .ref (ad 1), .ref (ad 5), .ref (ad 10), .ref (ad 13), .ref (ad 19), .ref (ad 14), .ref (ad 18), .int (nI nb)])), ((ad 1), .inr (5, [.ref (ad 2), .ref (ad 3), .ref (ad 4), .int (nI nr)])), ((ad 2), .inl (t 0, 16, .inl (nF rs))), ((ad 3), .inl (t 0, 16, .inl (nF re))), ((ad 4), .inl (t 0, 16, .inl (nF rr))), ((ad 5), .inr (6, [.ref (ad 6), .ref (ad 7), .ref (ad 8), .ref (ad 9), .int (nI ns)])), ((ad 6), .inl (t 0, 40, .inl (nF sl))), ((ad 7), .inl (t 0, 40, .inl (nF sa))), ((ad 8), .inl (t 0, 40, .inl (nF sk))), ((ad 9), .inl (t 0, 40, .inl (nF gf))), ((ad 10), .inr (7, [.ref (ad 11), .ref (ad 12), .int (nI a)])), ((ad 11), .inl (t 0, 40, .inl (nF f))), ((ad 12), .inl (t 0, 40, .inl (nF g))), ((ad 14), .inr (3, [.ref (ad 15), .ref (ad 16), .ref (ad 17)])), ((ad 15), .inl (t 0, 31, .inl (nF stk))), ((ad 16), .inl (t 0, 31, .inl (nF cm))), ((ad 17), .inl (t 0, 31, .inl (nF dp))), ((ad 18), .inl (t 4, 20, .inr (.inr (.inr (.inr (blkQ B nb)))))), ((ad 19), .inr (4, [.ref (ad 20), .int (nI lc), .ref (ad 21), .ref (ad 22), .int (nI kc)])), ((ad 20), .inl (t 0, 40, .inl (nF last))), ((ad 21), .inl (t 5, 50, .inr (.inr (.inr (.inr (rowQ r)))))), ((ad 22), .inl (t 0, 50, .inl (nF sc))), ((ad 13), .inl (t 0, 40, .inl (nF P)))] ++ (seg (rowF t r K) 50 ++ seg (blkF t B) nb)) := hD
      refine lv_istore_n (lv' := [(3, .int ((-1))), (2, .int (nI (gf i))), (1, .int (nI i)), (0, .ref (ad 0))]) hx hb dX7_place_35 rfl hl (by decide) rfl (fun ls hl => ?_)
      refine lv_iload_n hx hb dX7_place_36 rfl (lv_at hl 0 rfl) ?_
      refine lv_iconst (v := ((-1))) hx hb dX7_place_37 (by decide) ?_
      refine lv_icmp_ne (tgt := 46) hx hb dX7_place_38 (by decide) (fun c2 => ?_) (fun c2 => ?_)
      · exact absurd rfl c2
      · refine lv_iload_n hx hb dX7_place_41 rfl (lv_at hl 1 rfl) ?_
        refine lv_iconst (v := (nI 1)) hx hb dX7_place_42 (by decide) ?_
        refine r_iadd (x := (gf i)) (y := 1) hx hb dX7_place_43 ?_
        refine lv_ineg hx hb dX7_place_44 ?_
        exact ret_Mi hx hb hr hlk (((a, f, g), P, (lc, last, kc, sc, K))) (⟨hT.2.2.2.1, hT.2.2.2.2.1, hPb, Or.inr ⟨i, c1, hok, ⟨g0, fun q hq => hNo q (g1 q hq)⟩, rfl, rfl⟩⟩) hP hD hS (Nat.le_of_ble_eq_true rfl) (Nat.le_of_ble_eq_true rfl) dX7_place_45
end
section
section PW
variable {s : State} {H : Heap} {D : va_G} {A : Nat → Prop} {tys : List (ClassId × FieldType)} {ws : va_W}
theorem preVw {b : Nat} {As : List Value} {C : String} {q : vw_C} {fs : List Value} (hP : va_P D vwCl ws H) (hD : va_D A ws) (hK : va_K D vwCl tys s) (hN : NS s) (ci q0 : Nat) (hc : vwCl[ci]? = some q) (he : ws[q0]? = some (b, .inr (ci, fs))) (hq : q.1 = C) : PreV s H C b (va_Pc (.ref b :: As) (Wd D tys ws H.size)) As := by
  subst hq
  exact ⟨Wd.blind, va_recv hK hP hc he, fun U hU hW => ⟨rfl, by rw [hU], by rw [hU]; exact hP, va_K.moved hW.alike hK, hD.weaken (fun _ _ _ _ => trivial), NS.warm hW hN⟩⟩
end PW
theorem blkQ_at {B : Nat → BT} {n k : Nat} (h : k < n) : va_rf (blkQ B n k) = .ref (B k).1 := by
  unfold blkQ
  rw [if_pos h]
  rfl
theorem blkQ_up {B : Nat → BT} {n k : Nat} {x : BT} (h : x.1 = (B k).1) : blkQ (va_up B k x) n = blkQ B n := by
  funext i
  unfold blkQ va_up
  by_cases e : i = k
  · rw [if_pos e, e, h]
  · rw [if_neg e]
theorem blkQ_new {B : Nat → BT} {n : Nat} {x : BT} : va_up (blkQ B n) n (some x.1) = blkQ (va_up B n x) (n + 1) := by
  funext i
  unfold blkQ va_up
  by_cases e : i = n
  · rw [if_pos e, if_pos (by omega), if_pos e]
  · rw [if_neg e, if_neg e]
    by_cases h : i < n
    · show (if i < n then _ else _) = _
      rw [if_pos h, if_pos (by omega)]
    · show (if i < n then _ else _) = _
      rw [if_neg h, if_neg (by omega)]
theorem blk_new {t : Nat → ClassId} {B : Nat → BT} {n : Nat} {x : BT} : seg (blkF t B) n ++ blkC t x = seg (blkF t (va_up B n x)) (n + 1) := by
  rw [seg_succ]
  unfold blkF
  rw [va_up_self]
  congr 1
  exact seg_congr n (fun i hi => by rw [va_up_ne _ _ (Nat.ne_of_lt hi)])
/-- block k to the front, and back -/
def frZ (t : Nat → ClassId) (X Y : va_W) (B : Nat → BT) (k n : Nat) : va_W := (X ++ (Y ++ seg (blkF t B) k)) ++ seg (fun i => blkF t B (k + 1 + i)) (n - k - 1)
theorem fr_perm {t : Nat → ClassId} {X Y : va_W} {B : Nat → BT} {k n : Nat} (h : k < n) (x : BT) : (X ++ (Y ++ seg (blkF t (va_up B k x)) n)).Perm (blkC t x ++ frZ t X Y B k n) := by
  rw [← blkF_up h, re_assoc]
  exact perm_front [] _ _ _
theorem va_up_id {α : Type} (f : Nat → α) (k : Nat) : va_up f k (f k) = f := by
  funext j
  unfold va_up
  split
  · next e => rw [e]
  · rfl
theorem fr_perm0 {t : Nat → ClassId} {X Y : va_W} {B : Nat → BT} {k n : Nat} (h : k < n) : (X ++ (Y ++ seg (blkF t B) n)).Perm (blkC t (B k) ++ frZ t X Y B k n) := by
  have q := fr_perm (t := t) (X := X) (Y := Y) (B := B) h (B k)
  rw [va_up_id] at q
  exact q
/-- the octet j of both copies -/
def setB (x : BT) (j : Nat) (b : Int32) : BT := (x.1, x.2.1, (x.2.2.1.1, x.2.2.1.2.1, upd x.2.2.1.2.2.1 j (b.toInt8.toInt32), sumF (upd x.2.2.1.2.2.1 j (b.toInt8.toInt32)) x.2.1), (x.2.2.2.1, x.2.2.2.2.1, upd x.2.2.2.2.2.1 j (b.toInt8.toInt32), sumF (upd x.2.2.2.2.2.1 j (b.toInt8.toInt32)) x.2.1))
def pok1 (x : BT) (j : Nat) (m : Int32) : BT := (x.1, x.2.1, (x.2.2.1.1, x.2.2.1.2.1, upd x.2.2.1.2.2.1 j ((x.2.2.1.2.2.1 j ^^^ m).toInt8.toInt32), x.2.2.1.2.2.2), x.2.2.2)
def pok2 (x : BT) (j : Nat) (m : Int32) : BT := (x.1, x.2.1, x.2.2.1, (x.2.2.2.1, x.2.2.2.2.1, upd x.2.2.2.2.2.1 j ((x.2.2.2.2.2.1 j ^^^ m).toInt8.toInt32), x.2.2.2.2.2.2))
def repB (x : BT) (u : (Nat → Int32) × Int32 × (Nat → Int32) × Int32) : BT := (x.1, x.2.1, (x.2.2.1.1, x.2.2.1.2.1, u.1, u.2.1), (x.2.2.2.1, x.2.2.2.2.1, u.2.2.1, u.2.2.2))
/-- a region's numbers as they must be -/
def RegIn (sz : Nat) (fr n : Int64) (f k : Nat) : Prop := fr = lN f ∧ n = lN k ∧ 1 ≤ k ∧ f + k ≤ sz
theorem reg_in {sz : Nat} {fr n : Int64} (hz : sz ≤ 65536) (h1 : ¬ n < lN 1) (h2 : ¬ fr < lN 0) (h3 : ¬ (lN sz - n) < fr) : ∃ f k, RegIn sz fr n f k := by
  rw [Int64.lt_iff_toInt_lt, lN_toInt (by decide)] at h1 h2
  have b1 := Int64.toInt_lt n
  rw [Int64.lt_iff_toInt_lt, Jvm.Kit.i64_sub (by rw [lN_toInt (by omega)]; omega) (by rw [lN_toInt (by omega)]; omega), lN_toInt (by omega)] at h3
  refine ⟨fr.toInt.toNat, n.toInt.toNat, ?_, ?_, by omega, by omega⟩
  · apply Int64.toInt_inj.mp
    rw [lN_toInt (by omega)]
    omega
  · apply Int64.toInt_inj.mp
    rw [lN_toInt (by omega)]
    omega
theorem reg_out {sz : Nat} {fr n : Int64} (hz : sz ≤ 65536) (h : n < lN 1 ∨ fr < lN 0 ∨ (lN sz - n) < fr) : ∀ f k, ¬ RegIn sz fr n f k := by
  rintro f k ⟨rfl, rfl, h1, h2⟩
  rcases h with q | q | q
  · exact absurd ((pk_lLT (by omega) (by decide)).mp q) (by omega)
  · exact absurd ((pk_lLT (by omega) (by decide)).mp q) (by omega)
  · rw [lN_sub (by omega)] at q
    exact absurd ((pk_lLT (by omega) (by omega)).mp q) (by omega)
theorem i_X7_region_X7 : ∀ w ∈ wsX70, w ∈ wsX7_region := by decide +kernel
abbrev rm_X7_region : Room := { frames := 1, cells := 0, slots := 0, locals := 25 }
set_option maxHeartbeats 4000000 in
set_option maxRecDepth 100000 in
theorem c_X7_region (l : Launch) (D : va_G) (t : Nat → ClassId) (ad : Nat → Nat) (sz nr : Nat) (rs re rr : Nat → Nat) (ns : Nat) (sl sa sk gf : Nat → Nat) (nt : Nat) (ts te : Nat → Nat) (stk cm dp : Nat → Nat) (nb : Nat) (B : Nat → BT) (lc kc : Nat) (last sc r : Nat → Nat) (K : Nat → Nat → Nat) (tr : Nat → Nat) (fr n : Int64) (ri : Int32) (hsz : sz ≤ 65536) (hnr : nr ≤ 16) (hrs : ∀ k, rs k ≤ 65536) (hre : ∀ k, re k ≤ 65536) : Mi l yX7_region wsX7_region rm_X7_region D (TY t) [.ref (ad 0), .long fr, .long n, .int ri] ([((ad 0), .inr (8, [.int (nI sz), .ref (ad 1), .ref (ad 5), .ref (ad 10), .ref (ad 13), .ref (ad 19), .ref (ad 14), .ref (ad 18), .int (nI nb)])), ((ad 1), .inr (5, [.ref (ad 2), .ref (ad 3), .ref (ad 4), .int (nI nr)])), ((ad 2), .inl (t 0, 16, .inl (nF rs))), ((ad 3), .inl (t 0, 16, .inl (nF re))), ((ad 4), .inl (t 0, 16, .inl (nF rr))), ((ad 5), .inr (6, [.ref (ad 6), .ref (ad 7), .ref (ad 8), .ref (ad 9), .int (nI ns)])), ((ad 6), .inl (t 0, 40, .inl (nF sl))), ((ad 7), .inl (t 0, 40, .inl (nF sa))), ((ad 8), .inl (t 0, 40, .inl (nF sk))), ((ad 9), .inl (t 0, 40, .inl (nF gf))), ((ad 10), .inr (7, [.ref (ad 11), .ref (ad 12), .int (nI nt)])), ((ad 11), .inl (t 0, 40, .inl (nF ts))), ((ad 12), .inl (t 0, 40, .inl (nF te))), ((ad 14), .inr (3, [.ref (ad 15), .ref (ad 16), .ref (ad 17)])), ((ad 15), .inl (t 0, 31, .inl (nF stk))), ((ad 16), .inl (t 0, 31, .inl (nF cm))), ((ad 17), .inl (t 0, 31, .inl (nF dp))), ((ad 18), .inl (t 4, 20, .inr (.inr (.inr (.inr (blkQ B nb)))))), ((ad 19), .inr (4, [.ref (ad 20), .int (nI lc), .ref (ad 21), .ref (ad 22), .int (nI kc)])), ((ad 20), .inl (t 0, 40, .inl (nF last))), ((ad 21), .inl (t 5, 50, .inr (.inr (.inr (.inr (rowQ r)))))), ((ad 22), .inl (t 0, 50, .inl (nF sc))), ((ad 13), .inl (t 0, 40, .inl (nF tr)))] ++ (seg (rowF t r K) 50 ++ seg (blkF t B) nb)) (S := Nat × (Nat → Nat) × (Nat → Nat) × (Nat → Nat)) (fun z u => (((∀ f k, ¬ RegIn sz fr n f k) ∨ (∀ j, j ≤ 7 → ri ≠ nI j)) ∧ z = (-2) ∧ u = (nr, rs, re, rr)) ∨ ∃ f k j, RegIn sz fr n f k ∧ j ≤ 7 ∧ ri = nI j ∧ (((∃ i, i < nr ∧ f < re i ∧ rs i < f + k) ∧ z = (-3) ∧ u = (nr, rs, re, rr)) ∨ ((∀ i, i < nr → ¬ (f < re i ∧ rs i < f + k)) ∧ ((16 ≤ nr ∧ z = (-4) ∧ u = (nr, rs, re, rr)) ∨ (nr < 16 ∧ z = nI (nr + 1) ∧ u = (nr + 1, va_up rs nr f, va_up re nr (f + k), va_up rr nr j)))))) (fun u => ([((ad 0), .inr (8, [.int (nI sz), .ref (ad 1), .ref (ad 5), .ref (ad 10), .ref (ad 13), .ref (ad 19), .ref (ad 14), .ref (ad 18), .int (nI nb)])), ((ad 1), .inr (5, [.ref (ad 2), .ref (ad 3), .ref (ad 4), .int (nI (u.1))])), ((ad 2), .inl (t 0, 16, .inl (nF u.2.1))), ((ad 3), .inl (t 0, 16, .inl (nF u.2.2.1))), ((ad 4), .inl (t 0, 16, .inl (nF u.2.2.2))), ((ad 5), .inr (6, [.ref (ad 6), .ref (ad 7), .ref (ad 8), .ref (ad 9), .int (nI ns)])), ((ad 6), .inl (t 0, 40, .inl (nF sl))), ((ad 7), .inl (t 0, 40, .inl (nF sa))), ((ad 8), .inl (t 0, 40, .inl (nF sk))), ((ad 9), .inl (t 0, 40, .inl (nF gf))), ((ad 10), .inr (7, [.ref (ad 11), .ref (ad 12), .int (nI nt)])), ((ad 11), .inl (t 0, 40, .inl (nF ts))), ((ad 12), .inl (t 0, 40, .inl (nF te))), ((ad 14), .inr (3, [.ref (ad 15), .ref (ad 16), .ref (ad 17)])), ((ad 15), .inl (t 0, 31, .inl (nF stk))), ((ad 16), .inl (t 0, 31, .inl (nF cm))), ((ad 17), .inl (t 0, 31, .inl (nF dp))), ((ad 18), .inl (t 4, 20, .inr (.inr (.inr (.inr (blkQ B nb)))))), ((ad 19), .inr (4, [.ref (ad 20), .int (nI lc), .ref (ad 21), .ref (ad 22), .int (nI kc)])), ((ad 20), .inl (t 0, 40, .inl (nF last))), ((ad 21), .inl (t 5, 50, .inr (.inr (.inr (.inr (rowQ r)))))), ((ad 22), .inl (t 0, 50, .inl (nF sc))), ((ad 13), .inl (t 0, 40, .inl (nF tr)))] ++ (seg (rowF t r K) 50 ++ seg (blkF t B) nb))) := by
  refine start_Mi cX7_region 9 (some .int) (by decide) rfl (Nat.le_of_ble_eq_true rfl) ?_
  intro p e s m below meth c A ls B hin hP hD hS hA hl
  obtain ⟨hx, hb, hr, hts, hown, hlk, hml, hN, hK⟩ := B
  have hl : lv_has ls 9 [(0, .ref (ad 0)), (1, .long fr), (3, .long n), (5, .int ri)] := hl
  refine lv_lload_n hx hb dX7_region_0 rfl (lv_at hl 2 rfl) ?_
  refine lv_lconst (v := (lN (1))) hx hb dX7_region_1 (by decide) ?_
  refine r_l_lt (tgt := 28) hx hb dX7_region_2 dX7_region_3 (by decide) (fun c1 => ?_) (fun c1 => ?_)
  · refine lv_iconst (v := (nI 0)) hx hb dX7_region_28 (by decide) ?_
    refine lv_istore (lv' := [(6, .int (nI 0)), (0, .ref (ad 0)), (1, .long fr), (3, .long n), (5, .int ri)]) hx hb dX7_region_29 hl (by decide) rfl (fun ls hl => ?_)
    refine lv_iload hx hb dX7_region_31 (lv_at hl 0 rfl) ?_
    refine r_if_eq (x := 0) (tgt := 49) hx hb (by omega) dX7_region_33 (by decide) (fun _ => ?_) (fun c => absurd c (by decide))
    refine lv_bipush (v := ((-2))) hx hb dX7_region_49 (by decide) ?_
    exact ret_Mi hx hb hr hlk ((nr, rs, re, rr)) (Or.inl ⟨Or.inl (reg_out hsz (Or.inl c1)), rfl, rfl⟩) hP hD hS (Nat.le_of_ble_eq_true rfl) (Nat.le_of_ble_eq_true rfl) dX7_region_51
  · refine lv_lload_n hx hb dX7_region_6 rfl (lv_at hl 1 rfl) ?_
    refine lv_lconst (v := (lN (0))) hx hb dX7_region_7 (by decide) ?_
    refine r_l_lt (tgt := 28) hx hb dX7_region_8 dX7_region_9 (by decide) (fun c2 => ?_) (fun c2 => ?_)
    · refine lv_iconst (v := (nI 0)) hx hb dX7_region_28 (by decide) ?_
      refine lv_istore (lv' := [(6, .int (nI 0)), (0, .ref (ad 0)), (1, .long fr), (3, .long n), (5, .int ri)]) hx hb dX7_region_29 hl (by decide) rfl (fun ls hl => ?_)
      refine lv_iload hx hb dX7_region_31 (lv_at hl 0 rfl) ?_
      refine r_if_eq (x := 0) (tgt := 49) hx hb (by omega) dX7_region_33 (by decide) (fun _ => ?_) (fun c => absurd c (by decide))
      refine lv_bipush (v := ((-2))) hx hb dX7_region_49 (by decide) ?_
      exact ret_Mi hx hb hr hlk ((nr, rs, re, rr)) (Or.inl ⟨Or.inl (reg_out hsz (Or.inr (Or.inl c2))), rfl, rfl⟩) hP hD hS (Nat.le_of_ble_eq_true rfl) (Nat.le_of_ble_eq_true rfl) dX7_region_51
    · refine lv_lload_n hx hb dX7_region_12 rfl (lv_at hl 1 rfl) ?_
      refine lv_aload_n hx hb dX7_region_13 rfl (lv_at hl 0 rfl) ?_
      refine va_get (D := D) (ci := 8) (v := .int (nI sz)) (C := RX7) (T := TX7) (N := 9) hx hb hts i_X7_region_X7 hown hK hP 0 rfl rfl 0 (by decide) (hts (.fieldLink RX7 60 "MemoryMap" "size" "I") (List.mem_of_getElem? (i := 1) rfl)) (fun _ h9 => h9) rfl dX7_region_14 ?_
      refine lv_i2l (v := (lN (sz))) hx hb dX7_region_17 (nI_l (by omega)) ?_
      refine lv_lload_n hx hb dX7_region_18 rfl (lv_at hl 2 rfl) ?_
      refine lv_lsub hx hb dX7_region_19 ?_
      refine r_l_gt (tgt := 28) hx hb dX7_region_20 dX7_region_21 (by decide) (fun c3 => ?_) (fun c3 => ?_)
      · refine lv_iconst (v := (nI 0)) hx hb dX7_region_28 (by decide) ?_
        refine lv_istore (lv' := [(6, .int (nI 0)), (0, .ref (ad 0)), (1, .long fr), (3, .long n), (5, .int ri)]) hx hb dX7_region_29 hl (by decide) rfl (fun ls hl => ?_)
        refine lv_iload hx hb dX7_region_31 (lv_at hl 0 rfl) ?_
        refine r_if_eq (x := 0) (tgt := 49) hx hb (by omega) dX7_region_33 (by decide) (fun _ => ?_) (fun c => absurd c (by decide))
        refine lv_bipush (v := ((-2))) hx hb dX7_region_49 (by decide) ?_
        exact ret_Mi hx hb hr hlk ((nr, rs, re, rr)) (Or.inl ⟨Or.inl (reg_out hsz (Or.inr (Or.inr c3))), rfl, rfl⟩) hP hD hS (Nat.le_of_ble_eq_true rfl) (Nat.le_of_ble_eq_true rfl) dX7_region_51
      · refine lv_iconst (v := (nI 1)) hx hb dX7_region_24 (by decide) ?_
        refine lv_goto (tgt := 29) hx hb dX7_region_25 (by decide) ?_
        refine lv_istore (lv' := [(6, .int (nI 1)), (0, .ref (ad 0)), (1, .long fr), (3, .long n), (5, .int ri)]) hx hb dX7_region_29 hl (by decide) rfl (fun ls hl => ?_)
        refine lv_iload hx hb dX7_region_31 (lv_at hl 0 rfl) ?_
        refine r_if_eq (x := 1) (tgt := 49) hx hb (by omega) dX7_region_33 (by decide) (fun c => absurd c (by decide)) (fun _ => ?_)
        refine lv_iload hx hb dX7_region_36 (lv_at hl 4 rfl) ?_
        refine lv_i2l hx hb dX7_region_38 rfl ?_
        refine lv_lconst (v := (lN (0))) hx hb dX7_region_39 (by decide) ?_
        refine lv_ldc2 (v := (lN (7))) hx hb hown (hts (.constantLong RX7 64 (7)) (List.mem_of_getElem? (i := 2) rfl)) dX7_region_40 ?_
        refine vp_callSi (va_Run.run (va_runS (As := [.long ri.toInt64, .long (lN (0)), .long (lN (7))]) (rest := []) ⟨hx, hb, hml, hown, hts⟩ (c_X7_isWithin l D t ri.toInt64 (lN 0) (lN 7) _) (va_cwS 3 hts gX7_region_X7_isWithin rfl rfl rfl (by decide +kernel) ⟨Nat.le_of_ble_eq_true rfl, Nat.le_of_ble_eq_true rfl⟩) (preS hP hD hK hN [] rfl (by decide)) rfl rfl hl.1 rfl (lv_room (Nat.le_of_ble_eq_true rfl)) dX7_region_43 ⟨Nat.le_of_ble_eq_true rfl, Nat.le_of_ble_eq_true rfl⟩)) (fun r hw => ?_)
        rcases hw with ⟨rfl, h1, h2⟩ | ⟨rfl, h1⟩
        · obtain ⟨j, -, q2, rfl⟩ := rngI (by omega) (by omega) h1 h2
          obtain ⟨f, k, hin2⟩ := reg_in hsz c1 c2 c3
          obtain ⟨rfl, rfl, k1, k2⟩ := id hin2
          have hl : lv_has ls 9 [(6, .int (nI 1)), (0, .ref (ad 0)), (1, .long (lN (f))), (3, .long (lN (k))), (5, .int (nI j))] := hl
          refine r_if_ne (x := 1) (tgt := 52) hx hb (by omega) dX7_region_46 (by decide) (fun _ => ?_) (fun c => absurd c (by decide))
          refine lv_lload_n hx hb dX7_region_52 rfl (lv_at hl 2 rfl) ?_
          refine lv_l2i (v := (nI f)) hx hb dX7_region_53 (lN_i _) ?_
          refine lv_istore (lv' := [(7, .int (nI f)), (6, .int (nI 1)), (0, .ref (ad 0)), (1, .long (lN (f))), (3, .long (lN (k))), (5, .int (nI j))]) hx hb dX7_region_54 hl (by decide) rfl (fun ls hl => ?_)
          refine lv_iload hx hb dX7_region_56 (lv_at hl 0 rfl) ?_
          refine lv_lload_n hx hb dX7_region_58 rfl (lv_at hl 4 rfl) ?_
          refine lv_l2i (v := (nI k)) hx hb dX7_region_59 (lN_i _) ?_
          refine r_iadd (x := f) (y := k) hx hb dX7_region_60 ?_
          refine lv_istore (lv' := [(8, .int (nI (f + k))), (7, .int (nI f)), (6, .int (nI 1)), (0, .ref (ad 0)), (1, .long (lN (f))), (3, .long (lN (k))), (5, .int (nI j))]) hx hb dX7_region_61 hl (by decide) rfl (fun ls hl => ?_)
          refine lv_aload_n hx hb dX7_region_63 rfl (lv_at hl 3 rfl) ?_
          refine va_get (D := D) (ci := 8) (v := .ref (ad 1)) (C := RX7) (T := TX7) (N := 9) hx hb hts i_X7_region_X7 hown hK hP 0 rfl rfl 1 (by decide) (hts (.fieldLink RX7 10 "MemoryMap" "regions" "LMemoryMap$Regions;") (List.mem_of_getElem? (i := 3) rfl)) (fun _ h9 => h9) rfl dX7_region_64 ?_
          refine lv_iload hx hb dX7_region_67 (lv_at hl 1 rfl) ?_
          refine lv_iload hx hb dX7_region_69 (lv_at hl 0 rfl) ?_
          refine vp_callSi (va_Run.run (va_runVN (As := [.int (nI f), .int (nI (f + k))]) (rest := []) ⟨hx, hb, hml, hown, hts⟩ (c_X4_overlap l D t (ad 1) (ad 2) (ad 3) (ad 4) nr rs re rr f (f + k) hnr hrs hre (by omega) (by omega) _) (⟨va_cnB 2 hts ggX7_region_X4_overlap rfl rfl rfl (hN.m 5 rfl) (hts (.initialized RX4) (List.mem_of_getElem? (i := 9) rfl)) (by decide +kernel) ⟨Nat.le_of_ble_eq_true rfl, Nat.le_of_ble_eq_true rfl⟩, (hts (.instanceMethod yX4_overlap) (List.mem_of_getElem? (i := 8) rfl)), (hts (.selects RX4 yX4_overlap yX4_overlap) (List.mem_of_getElem? (i := 10) rfl))⟩) (preVp (wc := [((ad 1), .inr (5, [.ref (ad 2), .ref (ad 3), .ref (ad 4), .int (nI nr)])), ((ad 2), .inl (t 0, 16, .inl (nF rs))), ((ad 3), .inl (t 0, 16, .inl (nF re))), ((ad 4), .inl (t 0, 16, .inl (nF rr)))]) [((ad 0), .inr (8, [.int (nI sz), .ref (ad 1), .ref (ad 5), .ref (ad 10), .ref (ad 13), .ref (ad 19), .ref (ad 14), .ref (ad 18), .int (nI nb)]))] ([((ad 5), .inr (6, [.ref (ad 6), .ref (ad 7), .ref (ad 8), .ref (ad 9), .int (nI ns)])), ((ad 6), .inl (t 0, 40, .inl (nF sl))), ((ad 7), .inl (t 0, 40, .inl (nF sa))), ((ad 8), .inl (t 0, 40, .inl (nF sk))), ((ad 9), .inl (t 0, 40, .inl (nF gf))), ((ad 10), .inr (7, [.ref (ad 11), .ref (ad 12), .int (nI nt)])), ((ad 11), .inl (t 0, 40, .inl (nF ts))), ((ad 12), .inl (t 0, 40, .inl (nF te))), ((ad 14), .inr (3, [.ref (ad 15), .ref (ad 16), .ref (ad 17)])), ((ad 15), .inl (t 0, 31, .inl (nF stk))), ((ad 16), .inl (t 0, 31, .inl (nF cm))), ((ad 17), .inl (t 0, 31, .inl (nF dp))), ((ad 18), .inl (t 4, 20, .inr (.inr (.inr (.inr (blkQ B nb)))))), ((ad 19), .inr (4, [.ref (ad 20), .int (nI lc), .ref (ad 21), .ref (ad 22), .int (nI kc)])), ((ad 20), .inl (t 0, 40, .inl (nF last))), ((ad 21), .inl (t 5, 50, .inr (.inr (.inr (.inr (rowQ r)))))), ((ad 22), .inl (t 0, 50, .inl (nF sc))), ((ad 13), .inl (t 0, 40, .inl (nF tr)))] ++ (seg (rowF t r K) 50 ++ seg (blkF t B) nb)) hP hD hK hN 5 0 rfl rfl rfl) rfl rfl hl.1 rfl (lv_room (Nat.le_of_ble_eq_true rfl)) dX7_region_71 ⟨Nat.le_of_ble_eq_true rfl, Nat.le_of_ble_eq_true rfl⟩)) (fun r hw => ?_)
          rcases hw with ⟨rfl, g⟩ | ⟨rfl, g⟩
          · refine r_if_eq (x := 1) (tgt := 80) hx hb (by omega) dX7_region_74 (by decide) (fun c => absurd c (by decide)) (fun _ => ?_)
            refine lv_bipush (v := ((-3))) hx hb dX7_region_77 (by decide) ?_
            exact ret_Mi hx hb hr hlk ((nr, rs, re, rr)) (Or.inr ⟨f, k, j, hin2, q2, rfl, Or.inl ⟨g, rfl, rfl⟩⟩) hP hD hS (Nat.le_of_ble_eq_true rfl) (Nat.le_of_ble_eq_true rfl) dX7_region_79
          · refine r_if_eq (x := 0) (tgt := 80) hx hb (by omega) dX7_region_74 (by decide) (fun _ => ?_) (fun c => absurd c (by decide))
            refine lv_aload_n hx hb dX7_region_80 rfl (lv_at hl 3 rfl) ?_
            refine va_get (D := D) (ci := 8) (v := .ref (ad 1)) (C := RX7) (T := TX7) (N := 9) hx hb hts i_X7_region_X7 hown hK hP 0 rfl rfl 1 (by decide) (hts (.fieldLink RX7 10 "MemoryMap" "regions" "LMemoryMap$Regions;") (List.mem_of_getElem? (i := 3) rfl)) (fun _ h9 => h9) rfl dX7_region_81 ?_
            refine lv_iload hx hb dX7_region_84 (lv_at hl 1 rfl) ?_
            refine lv_iload hx hb dX7_region_86 (lv_at hl 0 rfl) ?_
            refine lv_iload hx hb dX7_region_88 (lv_at hl 6 rfl) ?_
            refine call_Mip (wc := [((ad 1), .inr (5, [.ref (ad 2), .ref (ad 3), .ref (ad 4), .int (nI nr)])), ((ad 2), .inl (t 0, 16, .inl (nF rs))), ((ad 3), .inl (t 0, 16, .inl (nF re))), ((ad 4), .inl (t 0, 16, .inl (nF rr)))]) (wc' := fun v : Nat × (Nat → Nat) × (Nat → Nat) × (Nat → Nat) => [((ad 1), .inr (5, [.ref (ad 2), .ref (ad 3), .ref (ad 4), .int (nI (v.1))])), ((ad 2), .inl (t 0, 16, .inl (nF v.2.1))), ((ad 3), .inl (t 0, 16, .inl (nF v.2.2.1))), ((ad 4), .inl (t 0, 16, .inl (nF v.2.2.2)))]) [((ad 0), .inr (8, [.int (nI sz), .ref (ad 1), .ref (ad 5), .ref (ad 10), .ref (ad 13), .ref (ad 19), .ref (ad 14), .ref (ad 18), .int (nI nb)]))] ([((ad 5), .inr (6, [.ref (ad 6), .ref (ad 7), .ref (ad 8), .ref (ad 9), .int (nI ns)])), ((ad 6), .inl (t 0, 40, .inl (nF sl))), ((ad 7), .inl (t 0, 40, .inl (nF sa))), ((ad 8), .inl (t 0, 40, .inl (nF sk))), ((ad 9), .inl (t 0, 40, .inl (nF gf))), ((ad 10), .inr (7, [.ref (ad 11), .ref (ad 12), .int (nI nt)])), ((ad 11), .inl (t 0, 40, .inl (nF ts))), ((ad 12), .inl (t 0, 40, .inl (nF te))), ((ad 14), .inr (3, [.ref (ad 15), .ref (ad 16), .ref (ad 17)])), ((ad 15), .inl (t 0, 31, .inl (nF stk))), ((ad 16), .inl (t 0, 31, .inl (nF cm))), ((ad 17), .inl (t 0, 31, .inl (nF dp))), ((ad 18), .inl (t 4, 20, .inr (.inr (.inr (.inr (blkQ B nb)))))), ((ad 19), .inr (4, [.ref (ad 20), .int (nI lc), .ref (ad 21), .ref (ad 22), .int (nI kc)])), ((ad 20), .inl (t 0, 40, .inl (nF last))), ((ad 21), .inl (t 5, 50, .inr (.inr (.inr (.inr (rowQ r)))))), ((ad 22), .inl (t 0, 50, .inl (nF sc))), ((ad 13), .inl (t 0, 40, .inl (nF tr)))] ++ (seg (rowF t r K) 50 ++ seg (blkF t B) nb)) (va_runVN (As := [.int (nI f), .int (nI (f + k)), .int (nI j)]) (rest := []) ⟨hx, hb, hml, hown, hts⟩ (c_X4_add l D t (ad 1) (ad 2) (ad 3) (ad 4) nr rs re rr f (f + k) j hnr _) (⟨va_cnB 3 hts ggX7_region_X4_add rfl rfl rfl (hN.m 6 rfl) (hts (.initialized RX4) (List.mem_of_getElem? (i := 9) rfl)) (by decide +kernel) ⟨Nat.le_of_ble_eq_true rfl, Nat.le_of_ble_eq_true rfl⟩, (hts (.instanceMethod yX4_add) (List.mem_of_getElem? (i := 15) rfl)), (hts (.selects RX4 yX4_add yX4_add) (List.mem_of_getElem? (i := 16) rfl))⟩) (preVp (wc := [((ad 1), .inr (5, [.ref (ad 2), .ref (ad 3), .ref (ad 4), .int (nI nr)])), ((ad 2), .inl (t 0, 16, .inl (nF rs))), ((ad 3), .inl (t 0, 16, .inl (nF re))), ((ad 4), .inl (t 0, 16, .inl (nF rr)))]) [((ad 0), .inr (8, [.int (nI sz), .ref (ad 1), .ref (ad 5), .ref (ad 10), .ref (ad 13), .ref (ad 19), .ref (ad 14), .ref (ad 18), .int (nI nb)]))] ([((ad 5), .inr (6, [.ref (ad 6), .ref (ad 7), .ref (ad 8), .ref (ad 9), .int (nI ns)])), ((ad 6), .inl (t 0, 40, .inl (nF sl))), ((ad 7), .inl (t 0, 40, .inl (nF sa))), ((ad 8), .inl (t 0, 40, .inl (nF sk))), ((ad 9), .inl (t 0, 40, .inl (nF gf))), ((ad 10), .inr (7, [.ref (ad 11), .ref (ad 12), .int (nI nt)])), ((ad 11), .inl (t 0, 40, .inl (nF ts))), ((ad 12), .inl (t 0, 40, .inl (nF te))), ((ad 14), .inr (3, [.ref (ad 15), .ref (ad 16), .ref (ad 17)])), ((ad 15), .inl (t 0, 31, .inl (nF stk))), ((ad 16), .inl (t 0, 31, .inl (nF cm))), ((ad 17), .inl (t 0, 31, .inl (nF dp))), ((ad 18), .inl (t 4, 20, .inr (.inr (.inr (.inr (blkQ B nb)))))), ((ad 19), .inr (4, [.ref (ad 20), .int (nI lc), .ref (ad 21), .ref (ad 22), .int (nI kc)])), ((ad 20), .inl (t 0, 40, .inl (nF last))), ((ad 21), .inl (t 5, 50, .inr (.inr (.inr (.inr (rowQ r)))))), ((ad 22), .inl (t 0, 50, .inl (nF sc))), ((ad 13), .inl (t 0, 40, .inl (nF tr)))] ++ (seg (rowF t r K) 50 ++ seg (blkF t B) nb)) hP hD hK hN 5 0 rfl rfl rfl) rfl rfl hl.1 rfl (lv_room (Nat.le_of_ble_eq_true rfl)) dX7_region_90 ⟨Nat.le_of_ble_eq_true rfl, Nat.le_of_ble_eq_true rfl⟩) hP hD hS hA (fun z v H locs hw hP hD hS hz => ?_)
            have hP : va_P D vwCl ([((ad 0), .inr (8, [.int (nI sz), .ref (ad 1), .ref (ad 5), .ref (ad 10), .ref (ad 13), .ref (ad 19), .ref (ad 14), .ref (ad 18), .int (nI nb)])), ((ad 1), .inr (5, [.ref (ad 2), .ref (ad 3), .ref (ad 4), .int (nI (v.1))])), ((ad 2), .inl (t 0, 16, .inl (nF v.2.1))), ((ad 3), .inl (t 0, 16, .inl (nF v.2.2.1))), ((ad 4), .inl (t 0, 16, .inl (nF v.2.2.2))), ((ad 5), .inr (6, [.ref (ad 6), .ref (ad 7), .ref (ad 8), .ref (ad 9), .int (nI ns)])), ((ad 6), .inl (t 0, 40, .inl (nF sl))), ((ad 7), .inl (t 0, 40, .inl (nF sa))), ((ad 8), .inl (t 0, 40, .inl (nF sk))), ((ad 9), .inl (t 0, 40, .inl (nF gf))), ((ad 10), .inr (7, [.ref (ad 11), .ref (ad 12), .int (nI nt)])), ((ad 11), .inl (t 0, 40, .inl (nF ts))), ((ad 12), .inl (t 0, 40, .inl (nF te))), ((ad 14), .inr (3, [.ref (ad 15), .ref (ad 16), .ref (ad 17)])), ((ad 15), .inl (t 0, 31, .inl (nF stk))), ((ad 16), .inl (t 0, 31, .inl (nF cm))), ((ad 17), .inl (t 0, 31, .inl (nF dp))), ((ad 18), .inl (t 4, 20, .inr (.inr (.inr (.inr (blkQ B nb)))))), ((ad 19), .inr (4, [.ref (ad 20), .int (nI lc), .ref (ad 21), .ref (ad 22), .int (nI kc)])), ((ad 20), .inl (t 0, 40, .inl (nF last))), ((ad 21), .inl (t 5, 50, .inr (.inr (.inr (.inr (rowQ r)))))), ((ad 22), .inl (t 0, 50, .inl (nF sc))), ((ad 13), .inl (t 0, 40, .inl (nF tr)))] ++ (seg (rowF t r K) 50 ++ seg (blkF t B) nb)) H := hP
            have hD : va_D A ([((ad 0), .inr (8, [.int (nI sz), .ref (ad 1), .ref (ad 5), .ref (ad 10), .ref (ad 13), .ref (ad 19), .ref (ad 14), .ref (ad 18), .int (nI nb)])), ((ad 1), .inr (5, [.ref (ad 2), .ref (ad 3), .ref (ad 4), .int (nI (v.1))])), ((ad 2), .inl (t 0, 16, .inl (nF v.2.1))), ((ad 3), .inl (t 0, 16, .inl (nF v.2.2.1))), ((ad 4), .inl (t 0, 16, .inl (nF v.2.2.2))), ((ad 5), .inr (6, [.ref (ad 6), .ref (ad 7), .ref (ad 8), .ref (ad 9), .int (nI ns)])), ((ad 6), .inl (t 0, 40, .inl (nF sl))), ((ad 7), .inl (t 0, 40, .inl (nF sa))), ((ad 8), .inl (t 0, 40, .inl (nF sk))), ((ad 9), .inl (t 0, 40, .inl (nF gf))), ((ad 10), .inr (7, [.ref (ad 11), .ref (ad 12), .int (nI nt)])), ((ad 11), .inl (t 0, 40, .inl (nF ts))), ((ad 12), .inl (t 0, 40, .inl (nF te))), ((ad 14), .inr (3, [.ref (ad 15), .ref (ad 16), .ref (ad 17)])), ((ad 15), .inl (t 0, 31, .inl (nF stk))), ((ad 16), .inl (t 0, 31, .inl (nF cm))), ((ad 17), .inl (t 0, 31, .inl (nF dp))), ((ad 18), .inl (t 4, 20, .inr (.inr (.inr (.inr (blkQ B nb)))))), ((ad 19), .inr (4, [.ref (ad 20), .int (nI lc), .ref (ad 21), .ref (ad 22), .int (nI kc)])), ((ad 20), .inl (t 0, 40, .inl (nF last))), ((ad 21), .inl (t 5, 50, .inr (.inr (.inr (.inr (rowQ r)))))), ((ad 22), .inl (t 0, 50, .inl (nF sc))), ((ad 13), .inl (t 0, 40, .inl (nF tr)))] ++ (seg (rowF t r K) 50 ++ seg (blkF t B) nb)) := hD
            exact ret_Mi hx hb hr hlk (v) (Or.inr ⟨f, k, j, hin2, q2, rfl, Or.inr ⟨g, hw⟩⟩) hP hD hS (Nat.le_of_ble_eq_true rfl) (Nat.le_of_ble_eq_true rfl) dX7_region_93
        · refine r_if_ne (x := 0) (tgt := 52) hx hb (by omega) dX7_region_46 (by decide) (fun c => absurd c (by decide)) (fun _ => ?_)
          refine lv_bipush (v := ((-2))) hx hb dX7_region_49 (by decide) ?_
          have h2 := rngI' (by omega) (by omega) h1
          exact ret_Mi hx hb hr hlk ((nr, rs, re, rr)) (Or.inl ⟨Or.inr (fun j hj => h2 j (Nat.zero_le _) hj), rfl, rfl⟩) hP hD hS (Nat.le_of_ble_eq_true rfl) (Nat.le_of_ble_eq_true rfl) dX7_region_51

theorem i_X7_blockNumbered_X7 : ∀ w ∈ wsX70, w ∈ wsX7_blockNumbered := by decide +kernel
abbrev rm_X7_blockNumbered : Room := { frames := 1, cells := 0, slots := 0, locals := 25 }
set_option maxHeartbeats 4000000 in
set_option maxRecDepth 100000 in
theorem c_X7_blockNumbered (l : Launch) (D : va_G) (t : Nat → ClassId) (ad : Nat → Nat) (sz nr : Nat) (rs re rr : Nat → Nat) (ns : Nat) (sl sa sk gf : Nat → Nat) (nt : Nat) (ts te : Nat → Nat) (stk cm dp : Nat → Nat) (nb : Nat) (B : Nat → BT) (lc kc : Nat) (last sc r : Nat → Nat) (K : Nat → Nat → Nat) (tr : Nat → Nat) (x : Int32) (hnb : nb ≤ 20) : Qq l yX7_blockNumbered wsX7_blockNumbered rm_X7_blockNumbered D (TY t) [.ref (ad 0), .int x] ([((ad 0), .inr (8, [.int (nI sz), .ref (ad 1), .ref (ad 5), .ref (ad 10), .ref (ad 13), .ref (ad 19), .ref (ad 14), .ref (ad 18), .int (nI nb)])), ((ad 1), .inr (5, [.ref (ad 2), .ref (ad 3), .ref (ad 4), .int (nI nr)])), ((ad 2), .inl (t 0, 16, .inl (nF rs))), ((ad 3), .inl (t 0, 16, .inl (nF re))), ((ad 4), .inl (t 0, 16, .inl (nF rr))), ((ad 5), .inr (6, [.ref (ad 6), .ref (ad 7), .ref (ad 8), .ref (ad 9), .int (nI ns)])), ((ad 6), .inl (t 0, 40, .inl (nF sl))), ((ad 7), .inl (t 0, 40, .inl (nF sa))), ((ad 8), .inl (t 0, 40, .inl (nF sk))), ((ad 9), .inl (t 0, 40, .inl (nF gf))), ((ad 10), .inr (7, [.ref (ad 11), .ref (ad 12), .int (nI nt)])), ((ad 11), .inl (t 0, 40, .inl (nF ts))), ((ad 12), .inl (t 0, 40, .inl (nF te))), ((ad 14), .inr (3, [.ref (ad 15), .ref (ad 16), .ref (ad 17)])), ((ad 15), .inl (t 0, 31, .inl (nF stk))), ((ad 16), .inl (t 0, 31, .inl (nF cm))), ((ad 17), .inl (t 0, 31, .inl (nF dp))), ((ad 18), .inl (t 4, 20, .inr (.inr (.inr (.inr (blkQ B nb)))))), ((ad 19), .inr (4, [.ref (ad 20), .int (nI lc), .ref (ad 21), .ref (ad 22), .int (nI kc)])), ((ad 20), .inl (t 0, 40, .inl (nF last))), ((ad 21), .inl (t 5, 50, .inr (.inr (.inr (.inr (rowQ r)))))), ((ad 22), .inl (t 0, 50, .inl (nF sc))), ((ad 13), .inl (t 0, 40, .inl (nF tr)))] ++ (seg (rowF t r K) 50 ++ seg (blkF t B) nb)) (fun o => ((∀ k, 1 ≤ k → k ≤ nb → x ≠ nI k) ∧ o = none) ∨ ∃ k, k < nb ∧ x = nI (k + 1) ∧ o = some (B k).1) := by
  refine start_Qq cX7_blockNumbered 2 (some (.object "MemoryMap$Block")) (by decide) rfl (Nat.le_of_ble_eq_true rfl) ?_
  intro p e s m below meth c ls B hP hD hl
  obtain ⟨hx, hb, hr, hts, hown, hlk, hml, hN, hK⟩ := B
  have hl : lv_has ls 2 [(0, .ref (ad 0)), (1, .int x)] := hl
  refine lv_iload_n hx hb dX7_blockNumbered_0 rfl (lv_at hl 1 rfl) ?_
  refine lv_i2l hx hb dX7_blockNumbered_1 rfl ?_
  refine lv_lconst (v := (lN (1))) hx hb dX7_blockNumbered_2 (by decide) ?_
  refine lv_aload_n hx hb dX7_blockNumbered_3 rfl (lv_at hl 0 rfl) ?_
  refine va_get (D := D) (ci := 8) (v := .int (nI nb)) (C := RX7) (T := TX7) (N := 9) hx hb hts i_X7_blockNumbered_X7 hown hK hP 0 rfl rfl 8 (by decide) (hts (.fieldLink RX7 129 "MemoryMap" "blockCount" "I") (List.mem_of_getElem? (i := 1) rfl)) (fun _ h9 => h9) rfl dX7_blockNumbered_4 ?_
  refine lv_i2l (v := (lN (nb))) hx hb dX7_blockNumbered_7 (nI_l (by omega)) ?_
  refine vp_callSi (va_Run.run (va_runS (As := [.long x.toInt64, .long (lN (1)), .long (lN (nb))]) (rest := []) ⟨hx, hb, hml, hown, hts⟩ (c_X7_isWithin l D t x.toInt64 (lN 1) (lN nb) _) (va_cwS 3 hts gX7_blockNumbered_X7_isWithin rfl rfl rfl (by decide +kernel) ⟨Nat.le_of_ble_eq_true rfl, Nat.le_of_ble_eq_true rfl⟩) (preS hP hD hK hN [] rfl (by decide)) rfl rfl hl.1 rfl (lv_room (Nat.le_of_ble_eq_true rfl)) dX7_blockNumbered_8 ⟨Nat.le_of_ble_eq_true rfl, Nat.le_of_ble_eq_true rfl⟩)) (fun r hw => ?_)
  rcases hw with ⟨rfl, h1, h2⟩ | ⟨rfl, h1⟩
  · obtain ⟨k1, q1, q2, rfl⟩ := rngI (by omega) (by omega) h1 h2
    obtain ⟨k, rfl⟩ : ∃ k, k1 = k + 1 := ⟨k1 - 1, by omega⟩
    have hl : lv_has ls 2 [(0, .ref (ad 0)), (1, .int (nI (k + 1)))] := hl
    refine r_if_eq (x := 1) (tgt := 25) hx hb (by omega) dX7_blockNumbered_11 (by decide) (fun c => absurd c (by decide)) (fun _ => ?_)
    refine lv_aload_n hx hb dX7_blockNumbered_14 rfl (lv_at hl 0 rfl) ?_
    refine va_get (D := D) (ci := 8) (v := .ref (ad 18)) (C := RX7) (T := TX7) (N := 9) hx hb hts i_X7_blockNumbered_X7 hown hK hP 0 rfl rfl 7 (by decide) (hts (.fieldLink RX7 50 "MemoryMap" "blocks" "[LMemoryMap$Block;") (List.mem_of_getElem? (i := 2) rfl)) (fun _ h9 => h9) rfl dX7_blockNumbered_15 ?_
    refine lv_iload_n hx hb dX7_blockNumbered_18 rfl (lv_at hl 1 rfl) ?_
    refine lv_iconst (v := (nI 1)) hx hb dX7_blockNumbered_19 (by decide) ?_
    refine r_isub (x := (k + 1)) (y := 1) hx hb (by omega) dX7_blockNumbered_20 ?_
    have e1 : k + 1 - 1 = k := by omega
    rw [e1]
    refine r_aldA hx hb hK hP 17 4 rfl rfl rfl (show k < 20 by omega) (by decide) dX7_blockNumbered_21 ?_
    rw [blkQ_at (show k < nb by omega)]
    refine lv_goto (tgt := 26) hx hb dX7_blockNumbered_22 (by decide) ?_
    exact ret_Qq hx hb hr (Or.inl ⟨_, rfl⟩) hlk (some (B k).1) rfl (Or.inr ⟨k, by omega, rfl, rfl⟩) dX7_blockNumbered_26
  · refine r_if_eq (x := 0) (tgt := 25) hx hb (by omega) dX7_blockNumbered_11 (by decide) (fun _ => ?_) (fun c => absurd c (by decide))
    refine lv_null hx hb dX7_blockNumbered_25 ?_
    have h2 := rngI' (by omega) (by omega) h1
    exact ret_Qq hx hb hr (Or.inl ⟨_, rfl⟩) hlk (none) rfl (Or.inl ⟨h2, rfl⟩) dX7_blockNumbered_26
end
section
theorem i_X7_write_X0 : ∀ w ∈ wsX00, w ∈ wsX7_write := by decide +kernel
abbrev rm_X7_write : Room := { frames := 2, cells := 0, slots := 0, locals := 46 }
set_option maxHeartbeats 4000000 in
set_option maxRecDepth 100000 in
theorem c_X7_write (l : Launch) (D : va_G) (t : Nat → ClassId) (ad : Nat → Nat) (sz nr : Nat) (rs re rr : Nat → Nat) (ns : Nat) (sl sa sk gf : Nat → Nat) (nt : Nat) (ts te : Nat → Nat) (stk cm dp : Nat → Nat) (nb : Nat) (B : Nat → BT) (lc kc : Nat) (last sc r : Nat → Nat) (K : Nat → Nat → Nat) (tr : Nat → Nat) (x y b : Int32) (hnb : nb ≤ 20) (hB1 : ∀ k, k < nb → 1 ≤ (B k).2.1 ∧ (B k).2.1 ≤ 32) : Mi l yX7_write wsX7_write rm_X7_write D (TY t) [.ref (ad 0), .int x, .int y, .int b] ([((ad 0), .inr (8, [.int (nI sz), .ref (ad 1), .ref (ad 5), .ref (ad 10), .ref (ad 13), .ref (ad 19), .ref (ad 14), .ref (ad 18), .int (nI nb)])), ((ad 1), .inr (5, [.ref (ad 2), .ref (ad 3), .ref (ad 4), .int (nI nr)])), ((ad 2), .inl (t 0, 16, .inl (nF rs))), ((ad 3), .inl (t 0, 16, .inl (nF re))), ((ad 4), .inl (t 0, 16, .inl (nF rr))), ((ad 5), .inr (6, [.ref (ad 6), .ref (ad 7), .ref (ad 8), .ref (ad 9), .int (nI ns)])), ((ad 6), .inl (t 0, 40, .inl (nF sl))), ((ad 7), .inl (t 0, 40, .inl (nF sa))), ((ad 8), .inl (t 0, 40, .inl (nF sk))), ((ad 9), .inl (t 0, 40, .inl (nF gf))), ((ad 10), .inr (7, [.ref (ad 11), .ref (ad 12), .int (nI nt)])), ((ad 11), .inl (t 0, 40, .inl (nF ts))), ((ad 12), .inl (t 0, 40, .inl (nF te))), ((ad 14), .inr (3, [.ref (ad 15), .ref (ad 16), .ref (ad 17)])), ((ad 15), .inl (t 0, 31, .inl (nF stk))), ((ad 16), .inl (t 0, 31, .inl (nF cm))), ((ad 17), .inl (t 0, 31, .inl (nF dp))), ((ad 18), .inl (t 4, 20, .inr (.inr (.inr (.inr (blkQ B nb)))))), ((ad 19), .inr (4, [.ref (ad 20), .int (nI lc), .ref (ad 21), .ref (ad 22), .int (nI kc)])), ((ad 20), .inl (t 0, 40, .inl (nF last))), ((ad 21), .inl (t 5, 50, .inr (.inr (.inr (.inr (rowQ r)))))), ((ad 22), .inl (t 0, 50, .inl (nF sc))), ((ad 13), .inl (t 0, 40, .inl (nF tr)))] ++ (seg (rowF t r K) 50 ++ seg (blkF t B) nb)) (S := Nat → BT) (fun z u => ((∀ k, 1 ≤ k → k ≤ nb → x ≠ nI k) ∧ z = (-1) ∧ u = B) ∨ ∃ k, k < nb ∧ x = nI (k + 1) ∧ (((∀ j, j < (B k).2.1 → y ≠ nI j) ∧ z = (-2) ∧ u = B) ∨ ∃ j, j < (B k).2.1 ∧ y = nI j ∧ z = nI 1 ∧ u = va_up B k (setB (B k) j b))) (fun u => ([((ad 0), .inr (8, [.int (nI sz), .ref (ad 1), .ref (ad 5), .ref (ad 10), .ref (ad 13), .ref (ad 19), .ref (ad 14), .ref (ad 18), .int (nI nb)])), ((ad 1), .inr (5, [.ref (ad 2), .ref (ad 3), .ref (ad 4), .int (nI nr)])), ((ad 2), .inl (t 0, 16, .inl (nF rs))), ((ad 3), .inl (t 0, 16, .inl (nF re))), ((ad 4), .inl (t 0, 16, .inl (nF rr))), ((ad 5), .inr (6, [.ref (ad 6), .ref (ad 7), .ref (ad 8), .ref (ad 9), .int (nI ns)])), ((ad 6), .inl (t 0, 40, .inl (nF sl))), ((ad 7), .inl (t 0, 40, .inl (nF sa))), ((ad 8), .inl (t 0, 40, .inl (nF sk))), ((ad 9), .inl (t 0, 40, .inl (nF gf))), ((ad 10), .inr (7, [.ref (ad 11), .ref (ad 12), .int (nI nt)])), ((ad 11), .inl (t 0, 40, .inl (nF ts))), ((ad 12), .inl (t 0, 40, .inl (nF te))), ((ad 14), .inr (3, [.ref (ad 15), .ref (ad 16), .ref (ad 17)])), ((ad 15), .inl (t 0, 31, .inl (nF stk))), ((ad 16), .inl (t 0, 31, .inl (nF cm))), ((ad 17), .inl (t 0, 31, .inl (nF dp))), ((ad 18), .inl (t 4, 20, .inr (.inr (.inr (.inr (blkQ u nb)))))), ((ad 19), .inr (4, [.ref (ad 20), .int (nI lc), .ref (ad 21), .ref (ad 22), .int (nI kc)])), ((ad 20), .inl (t 0, 40, .inl (nF last))), ((ad 21), .inl (t 5, 50, .inr (.inr (.inr (.inr (rowQ r)))))), ((ad 22), .inl (t 0, 50, .inl (nF sc))), ((ad 13), .inl (t 0, 40, .inl (nF tr)))] ++ (seg (rowF t r K) 50 ++ seg (blkF t u) nb))) := by
  refine start_Mi cX7_write 5 (some .int) (by decide) rfl (Nat.le_of_ble_eq_true rfl) ?_
  intro p e s m below meth c A ls B hin hP hD hS hA hl
  obtain ⟨hx, hb, hr, hts, hown, hlk, hml, hN, hK⟩ := B
  have hl : lv_has ls 5 [(0, .ref (ad 0)), (1, .int x), (2, .int y), (3, .int b)] := hl
  refine lv_aload_n hx hb dX7_write_0 rfl (lv_at hl 0 rfl) ?_
  refine lv_iload_n hx hb dX7_write_1 rfl (lv_at hl 1 rfl) ?_
  refine va_csq (va_Run.run (va_runV (As := [.int x]) (rest := []) ⟨hx, hb, hml, hown, hts⟩ (c_X7_blockNumbered l D t ad sz nr rs re rr ns sl sa sk gf nt ts te stk cm dp nb B lc kc last sc r K tr x hnb _) (cwV 1 hts gX7_write_X7_blockNumbered rfl rfl rfl (by decide +kernel) ⟨Nat.le_of_ble_eq_true rfl, Nat.le_of_ble_eq_true rfl⟩) (preVw hP hD hK hN 8 0 rfl rfl rfl) rfl rfl hl.1 rfl (lv_room (Nat.le_of_ble_eq_true rfl)) dX7_write_2 ⟨Nat.le_of_ble_eq_true rfl, Nat.le_of_ble_eq_true rfl⟩)) (fun o hw => ?_)
  rcases hw with ⟨h1, rfl⟩ | ⟨k, hkn, rfl, rfl⟩
  · refine lv_astoreN (lv' := [(4, .null), (0, .ref (ad 0)), (1, .int x), (2, .int y), (3, .int b)]) hx hb dX7_write_5 hl (by decide) rfl (fun ls hl => ?_)
    refine lv_aloadN hx hb dX7_write_7 (lv_at hl 0 rfl) ?_
    refine lv_ifnonnullN hx hb dX7_write_9 ?_
    refine lv_iconst (v := ((-1))) hx hb dX7_write_12 (by decide) ?_
    exact ret_Mi hx hb hr hlk (B) (Or.inl ⟨h1, rfl, rfl⟩) hP hD hS (Nat.le_of_ble_eq_true rfl) (Nat.le_of_ble_eq_true rfl) dX7_write_13
  · have hl : lv_has ls 5 [(0, .ref (ad 0)), (1, .int ((nI (k + 1)))), (2, .int y), (3, .int b)] := hl
    have hPs := hP
    have hDs := hD
    have hP := P_perm (fr_perm0 (X := [((ad 0), .inr (8, [.int (nI sz), .ref (ad 1), .ref (ad 5), .ref (ad 10), .ref (ad 13), .ref (ad 19), .ref (ad 14), .ref (ad 18), .int (nI nb)])), ((ad 1), .inr (5, [.ref (ad 2), .ref (ad 3), .ref (ad 4), .int (nI nr)])), ((ad 2), .inl (t 0, 16, .inl (nF rs))), ((ad 3), .inl (t 0, 16, .inl (nF re))), ((ad 4), .inl (t 0, 16, .inl (nF rr))), ((ad 5), .inr (6, [.ref (ad 6), .ref (ad 7), .ref (ad 8), .ref (ad 9), .int (nI ns)])), ((ad 6), .inl (t 0, 40, .inl (nF sl))), ((ad 7), .inl (t 0, 40, .inl (nF sa))), ((ad 8), .inl (t 0, 40, .inl (nF sk))), ((ad 9), .inl (t 0, 40, .inl (nF gf))), ((ad 10), .inr (7, [.ref (ad 11), .ref (ad 12), .int (nI nt)])), ((ad 11), .inl (t 0, 40, .inl (nF ts))), ((ad 12), .inl (t 0, 40, .inl (nF te))), ((ad 14), .inr (3, [.ref (ad 15), .ref (ad 16), .ref (ad 17)])), ((ad 15), .inl (t 0, 31, .inl (nF stk))), ((ad 16), .inl (t 0, 31, .inl (nF cm))), ((ad 17), .inl (t 0, 31, .inl (nF dp))), ((ad 18), .inl (t 4, 20, .inr (.inr (.inr (.inr (blkQ B nb)))))), ((ad 19), .inr (4, [.ref (ad 20), .int (nI lc), .ref (ad 21), .ref (ad 22), .int (nI kc)])), ((ad 20), .inl (t 0, 40, .inl (nF last))), ((ad 21), .inl (t 5, 50, .inr (.inr (.inr (.inr (rowQ r)))))), ((ad 22), .inl (t 0, 50, .inl (nF sc))), ((ad 13), .inl (t 0, 40, .inl (nF tr)))]) (Y := (seg (rowF t r K) 50)) hkn) hP
    have hD := D_perm (fr_perm0 (X := [((ad 0), .inr (8, [.int (nI sz), .ref (ad 1), .ref (ad 5), .ref (ad 10), .ref (ad 13), .ref (ad 19), .ref (ad 14), .ref (ad 18), .int (nI nb)])), ((ad 1), .inr (5, [.ref (ad 2), .ref (ad 3), .ref (ad 4), .int (nI nr)])), ((ad 2), .inl (t 0, 16, .inl (nF rs))), ((ad 3), .inl (t 0, 16, .inl (nF re))), ((ad 4), .inl (t 0, 16, .inl (nF rr))), ((ad 5), .inr (6, [.ref (ad 6), .ref (ad 7), .ref (ad 8), .ref (ad 9), .int (nI ns)])), ((ad 6), .inl (t 0, 40, .inl (nF sl))), ((ad 7), .inl (t 0, 40, .inl (nF sa))), ((ad 8), .inl (t 0, 40, .inl (nF sk))), ((ad 9), .inl (t 0, 40, .inl (nF gf))), ((ad 10), .inr (7, [.ref (ad 11), .ref (ad 12), .int (nI nt)])), ((ad 11), .inl (t 0, 40, .inl (nF ts))), ((ad 12), .inl (t 0, 40, .inl (nF te))), ((ad 14), .inr (3, [.ref (ad 15), .ref (ad 16), .ref (ad 17)])), ((ad 15), .inl (t 0, 31, .inl (nF stk))), ((ad 16), .inl (t 0, 31, .inl (nF cm))), ((ad 17), .inl (t 0, 31, .inl (nF dp))), ((ad 18), .inl (t 4, 20, .inr (.inr (.inr (.inr (blkQ B nb)))))), ((ad 19), .inr (4, [.ref (ad 20), .int (nI lc), .ref (ad 21), .ref (ad 22), .int (nI kc)])), ((ad 20), .inl (t 0, 40, .inl (nF last))), ((ad 21), .inl (t 5, 50, .inr (.inr (.inr (.inr (rowQ r)))))), ((ad 22), .inl (t 0, 50, .inl (nF sc))), ((ad 13), .inl (t 0, 40, .inl (nF tr)))]) (Y := (seg (rowF t r K) 50)) hkn) hD
    have hP : va_P D vwCl ([((B k).1, .inr (1, [.int (nI ((B k).2.1)), .ref (B k).2.2.1.1, .ref (B k).2.2.2.1])), ((B k).2.2.1.1, .inr (2, [.ref (B k).2.2.1.2.1, .int ((B k).2.2.1.2.2.2)])), ((B k).2.2.1.2.1, .inl (t 1, (B k).2.1, .inl ((B k).2.2.1.2.2.1))), ((B k).2.2.2.1, .inr (2, [.ref (B k).2.2.2.2.1, .int ((B k).2.2.2.2.2.2)])), ((B k).2.2.2.2.1, .inl (t 1, (B k).2.1, .inl ((B k).2.2.2.2.2.1)))] ++ (frZ t [((ad 0), .inr (8, [.int (nI sz), .ref (ad 1), .ref (ad 5), .ref (ad 10), .ref (ad 13), .ref (ad 19), .ref (ad 14), .ref (ad 18), .int (nI nb)])), ((ad 1), .inr (5, [.ref (ad 2), .ref (ad 3), .ref (ad 4), .int (nI nr)])), ((ad 2), .inl (t 0, 16, .inl (nF rs))), ((ad 3), .inl (t 0, 16, .inl (nF re))), ((ad 4), .inl (t 0, 16, .inl (nF rr))), ((ad 5), .inr (6, [.ref (ad 6), .ref (ad 7), .ref (ad 8), .ref (ad 9), .int (nI ns)])), ((ad 6), .inl (t 0, 40, .inl (nF sl))), ((ad 7), .inl (t 0, 40, .inl (nF sa))), ((ad 8), .inl (t 0, 40, .inl (nF sk))), ((ad 9), .inl (t 0, 40, .inl (nF gf))), ((ad 10), .inr (7, [.ref (ad 11), .ref (ad 12), .int (nI nt)])), ((ad 11), .inl (t 0, 40, .inl (nF ts))), ((ad 12), .inl (t 0, 40, .inl (nF te))), ((ad 14), .inr (3, [.ref (ad 15), .ref (ad 16), .ref (ad 17)])), ((ad 15), .inl (t 0, 31, .inl (nF stk))), ((ad 16), .inl (t 0, 31, .inl (nF cm))), ((ad 17), .inl (t 0, 31, .inl (nF dp))), ((ad 18), .inl (t 4, 20, .inr (.inr (.inr (.inr (blkQ B nb)))))), ((ad 19), .inr (4, [.ref (ad 20), .int (nI lc), .ref (ad 21), .ref (ad 22), .int (nI kc)])), ((ad 20), .inl (t 0, 40, .inl (nF last))), ((ad 21), .inl (t 5, 50, .inr (.inr (.inr (.inr (rowQ r)))))), ((ad 22), .inl (t 0, 50, .inl (nF sc))), ((ad 13), .inl (t 0, 40, .inl (nF tr)))] (seg (rowF t r K) 50) B k nb)) _ := hP
    have hD : va_D A ([((B k).1, .inr (1, [.int (nI ((B k).2.1)), .ref (B k).2.2.1.1, .ref (B k).2.2.2.1])), ((B k).2.2.1.1, .inr (2, [.ref (B k).2.2.1.2.1, .int ((B k).2.2.1.2.2.2)])), ((B k).2.2.1.2.1, .inl (t 1, (B k).2.1, .inl ((B k).2.2.1.2.2.1))), ((B k).2.2.2.1, .inr (2, [.ref (B k).2.2.2.2.1, .int ((B k).2.2.2.2.2.2)])), ((B k).2.2.2.2.1, .inl (t 1, (B k).2.1, .inl ((B k).2.2.2.2.2.1)))] ++ (frZ t [((ad 0), .inr (8, [.int (nI sz), .ref (ad 1), .ref (ad 5), .ref (ad 10), .ref (ad 13), .ref (ad 19), .ref (ad 14), .ref (ad 18), .int (nI nb)])), ((ad 1), .inr (5, [.ref (ad 2), .ref (ad 3), .ref (ad 4), .int (nI nr)])), ((ad 2), .inl (t 0, 16, .inl (nF rs))), ((ad 3), .inl (t 0, 16, .inl (nF re))), ((ad 4), .inl (t 0, 16, .inl (nF rr))), ((ad 5), .inr (6, [.ref (ad 6), .ref (ad 7), .ref (ad 8), .ref (ad 9), .int (nI ns)])), ((ad 6), .inl (t 0, 40, .inl (nF sl))), ((ad 7), .inl (t 0, 40, .inl (nF sa))), ((ad 8), .inl (t 0, 40, .inl (nF sk))), ((ad 9), .inl (t 0, 40, .inl (nF gf))), ((ad 10), .inr (7, [.ref (ad 11), .ref (ad 12), .int (nI nt)])), ((ad 11), .inl (t 0, 40, .inl (nF ts))), ((ad 12), .inl (t 0, 40, .inl (nF te))), ((ad 14), .inr (3, [.ref (ad 15), .ref (ad 16), .ref (ad 17)])), ((ad 15), .inl (t 0, 31, .inl (nF stk))), ((ad 16), .inl (t 0, 31, .inl (nF cm))), ((ad 17), .inl (t 0, 31, .inl (nF dp))), ((ad 18), .inl (t 4, 20, .inr (.inr (.inr (.inr (blkQ B nb)))))), ((ad 19), .inr (4, [.ref (ad 20), .int (nI lc), .ref (ad 21), .ref (ad 22), .int (nI kc)])), ((ad 20), .inl (t 0, 40, .inl (nF last))), ((ad 21), .inl (t 5, 50, .inr (.inr (.inr (.inr (rowQ r)))))), ((ad 22), .inl (t 0, 50, .inl (nF sc))), ((ad 13), .inl (t 0, 40, .inl (nF tr)))] (seg (rowF t r K) 50) B k nb)) := hD
    have hb1 := hB1 k hkn
    refine lv_astore (lv' := [(4, .ref (B k).1), (0, .ref (ad 0)), (1, .int ((nI (k + 1)))), (2, .int y), (3, .int b)]) hx hb dX7_write_5 hl (by decide) rfl (fun ls hl => ?_)
    refine lv_aload hx hb dX7_write_7 (lv_at hl 0 rfl) ?_
    refine lv_ifnonnull (tgt := 14) hx hb dX7_write_9 (by decide) ?_
    refine lv_aload hx hb dX7_write_14 (lv_at hl 0 rfl) ?_
    refine lv_iload_n hx hb dX7_write_16 rfl (lv_at hl 3 rfl) ?_
    refine vp_callSi (va_Run.run (va_runVN (As := [.int y]) (rest := []) ⟨hx, hb, hml, hown, hts⟩ (c_X0_hasOctet l D t ((B k).1) ((B k).2.2.1.1) ((B k).2.2.2.1) ((B k).2.1) y hb1.2 hb1.1 _) (⟨va_cnB 1 hts ggX7_write_X0_hasOctet rfl rfl rfl (hN.m 17 rfl) (hts (.initialized RX0) (List.mem_of_getElem? (i := 12) rfl)) (by decide +kernel) ⟨Nat.le_of_ble_eq_true rfl, Nat.le_of_ble_eq_true rfl⟩, (hts (.instanceMethod yX0_hasOctet) (List.mem_of_getElem? (i := 11) rfl)), (hts (.selects RX0 yX0_hasOctet yX0_hasOctet) (List.mem_of_getElem? (i := 13) rfl))⟩) (preVp (wc := [((B k).1, .inr (1, [.int (nI ((B k).2.1)), .ref (B k).2.2.1.1, .ref (B k).2.2.2.1]))]) [] ([((B k).2.2.1.1, .inr (2, [.ref (B k).2.2.1.2.1, .int ((B k).2.2.1.2.2.2)])), ((B k).2.2.1.2.1, .inl (t 1, (B k).2.1, .inl ((B k).2.2.1.2.2.1))), ((B k).2.2.2.1, .inr (2, [.ref (B k).2.2.2.2.1, .int ((B k).2.2.2.2.2.2)])), ((B k).2.2.2.2.1, .inl (t 1, (B k).2.1, .inl ((B k).2.2.2.2.2.1)))] ++ (frZ t [((ad 0), .inr (8, [.int (nI sz), .ref (ad 1), .ref (ad 5), .ref (ad 10), .ref (ad 13), .ref (ad 19), .ref (ad 14), .ref (ad 18), .int (nI nb)])), ((ad 1), .inr (5, [.ref (ad 2), .ref (ad 3), .ref (ad 4), .int (nI nr)])), ((ad 2), .inl (t 0, 16, .inl (nF rs))), ((ad 3), .inl (t 0, 16, .inl (nF re))), ((ad 4), .inl (t 0, 16, .inl (nF rr))), ((ad 5), .inr (6, [.ref (ad 6), .ref (ad 7), .ref (ad 8), .ref (ad 9), .int (nI ns)])), ((ad 6), .inl (t 0, 40, .inl (nF sl))), ((ad 7), .inl (t 0, 40, .inl (nF sa))), ((ad 8), .inl (t 0, 40, .inl (nF sk))), ((ad 9), .inl (t 0, 40, .inl (nF gf))), ((ad 10), .inr (7, [.ref (ad 11), .ref (ad 12), .int (nI nt)])), ((ad 11), .inl (t 0, 40, .inl (nF ts))), ((ad 12), .inl (t 0, 40, .inl (nF te))), ((ad 14), .inr (3, [.ref (ad 15), .ref (ad 16), .ref (ad 17)])), ((ad 15), .inl (t 0, 31, .inl (nF stk))), ((ad 16), .inl (t 0, 31, .inl (nF cm))), ((ad 17), .inl (t 0, 31, .inl (nF dp))), ((ad 18), .inl (t 4, 20, .inr (.inr (.inr (.inr (blkQ B nb)))))), ((ad 19), .inr (4, [.ref (ad 20), .int (nI lc), .ref (ad 21), .ref (ad 22), .int (nI kc)])), ((ad 20), .inl (t 0, 40, .inl (nF last))), ((ad 21), .inl (t 5, 50, .inr (.inr (.inr (.inr (rowQ r)))))), ((ad 22), .inl (t 0, 50, .inl (nF sc))), ((ad 13), .inl (t 0, 40, .inl (nF tr)))] (seg (rowF t r K) 50) B k nb)) hP hD hK hN 1 0 rfl rfl rfl) rfl rfl hl.1 rfl (lv_room (Nat.le_of_ble_eq_true rfl)) dX7_write_17 ⟨Nat.le_of_ble_eq_true rfl, Nat.le_of_ble_eq_true rfl⟩)) (fun r hw => ?_)
    rcases hw with ⟨rfl, j, hj, rfl⟩ | ⟨rfl, h1⟩
    · have hl : lv_has ls 5 [(4, .ref (B k).1), (0, .ref (ad 0)), (1, .int ((nI (k + 1)))), (2, .int (nI j)), (3, .int b)] := hl
      refine r_if_ne (x := 1) (tgt := 26) hx hb (by omega) dX7_write_20 (by decide) (fun _ => ?_) (fun c => absurd c (by decide))
      refine lv_aload hx hb dX7_write_26 (lv_at hl 0 rfl) ?_
      refine va_getN (host := "MemoryMap") (own := RX7) (D := D) (ci := 1) (v := .ref (B k).2.2.1.1) (C := RX0) (T := TX0) (N := 3) hx hb hts i_X7_write_X0 hown hK hP 0 rfl rfl 1 (by decide) (hN.f 12 rfl) (fun _ h9 => h9) rfl dX7_write_28 ?_
      refine lv_iload_n hx hb dX7_write_31 rfl (lv_at hl 3 rfl) ?_
      refine lv_iload_n hx hb dX7_write_32 rfl (lv_at hl 4 rfl) ?_
      refine call_Mvp (wc := [((B k).2.2.1.1, .inr (2, [.ref (B k).2.2.1.2.1, .int ((B k).2.2.1.2.2.2)])), ((B k).2.2.1.2.1, .inl (t 1, (B k).2.1, .inl ((B k).2.2.1.2.2.1)))]) (wc' := fun v1 : Unit => [((B k).2.2.1.1, .inr (2, [.ref (B k).2.2.1.2.1, .int (sumF (upd (B k).2.2.1.2.2.1 j (b.toInt8.toInt32)) (B k).2.1)])), ((B k).2.2.1.2.1, .inl (t 1, (B k).2.1, .inl (upd (B k).2.2.1.2.2.1 j (b.toInt8.toInt32))))]) [((B k).1, .inr (1, [.int (nI ((B k).2.1)), .ref (B k).2.2.1.1, .ref (B k).2.2.2.1]))] ([((B k).2.2.2.1, .inr (2, [.ref (B k).2.2.2.2.1, .int ((B k).2.2.2.2.2.2)])), ((B k).2.2.2.2.1, .inl (t 1, (B k).2.1, .inl ((B k).2.2.2.2.2.1)))] ++ (frZ t [((ad 0), .inr (8, [.int (nI sz), .ref (ad 1), .ref (ad 5), .ref (ad 10), .ref (ad 13), .ref (ad 19), .ref (ad 14), .ref (ad 18), .int (nI nb)])), ((ad 1), .inr (5, [.ref (ad 2), .ref (ad 3), .ref (ad 4), .int (nI nr)])), ((ad 2), .inl (t 0, 16, .inl (nF rs))), ((ad 3), .inl (t 0, 16, .inl (nF re))), ((ad 4), .inl (t 0, 16, .inl (nF rr))), ((ad 5), .inr (6, [.ref (ad 6), .ref (ad 7), .ref (ad 8), .ref (ad 9), .int (nI ns)])), ((ad 6), .inl (t 0, 40, .inl (nF sl))), ((ad 7), .inl (t 0, 40, .inl (nF sa))), ((ad 8), .inl (t 0, 40, .inl (nF sk))), ((ad 9), .inl (t 0, 40, .inl (nF gf))), ((ad 10), .inr (7, [.ref (ad 11), .ref (ad 12), .int (nI nt)])), ((ad 11), .inl (t 0, 40, .inl (nF ts))), ((ad 12), .inl (t 0, 40, .inl (nF te))), ((ad 14), .inr (3, [.ref (ad 15), .ref (ad 16), .ref (ad 17)])), ((ad 15), .inl (t 0, 31, .inl (nF stk))), ((ad 16), .inl (t 0, 31, .inl (nF cm))), ((ad 17), .inl (t 0, 31, .inl (nF dp))), ((ad 18), .inl (t 4, 20, .inr (.inr (.inr (.inr (blkQ B nb)))))), ((ad 19), .inr (4, [.ref (ad 20), .int (nI lc), .ref (ad 21), .ref (ad 22), .int (nI kc)])), ((ad 20), .inl (t 0, 40, .inl (nF last))), ((ad 21), .inl (t 5, 50, .inr (.inr (.inr (.inr (rowQ r)))))), ((ad 22), .inl (t 0, 50, .inl (nF sc))), ((ad 13), .inl (t 0, 40, .inl (nF tr)))] (seg (rowF t r K) 50) B k nb)) (va_runVN (As := [.int (nI j), .int b]) (rest := []) ⟨hx, hb, hml, hown, hts⟩ (c_X1_setOctet l D t ((B k).2.2.1.1) ((B k).2.2.1.2.1) ((B k).2.1) j ((B k).2.2.1.2.2.1) ((B k).2.2.1.2.2.2) b hb1.2 hj _) (⟨va_cnB 2 hts ggX7_write_X1_setOctet rfl rfl rfl (hN.m 19 rfl) (hts (.initialized RX1) (List.mem_of_getElem? (i := 17) rfl)) (by decide +kernel) ⟨Nat.le_of_ble_eq_true rfl, Nat.le_of_ble_eq_true rfl⟩, (hts (.instanceMethod yX1_setOctet) (List.mem_of_getElem? (i := 16) rfl)), (hts (.selects RX1 yX1_setOctet yX1_setOctet) (List.mem_of_getElem? (i := 18) rfl))⟩) (preVp (wc := [((B k).2.2.1.1, .inr (2, [.ref (B k).2.2.1.2.1, .int ((B k).2.2.1.2.2.2)])), ((B k).2.2.1.2.1, .inl (t 1, (B k).2.1, .inl ((B k).2.2.1.2.2.1)))]) [((B k).1, .inr (1, [.int (nI ((B k).2.1)), .ref (B k).2.2.1.1, .ref (B k).2.2.2.1]))] ([((B k).2.2.2.1, .inr (2, [.ref (B k).2.2.2.2.1, .int ((B k).2.2.2.2.2.2)])), ((B k).2.2.2.2.1, .inl (t 1, (B k).2.1, .inl ((B k).2.2.2.2.2.1)))] ++ (frZ t [((ad 0), .inr (8, [.int (nI sz), .ref (ad 1), .ref (ad 5), .ref (ad 10), .ref (ad 13), .ref (ad 19), .ref (ad 14), .ref (ad 18), .int (nI nb)])), ((ad 1), .inr (5, [.ref (ad 2), .ref (ad 3), .ref (ad 4), .int (nI nr)])), ((ad 2), .inl (t 0, 16, .inl (nF rs))), ((ad 3), .inl (t 0, 16, .inl (nF re))), ((ad 4), .inl (t 0, 16, .inl (nF rr))), ((ad 5), .inr (6, [.ref (ad 6), .ref (ad 7), .ref (ad 8), .ref (ad 9), .int (nI ns)])), ((ad 6), .inl (t 0, 40, .inl (nF sl))), ((ad 7), .inl (t 0, 40, .inl (nF sa))), ((ad 8), .inl (t 0, 40, .inl (nF sk))), ((ad 9), .inl (t 0, 40, .inl (nF gf))), ((ad 10), .inr (7, [.ref (ad 11), .ref (ad 12), .int (nI nt)])), ((ad 11), .inl (t 0, 40, .inl (nF ts))), ((ad 12), .inl (t 0, 40, .inl (nF te))), ((ad 14), .inr (3, [.ref (ad 15), .ref (ad 16), .ref (ad 17)])), ((ad 15), .inl (t 0, 31, .inl (nF stk))), ((ad 16), .inl (t 0, 31, .inl (nF cm))), ((ad 17), .inl (t 0, 31, .inl (nF dp))), ((ad 18), .inl (t 4, 20, .inr (.inr (.inr (.inr (blkQ B nb)))))), ((ad 19), .inr (4, [.ref (ad 20), .int (nI lc), .ref (ad 21), .ref (ad 22), .int (nI kc)])), ((ad 20), .inl (t 0, 40, .inl (nF last))), ((ad 21), .inl (t 5, 50, .inr (.inr (.inr (.inr (rowQ r)))))), ((ad 22), .inl (t 0, 50, .inl (nF sc))), ((ad 13), .inl (t 0, 40, .inl (nF tr)))] (seg (rowF t r K) 50) B k nb)) hP hD hK hN 2 0 rfl rfl rfl) rfl rfl hl.1 rfl (lv_room (Nat.le_of_ble_eq_true rfl)) dX7_write_33 ⟨Nat.le_of_ble_eq_true rfl, Nat.le_of_ble_eq_true rfl⟩) hP hD hS hA (fun v1 H locs hw hP hD hS hz => ?_)
      have hP : va_P D vwCl ([((B k).1, .inr (1, [.int (nI ((B k).2.1)), .ref (B k).2.2.1.1, .ref (B k).2.2.2.1])), ((B k).2.2.1.1, .inr (2, [.ref (B k).2.2.1.2.1, .int (sumF (upd (B k).2.2.1.2.2.1 j (b.toInt8.toInt32)) (B k).2.1)])), ((B k).2.2.1.2.1, .inl (t 1, (B k).2.1, .inl (upd (B k).2.2.1.2.2.1 j (b.toInt8.toInt32)))), ((B k).2.2.2.1, .inr (2, [.ref (B k).2.2.2.2.1, .int ((B k).2.2.2.2.2.2)])), ((B k).2.2.2.2.1, .inl (t 1, (B k).2.1, .inl ((B k).2.2.2.2.2.1)))] ++ (frZ t [((ad 0), .inr (8, [.int (nI sz), .ref (ad 1), .ref (ad 5), .ref (ad 10), .ref (ad 13), .ref (ad 19), .ref (ad 14), .ref (ad 18), .int (nI nb)])), ((ad 1), .inr (5, [.ref (ad 2), .ref (ad 3), .ref (ad 4), .int (nI nr)])), ((ad 2), .inl (t 0, 16, .inl (nF rs))), ((ad 3), .inl (t 0, 16, .inl (nF re))), ((ad 4), .inl (t 0, 16, .inl (nF rr))), ((ad 5), .inr (6, [.ref (ad 6), .ref (ad 7), .ref (ad 8), .ref (ad 9), .int (nI ns)])), ((ad 6), .inl (t 0, 40, .inl (nF sl))), ((ad 7), .inl (t 0, 40, .inl (nF sa))), ((ad 8), .inl (t 0, 40, .inl (nF sk))), ((ad 9), .inl (t 0, 40, .inl (nF gf))), ((ad 10), .inr (7, [.ref (ad 11), .ref (ad 12), .int (nI nt)])), ((ad 11), .inl (t 0, 40, .inl (nF ts))), ((ad 12), .inl (t 0, 40, .inl (nF te))), ((ad 14), .inr (3, [.ref (ad 15), .ref (ad 16), .ref (ad 17)])), ((ad 15), .inl (t 0, 31, .inl (nF stk))), ((ad 16), .inl (t 0, 31, .inl (nF cm))), ((ad 17), .inl (t 0, 31, .inl (nF dp))), ((ad 18), .inl (t 4, 20, .inr (.inr (.inr (.inr (blkQ B nb)))))), ((ad 19), .inr (4, [.ref (ad 20), .int (nI lc), .ref (ad 21), .ref (ad 22), .int (nI kc)])), ((ad 20), .inl (t 0, 40, .inl (nF last))), ((ad 21), .inl (t 5, 50, .inr (.inr (.inr (.inr (rowQ r)))))), ((ad 22), .inl (t 0, 50, .inl (nF sc))), ((ad 13), .inl (t 0, 40, .inl (nF tr)))] (seg (rowF t r K) 50) B k nb)) H := hP
      have hD : va_D A ([((B k).1, .inr (1, [.int (nI ((B k).2.1)), .ref (B k).2.2.1.1, .ref (B k).2.2.2.1])), ((B k).2.2.1.1, .inr (2, [.ref (B k).2.2.1.2.1, .int (sumF (upd (B k).2.2.1.2.2.1 j (b.toInt8.toInt32)) (B k).2.1)])), ((B k).2.2.1.2.1, .inl (t 1, (B k).2.1, .inl (upd (B k).2.2.1.2.2.1 j (b.toInt8.toInt32)))), ((B k).2.2.2.1, .inr (2, [.ref (B k).2.2.2.2.1, .int ((B k).2.2.2.2.2.2)])), ((B k).2.2.2.2.1, .inl (t 1, (B k).2.1, .inl ((B k).2.2.2.2.2.1)))] ++ (frZ t [((ad 0), .inr (8, [.int (nI sz), .ref (ad 1), .ref (ad 5), .ref (ad 10), .ref (ad 13), .ref (ad 19), .ref (ad 14), .ref (ad 18), .int (nI nb)])), ((ad 1), .inr (5, [.ref (ad 2), .ref (ad 3), .ref (ad 4), .int (nI nr)])), ((ad 2), .inl (t 0, 16, .inl (nF rs))), ((ad 3), .inl (t 0, 16, .inl (nF re))), ((ad 4), .inl (t 0, 16, .inl (nF rr))), ((ad 5), .inr (6, [.ref (ad 6), .ref (ad 7), .ref (ad 8), .ref (ad 9), .int (nI ns)])), ((ad 6), .inl (t 0, 40, .inl (nF sl))), ((ad 7), .inl (t 0, 40, .inl (nF sa))), ((ad 8), .inl (t 0, 40, .inl (nF sk))), ((ad 9), .inl (t 0, 40, .inl (nF gf))), ((ad 10), .inr (7, [.ref (ad 11), .ref (ad 12), .int (nI nt)])), ((ad 11), .inl (t 0, 40, .inl (nF ts))), ((ad 12), .inl (t 0, 40, .inl (nF te))), ((ad 14), .inr (3, [.ref (ad 15), .ref (ad 16), .ref (ad 17)])), ((ad 15), .inl (t 0, 31, .inl (nF stk))), ((ad 16), .inl (t 0, 31, .inl (nF cm))), ((ad 17), .inl (t 0, 31, .inl (nF dp))), ((ad 18), .inl (t 4, 20, .inr (.inr (.inr (.inr (blkQ B nb)))))), ((ad 19), .inr (4, [.ref (ad 20), .int (nI lc), .ref (ad 21), .ref (ad 22), .int (nI kc)])), ((ad 20), .inl (t 0, 40, .inl (nF last))), ((ad 21), .inl (t 5, 50, .inr (.inr (.inr (.inr (rowQ r)))))), ((ad 22), .inl (t 0, 50, .inl (nF sc))), ((ad 13), .inl (t 0, 40, .inl (nF tr)))] (seg (rowF t r K) 50) B k nb)) := hD
      refine lv_aload hx hb dX7_write_36 (lv_at hl 0 rfl) ?_
      refine va_getN (host := "MemoryMap") (own := RX7) (D := D) (ci := 1) (v := .ref (B k).2.2.2.1) (C := RX0) (T := TX0) (N := 3) hx hb hts i_X7_write_X0 hown hK hP 0 rfl rfl 2 (by decide) (hN.f 13 rfl) (fun _ h9 => h9) rfl dX7_write_38 ?_
      refine lv_iload_n hx hb dX7_write_41 rfl (lv_at hl 3 rfl) ?_
      refine lv_iload_n hx hb dX7_write_42 rfl (lv_at hl 4 rfl) ?_
      refine call_Mvp (wc := [((B k).2.2.2.1, .inr (2, [.ref (B k).2.2.2.2.1, .int ((B k).2.2.2.2.2.2)])), ((B k).2.2.2.2.1, .inl (t 1, (B k).2.1, .inl ((B k).2.2.2.2.2.1)))]) (wc' := fun v2 : Unit => [((B k).2.2.2.1, .inr (2, [.ref (B k).2.2.2.2.1, .int (sumF (upd (B k).2.2.2.2.2.1 j (b.toInt8.toInt32)) (B k).2.1)])), ((B k).2.2.2.2.1, .inl (t 1, (B k).2.1, .inl (upd (B k).2.2.2.2.2.1 j (b.toInt8.toInt32))))]) [((B k).1, .inr (1, [.int (nI ((B k).2.1)), .ref (B k).2.2.1.1, .ref (B k).2.2.2.1])), ((B k).2.2.1.1, .inr (2, [.ref (B k).2.2.1.2.1, .int (sumF (upd (B k).2.2.1.2.2.1 j (b.toInt8.toInt32)) (B k).2.1)])), ((B k).2.2.1.2.1, .inl (t 1, (B k).2.1, .inl (upd (B k).2.2.1.2.2.1 j (b.toInt8.toInt32))))] (frZ t [((ad 0), .inr (8, [.int (nI sz), .ref (ad 1), .ref (ad 5), .ref (ad 10), .ref (ad 13), .ref (ad 19), .ref (ad 14), .ref (ad 18), .int (nI nb)])), ((ad 1), .inr (5, [.ref (ad 2), .ref (ad 3), .ref (ad 4), .int (nI nr)])), ((ad 2), .inl (t 0, 16, .inl (nF rs))), ((ad 3), .inl (t 0, 16, .inl (nF re))), ((ad 4), .inl (t 0, 16, .inl (nF rr))), ((ad 5), .inr (6, [.ref (ad 6), .ref (ad 7), .ref (ad 8), .ref (ad 9), .int (nI ns)])), ((ad 6), .inl (t 0, 40, .inl (nF sl))), ((ad 7), .inl (t 0, 40, .inl (nF sa))), ((ad 8), .inl (t 0, 40, .inl (nF sk))), ((ad 9), .inl (t 0, 40, .inl (nF gf))), ((ad 10), .inr (7, [.ref (ad 11), .ref (ad 12), .int (nI nt)])), ((ad 11), .inl (t 0, 40, .inl (nF ts))), ((ad 12), .inl (t 0, 40, .inl (nF te))), ((ad 14), .inr (3, [.ref (ad 15), .ref (ad 16), .ref (ad 17)])), ((ad 15), .inl (t 0, 31, .inl (nF stk))), ((ad 16), .inl (t 0, 31, .inl (nF cm))), ((ad 17), .inl (t 0, 31, .inl (nF dp))), ((ad 18), .inl (t 4, 20, .inr (.inr (.inr (.inr (blkQ B nb)))))), ((ad 19), .inr (4, [.ref (ad 20), .int (nI lc), .ref (ad 21), .ref (ad 22), .int (nI kc)])), ((ad 20), .inl (t 0, 40, .inl (nF last))), ((ad 21), .inl (t 5, 50, .inr (.inr (.inr (.inr (rowQ r)))))), ((ad 22), .inl (t 0, 50, .inl (nF sc))), ((ad 13), .inl (t 0, 40, .inl (nF tr)))] (seg (rowF t r K) 50) B k nb) (va_runVN (As := [.int (nI j), .int b]) (rest := []) ⟨hx, hb, hml, hown, hts⟩ (c_X1_setOctet l D t ((B k).2.2.2.1) ((B k).2.2.2.2.1) ((B k).2.1) j ((B k).2.2.2.2.2.1) ((B k).2.2.2.2.2.2) b hb1.2 hj _) (⟨va_cnB 2 hts ggX7_write_X1_setOctet rfl rfl rfl (hN.m 19 rfl) (hts (.initialized RX1) (List.mem_of_getElem? (i := 17) rfl)) (by decide +kernel) ⟨Nat.le_of_ble_eq_true rfl, Nat.le_of_ble_eq_true rfl⟩, (hts (.instanceMethod yX1_setOctet) (List.mem_of_getElem? (i := 16) rfl)), (hts (.selects RX1 yX1_setOctet yX1_setOctet) (List.mem_of_getElem? (i := 18) rfl))⟩) (preVp (wc := [((B k).2.2.2.1, .inr (2, [.ref (B k).2.2.2.2.1, .int ((B k).2.2.2.2.2.2)])), ((B k).2.2.2.2.1, .inl (t 1, (B k).2.1, .inl ((B k).2.2.2.2.2.1)))]) [((B k).1, .inr (1, [.int (nI ((B k).2.1)), .ref (B k).2.2.1.1, .ref (B k).2.2.2.1])), ((B k).2.2.1.1, .inr (2, [.ref (B k).2.2.1.2.1, .int (sumF (upd (B k).2.2.1.2.2.1 j (b.toInt8.toInt32)) (B k).2.1)])), ((B k).2.2.1.2.1, .inl (t 1, (B k).2.1, .inl (upd (B k).2.2.1.2.2.1 j (b.toInt8.toInt32))))] (frZ t [((ad 0), .inr (8, [.int (nI sz), .ref (ad 1), .ref (ad 5), .ref (ad 10), .ref (ad 13), .ref (ad 19), .ref (ad 14), .ref (ad 18), .int (nI nb)])), ((ad 1), .inr (5, [.ref (ad 2), .ref (ad 3), .ref (ad 4), .int (nI nr)])), ((ad 2), .inl (t 0, 16, .inl (nF rs))), ((ad 3), .inl (t 0, 16, .inl (nF re))), ((ad 4), .inl (t 0, 16, .inl (nF rr))), ((ad 5), .inr (6, [.ref (ad 6), .ref (ad 7), .ref (ad 8), .ref (ad 9), .int (nI ns)])), ((ad 6), .inl (t 0, 40, .inl (nF sl))), ((ad 7), .inl (t 0, 40, .inl (nF sa))), ((ad 8), .inl (t 0, 40, .inl (nF sk))), ((ad 9), .inl (t 0, 40, .inl (nF gf))), ((ad 10), .inr (7, [.ref (ad 11), .ref (ad 12), .int (nI nt)])), ((ad 11), .inl (t 0, 40, .inl (nF ts))), ((ad 12), .inl (t 0, 40, .inl (nF te))), ((ad 14), .inr (3, [.ref (ad 15), .ref (ad 16), .ref (ad 17)])), ((ad 15), .inl (t 0, 31, .inl (nF stk))), ((ad 16), .inl (t 0, 31, .inl (nF cm))), ((ad 17), .inl (t 0, 31, .inl (nF dp))), ((ad 18), .inl (t 4, 20, .inr (.inr (.inr (.inr (blkQ B nb)))))), ((ad 19), .inr (4, [.ref (ad 20), .int (nI lc), .ref (ad 21), .ref (ad 22), .int (nI kc)])), ((ad 20), .inl (t 0, 40, .inl (nF last))), ((ad 21), .inl (t 5, 50, .inr (.inr (.inr (.inr (rowQ r)))))), ((ad 22), .inl (t 0, 50, .inl (nF sc))), ((ad 13), .inl (t 0, 40, .inl (nF tr)))] (seg (rowF t r K) 50) B k nb) hP hD hK hN 2 0 rfl rfl rfl) rfl rfl hl.1 rfl (lv_room (Nat.le_of_ble_eq_true rfl)) dX7_write_43 ⟨Nat.le_of_ble_eq_true rfl, Nat.le_of_ble_eq_true rfl⟩) hP hD hS hA (fun v2 H locs hw hP hD hS hz => ?_)
      have hP : va_P D vwCl ([((B k).1, .inr (1, [.int (nI ((B k).2.1)), .ref (B k).2.2.1.1, .ref (B k).2.2.2.1])), ((B k).2.2.1.1, .inr (2, [.ref (B k).2.2.1.2.1, .int (sumF (upd (B k).2.2.1.2.2.1 j (b.toInt8.toInt32)) (B k).2.1)])), ((B k).2.2.1.2.1, .inl (t 1, (B k).2.1, .inl (upd (B k).2.2.1.2.2.1 j (b.toInt8.toInt32)))), ((B k).2.2.2.1, .inr (2, [.ref (B k).2.2.2.2.1, .int (sumF (upd (B k).2.2.2.2.2.1 j (b.toInt8.toInt32)) (B k).2.1)])), ((B k).2.2.2.2.1, .inl (t 1, (B k).2.1, .inl (upd (B k).2.2.2.2.2.1 j (b.toInt8.toInt32))))] ++ (frZ t [((ad 0), .inr (8, [.int (nI sz), .ref (ad 1), .ref (ad 5), .ref (ad 10), .ref (ad 13), .ref (ad 19), .ref (ad 14), .ref (ad 18), .int (nI nb)])), ((ad 1), .inr (5, [.ref (ad 2), .ref (ad 3), .ref (ad 4), .int (nI nr)])), ((ad 2), .inl (t 0, 16, .inl (nF rs))), ((ad 3), .inl (t 0, 16, .inl (nF re))), ((ad 4), .inl (t 0, 16, .inl (nF rr))), ((ad 5), .inr (6, [.ref (ad 6), .ref (ad 7), .ref (ad 8), .ref (ad 9), .int (nI ns)])), ((ad 6), .inl (t 0, 40, .inl (nF sl))), ((ad 7), .inl (t 0, 40, .inl (nF sa))), ((ad 8), .inl (t 0, 40, .inl (nF sk))), ((ad 9), .inl (t 0, 40, .inl (nF gf))), ((ad 10), .inr (7, [.ref (ad 11), .ref (ad 12), .int (nI nt)])), ((ad 11), .inl (t 0, 40, .inl (nF ts))), ((ad 12), .inl (t 0, 40, .inl (nF te))), ((ad 14), .inr (3, [.ref (ad 15), .ref (ad 16), .ref (ad 17)])), ((ad 15), .inl (t 0, 31, .inl (nF stk))), ((ad 16), .inl (t 0, 31, .inl (nF cm))), ((ad 17), .inl (t 0, 31, .inl (nF dp))), ((ad 18), .inl (t 4, 20, .inr (.inr (.inr (.inr (blkQ B nb)))))), ((ad 19), .inr (4, [.ref (ad 20), .int (nI lc), .ref (ad 21), .ref (ad 22), .int (nI kc)])), ((ad 20), .inl (t 0, 40, .inl (nF last))), ((ad 21), .inl (t 5, 50, .inr (.inr (.inr (.inr (rowQ r)))))), ((ad 22), .inl (t 0, 50, .inl (nF sc))), ((ad 13), .inl (t 0, 40, .inl (nF tr)))] (seg (rowF t r K) 50) B k nb)) H := hP
      have hD : va_D A ([((B k).1, .inr (1, [.int (nI ((B k).2.1)), .ref (B k).2.2.1.1, .ref (B k).2.2.2.1])), ((B k).2.2.1.1, .inr (2, [.ref (B k).2.2.1.2.1, .int (sumF (upd (B k).2.2.1.2.2.1 j (b.toInt8.toInt32)) (B k).2.1)])), ((B k).2.2.1.2.1, .inl (t 1, (B k).2.1, .inl (upd (B k).2.2.1.2.2.1 j (b.toInt8.toInt32)))), ((B k).2.2.2.1, .inr (2, [.ref (B k).2.2.2.2.1, .int (sumF (upd (B k).2.2.2.2.2.1 j (b.toInt8.toInt32)) (B k).2.1)])), ((B k).2.2.2.2.1, .inl (t 1, (B k).2.1, .inl (upd (B k).2.2.2.2.2.1 j (b.toInt8.toInt32))))] ++ (frZ t [((ad 0), .inr (8, [.int (nI sz), .ref (ad 1), .ref (ad 5), .ref (ad 10), .ref (ad 13), .ref (ad 19), .ref (ad 14), .ref (ad 18), .int (nI nb)])), ((ad 1), .inr (5, [.ref (ad 2), .ref (ad 3), .ref (ad 4), .int (nI nr)])), ((ad 2), .inl (t 0, 16, .inl (nF rs))), ((ad 3), .inl (t 0, 16, .inl (nF re))), ((ad 4), .inl (t 0, 16, .inl (nF rr))), ((ad 5), .inr (6, [.ref (ad 6), .ref (ad 7), .ref (ad 8), .ref (ad 9), .int (nI ns)])), ((ad 6), .inl (t 0, 40, .inl (nF sl))), ((ad 7), .inl (t 0, 40, .inl (nF sa))), ((ad 8), .inl (t 0, 40, .inl (nF sk))), ((ad 9), .inl (t 0, 40, .inl (nF gf))), ((ad 10), .inr (7, [.ref (ad 11), .ref (ad 12), .int (nI nt)])), ((ad 11), .inl (t 0, 40, .inl (nF ts))), ((ad 12), .inl (t 0, 40, .inl (nF te))), ((ad 14), .inr (3, [.ref (ad 15), .ref (ad 16), .ref (ad 17)])), ((ad 15), .inl (t 0, 31, .inl (nF stk))), ((ad 16), .inl (t 0, 31, .inl (nF cm))), ((ad 17), .inl (t 0, 31, .inl (nF dp))), ((ad 18), .inl (t 4, 20, .inr (.inr (.inr (.inr (blkQ B nb)))))), ((ad 19), .inr (4, [.ref (ad 20), .int (nI lc), .ref (ad 21), .ref (ad 22), .int (nI kc)])), ((ad 20), .inl (t 0, 40, .inl (nF last))), ((ad 21), .inl (t 5, 50, .inr (.inr (.inr (.inr (rowQ r)))))), ((ad 22), .inl (t 0, 50, .inl (nF sc))), ((ad 13), .inl (t 0, 40, .inl (nF tr)))] (seg (rowF t r K) 50) B k nb)) := hD
      refine lv_iconst (v := (nI 1)) hx hb dX7_write_46 (by decide) ?_
      have hP : va_P D vwCl (blkC t (setB (B k) j b) ++ frZ t [((ad 0), .inr (8, [.int (nI sz), .ref (ad 1), .ref (ad 5), .ref (ad 10), .ref (ad 13), .ref (ad 19), .ref (ad 14), .ref (ad 18), .int (nI nb)])), ((ad 1), .inr (5, [.ref (ad 2), .ref (ad 3), .ref (ad 4), .int (nI nr)])), ((ad 2), .inl (t 0, 16, .inl (nF rs))), ((ad 3), .inl (t 0, 16, .inl (nF re))), ((ad 4), .inl (t 0, 16, .inl (nF rr))), ((ad 5), .inr (6, [.ref (ad 6), .ref (ad 7), .ref (ad 8), .ref (ad 9), .int (nI ns)])), ((ad 6), .inl (t 0, 40, .inl (nF sl))), ((ad 7), .inl (t 0, 40, .inl (nF sa))), ((ad 8), .inl (t 0, 40, .inl (nF sk))), ((ad 9), .inl (t 0, 40, .inl (nF gf))), ((ad 10), .inr (7, [.ref (ad 11), .ref (ad 12), .int (nI nt)])), ((ad 11), .inl (t 0, 40, .inl (nF ts))), ((ad 12), .inl (t 0, 40, .inl (nF te))), ((ad 14), .inr (3, [.ref (ad 15), .ref (ad 16), .ref (ad 17)])), ((ad 15), .inl (t 0, 31, .inl (nF stk))), ((ad 16), .inl (t 0, 31, .inl (nF cm))), ((ad 17), .inl (t 0, 31, .inl (nF dp))), ((ad 18), .inl (t 4, 20, .inr (.inr (.inr (.inr (blkQ B nb)))))), ((ad 19), .inr (4, [.ref (ad 20), .int (nI lc), .ref (ad 21), .ref (ad 22), .int (nI kc)])), ((ad 20), .inl (t 0, 40, .inl (nF last))), ((ad 21), .inl (t 5, 50, .inr (.inr (.inr (.inr (rowQ r)))))), ((ad 22), .inl (t 0, 50, .inl (nF sc))), ((ad 13), .inl (t 0, 40, .inl (nF tr)))] (seg (rowF t r K) 50) B k nb) _ := hP
      have hD : va_D A (blkC t (setB (B k) j b) ++ frZ t [((ad 0), .inr (8, [.int (nI sz), .ref (ad 1), .ref (ad 5), .ref (ad 10), .ref (ad 13), .ref (ad 19), .ref (ad 14), .ref (ad 18), .int (nI nb)])), ((ad 1), .inr (5, [.ref (ad 2), .ref (ad 3), .ref (ad 4), .int (nI nr)])), ((ad 2), .inl (t 0, 16, .inl (nF rs))), ((ad 3), .inl (t 0, 16, .inl (nF re))), ((ad 4), .inl (t 0, 16, .inl (nF rr))), ((ad 5), .inr (6, [.ref (ad 6), .ref (ad 7), .ref (ad 8), .ref (ad 9), .int (nI ns)])), ((ad 6), .inl (t 0, 40, .inl (nF sl))), ((ad 7), .inl (t 0, 40, .inl (nF sa))), ((ad 8), .inl (t 0, 40, .inl (nF sk))), ((ad 9), .inl (t 0, 40, .inl (nF gf))), ((ad 10), .inr (7, [.ref (ad 11), .ref (ad 12), .int (nI nt)])), ((ad 11), .inl (t 0, 40, .inl (nF ts))), ((ad 12), .inl (t 0, 40, .inl (nF te))), ((ad 14), .inr (3, [.ref (ad 15), .ref (ad 16), .ref (ad 17)])), ((ad 15), .inl (t 0, 31, .inl (nF stk))), ((ad 16), .inl (t 0, 31, .inl (nF cm))), ((ad 17), .inl (t 0, 31, .inl (nF dp))), ((ad 18), .inl (t 4, 20, .inr (.inr (.inr (.inr (blkQ B nb)))))), ((ad 19), .inr (4, [.ref (ad 20), .int (nI lc), .ref (ad 21), .ref (ad 22), .int (nI kc)])), ((ad 20), .inl (t 0, 40, .inl (nF last))), ((ad 21), .inl (t 5, 50, .inr (.inr (.inr (.inr (rowQ r)))))), ((ad 22), .inl (t 0, 50, .inl (nF sc))), ((ad 13), .inl (t 0, 40, .inl (nF tr)))] (seg (rowF t r K) 50) B k nb) := hD
      have hP := P_perm (fr_perm hkn (setB (B k) j b)).symm hP
      have hD := D_perm (fr_perm hkn (setB (B k) j b)).symm hD
      rw [← blkQ_up (B := B) (k := k) (n := nb) (x := setB (B k) j b) rfl] at hP hD
      exact ret_Mi hx hb hr hlk (va_up B k (setB (B k) j b)) (Or.inr ⟨k, hkn, rfl, Or.inr ⟨j, hj, rfl, rfl, rfl⟩⟩) hP hD hS (Nat.le_of_ble_eq_true rfl) (Nat.le_of_ble_eq_true rfl) dX7_write_47
    · refine r_if_ne (x := 0) (tgt := 26) hx hb (by omega) dX7_write_20 (by decide) (fun c => absurd c (by decide)) (fun _ => ?_)
      refine lv_bipush (v := ((-2))) hx hb dX7_write_23 (by decide) ?_
      have hP := hPs
      have hD := hDs
      exact ret_Mi hx hb hr hlk (B) (Or.inr ⟨k, hkn, rfl, Or.inl ⟨h1, rfl, rfl⟩⟩) hP hD hS (Nat.le_of_ble_eq_true rfl) (Nat.le_of_ble_eq_true rfl) dX7_write_25
end
section
theorem i_X7_poke_X0 : ∀ w ∈ wsX00, w ∈ wsX7_poke := by decide +kernel
abbrev rm_X7_poke : Room := { frames := 2, cells := 0, slots := 0, locals := 46 }
set_option maxHeartbeats 400000 in
set_option maxRecDepth 100000 in
theorem c_X7_poke (l : Launch) (D : va_G) (t : Nat → ClassId) (ad : Nat → Nat) (sz nr : Nat) (rs re rr : Nat → Nat) (ns : Nat) (sl sa sk gf : Nat → Nat) (nt : Nat) (ts te : Nat → Nat) (stk cm dp : Nat → Nat) (nb : Nat) (B : Nat → BT) (lc kc : Nat) (last sc r : Nat → Nat) (K : Nat → Nat → Nat) (tr : Nat → Nat) (x cp y mk : Int32) (hnb : nb ≤ 20) (hB1 : ∀ k, k < nb → 1 ≤ (B k).2.1 ∧ (B k).2.1 ≤ 32) : Mi l yX7_poke wsX7_poke rm_X7_poke D (TY t) [.ref (ad 0), .int x, .int cp, .int y, .int mk] ([((ad 0), .inr (8, [.int (nI sz), .ref (ad 1), .ref (ad 5), .ref (ad 10), .ref (ad 13), .ref (ad 19), .ref (ad 14), .ref (ad 18), .int (nI nb)])), ((ad 1), .inr (5, [.ref (ad 2), .ref (ad 3), .ref (ad 4), .int (nI nr)])), ((ad 2), .inl (t 0, 16, .inl (nF rs))), ((ad 3), .inl (t 0, 16, .inl (nF re))), ((ad 4), .inl (t 0, 16, .inl (nF rr))), ((ad 5), .inr (6, [.ref (ad 6), .ref (ad 7), .ref (ad 8), .ref (ad 9), .int (nI ns)])), ((ad 6), .inl (t 0, 40, .inl (nF sl))), ((ad 7), .inl (t 0, 40, .inl (nF sa))), ((ad 8), .inl (t 0, 40, .inl (nF sk))), ((ad 9), .inl (t 0, 40, .inl (nF gf))), ((ad 10), .inr (7, [.ref (ad 11), .ref (ad 12), .int (nI nt)])), ((ad 11), .inl (t 0, 40, .inl (nF ts))), ((ad 12), .inl (t 0, 40, .inl (nF te))), ((ad 14), .inr (3, [.ref (ad 15), .ref (ad 16), .ref (ad 17)])), ((ad 15), .inl (t 0, 31, .inl (nF stk))), ((ad 16), .inl (t 0, 31, .inl (nF cm))), ((ad 17), .inl (t 0, 31, .inl (nF dp))), ((ad 18), .inl (t 4, 20, .inr (.inr (.inr (.inr (blkQ B nb)))))), ((ad 19), .inr (4, [.ref (ad 20), .int (nI lc), .ref (ad 21), .ref (ad 22), .int (nI kc)])), ((ad 20), .inl (t 0, 40, .inl (nF last))), ((ad 21), .inl (t 5, 50, .inr (.inr (.inr (.inr (rowQ r)))))), ((ad 22), .inl (t 0, 50, .inl (nF sc))), ((ad 13), .inl (t 0, 40, .inl (nF tr)))] ++ (seg (rowF t r K) 50 ++ seg (blkF t B) nb)) (S := Nat → BT) (fun z u => (((∀ k, 1 ≤ k → k ≤ nb → x ≠ nI k) ∨ (cp ≠ nI 1 ∧ cp ≠ nI 2)) ∧ z = (-1) ∧ u = B) ∨ ∃ k, k < nb ∧ x = nI (k + 1) ∧ (cp = nI 1 ∨ cp = nI 2) ∧ (((∀ j, j < (B k).2.1 → y ≠ nI j) ∧ z = (-2) ∧ u = B) ∨ ∃ j, j < (B k).2.1 ∧ y = nI j ∧ ((cp = nI 1 ∧ u = va_up B k (pok1 (B k) j mk) ∧ z = ((B k).2.2.1.2.2.1 j ^^^ mk).toInt8.toInt32 &&& nI 255) ∨ (cp = nI 2 ∧ u = va_up B k (pok2 (B k) j mk) ∧ z = ((B k).2.2.2.2.2.1 j ^^^ mk).toInt8.toInt32 &&& nI 255)))) (fun u => ([((ad 0), .inr (8, [.int (nI sz), .ref (ad 1), .ref (ad 5), .ref (ad 10), .ref (ad 13), .ref (ad 19), .ref (ad 14), .ref (ad 18), .int (nI nb)])), ((ad 1), .inr (5, [.ref (ad 2), .ref (ad 3), .ref (ad 4), .int (nI nr)])), ((ad 2), .inl (t 0, 16, .inl (nF rs))), ((ad 3), .inl (t 0, 16, .inl (nF re))), ((ad 4), .inl (t 0, 16, .inl (nF rr))), ((ad 5), .inr (6, [.ref (ad 6), .ref (ad 7), .ref (ad 8), .ref (ad 9), .int (nI ns)])), ((ad 6), .inl (t 0, 40, .inl (nF sl))), ((ad 7), .inl (t 0, 40, .inl (nF sa))), ((ad 8), .inl (t 0, 40, .inl (nF sk))), ((ad 9), .inl (t 0, 40, .inl (nF gf))), ((ad 10), .inr (7, [.ref (ad 11), .ref (ad 12), .int (nI nt)])), ((ad 11), .inl (t 0, 40, .inl (nF ts))), ((ad 12), .inl (t 0, 40, .inl (nF te))), ((ad 14), .inr (3, [.ref (ad 15), .ref (ad 16), .ref (ad 17)])), ((ad 15), .inl (t 0, 31, .inl (nF stk))), ((ad 16), .inl (t 0, 31, .inl (nF cm))), ((ad 17), .inl (t 0, 31, .inl (nF dp))), ((ad 18), .inl (t 4, 20, .inr (.inr (.inr (.inr (blkQ u nb)))))), ((ad 19), .inr (4, [.ref (ad 20), .int (nI lc), .ref (ad 21), .ref (ad 22), .int (nI kc)])), ((ad 20), .inl (t 0, 40, .inl (nF last))), ((ad 21), .inl (t 5, 50, .inr (.inr (.inr (.inr (rowQ r)))))), ((ad 22), .inl (t 0, 50, .inl (nF sc))), ((ad 13), .inl (t 0, 40, .inl (nF tr)))] ++ (seg (rowF t r K) 50 ++ seg (blkF t u) nb))) := by
  refine start_Mi cX7_poke 6 (some .int) (by decide) rfl (Nat.le_of_ble_eq_true rfl) ?_
  intro p e s m below meth c A ls B hin hP hD hS hA hl
  obtain ⟨hx, hb, hr, hts, hown, hlk, hml, hN, hK⟩ := B
  have hl : lv_has ls 6 [(0, .ref (ad 0)), (1, .int x), (2, .int cp), (3, .int y), (4, .int mk)] := hl
  refine lv_aload_n hx hb dX7_poke_0 rfl (lv_at hl 0 rfl) ?_
  refine lv_iload_n hx hb dX7_poke_1 rfl (lv_at hl 1 rfl) ?_
  refine va_csq (va_Run.run (va_runV (As := [.int x]) (rest := []) ⟨hx, hb, hml, hown, hts⟩ (c_X7_blockNumbered l D t ad sz nr rs re rr ns sl sa sk gf nt ts te stk cm dp nb B lc kc last sc r K tr x hnb _) (cwV 1 hts gX7_poke_X7_blockNumbered rfl rfl rfl (by decide +kernel) ⟨Nat.le_of_ble_eq_true rfl, Nat.le_of_ble_eq_true rfl⟩) (preVw hP hD hK hN 8 0 rfl rfl rfl) rfl rfl hl.1 rfl (lv_room (Nat.le_of_ble_eq_true rfl)) dX7_poke_2 ⟨Nat.le_of_ble_eq_true rfl, Nat.le_of_ble_eq_true rfl⟩)) (fun o hw => ?_)
  rcases hw with ⟨h1, rfl⟩ | ⟨k, hkn, rfl, rfl⟩
  · refine lv_astoreN (lv' := [(5, .null), (0, .ref (ad 0)), (1, .int x), (2, .int cp), (3, .int y), (4, .int mk)]) hx hb dX7_poke_5 hl (by decide) rfl (fun ls hl => ?_)
    refine lv_aloadN hx hb dX7_poke_7 (lv_at hl 0 rfl) ?_
    refine lv_ifnullN (tgt := 24) hx hb dX7_poke_9 (by decide) ?_
    refine lv_iconst (v := ((-1))) hx hb dX7_poke_24 (by decide) ?_
    exact ret_Mi hx hb hr hlk (B) (Or.inl ⟨Or.inl h1, rfl, rfl⟩) hP hD hS (Nat.le_of_ble_eq_true rfl) (Nat.le_of_ble_eq_true rfl) dX7_poke_25
  · have hl : lv_has ls 6 [(0, .ref (ad 0)), (1, .int ((nI (k + 1)))), (2, .int cp), (3, .int y), (4, .int mk)] := hl
    have hPs := hP
    have hDs := hD
    have hP := P_perm (fr_perm0 (X := [((ad 0), .inr (8, [.int (nI sz), .ref (ad 1), .ref (ad 5), .ref (ad 10), .ref (ad 13), .ref (ad 19), .ref (ad 14), .ref (ad 18), .int (nI nb)])), ((ad 1), .inr (5, [.ref (ad 2), .ref (ad 3), .ref (ad 4), .int (nI nr)])), ((ad 2), .inl (t 0, 16, .inl (nF rs))), ((ad 3), .inl (t 0, 16, .inl (nF re))), ((ad 4), .inl (t 0, 16, .inl (nF rr))), ((ad 5), .inr (6, [.ref (ad 6), .ref (ad 7), .ref (ad 8), .ref (ad 9), .int (nI ns)])), ((ad 6), .inl (t 0, 40, .inl (nF sl))), ((ad 7), .inl (t 0, 40, .inl (nF sa))), ((ad 8), .inl (t 0, 40, .inl (nF sk))), ((ad 9), .inl (t 0, 40, .inl (nF gf))), ((ad 10), .inr (7, [.ref (ad 11), .ref (ad 12), .int (nI nt)])), ((ad 11), .inl (t 0, 40, .inl (nF ts))), ((ad 12), .inl (t 0, 40, .inl (nF te))), ((ad 14), .inr (3, [.ref (ad 15), .ref (ad 16), .ref (ad 17)])), ((ad 15), .inl (t 0, 31, .inl (nF stk))), ((ad 16), .inl (t 0, 31, .inl (nF cm))), ((ad 17), .inl (t 0, 31, .inl (nF dp))), ((ad 18), .inl (t 4, 20, .inr (.inr (.inr (.inr (blkQ B nb)))))), ((ad 19), .inr (4, [.ref (ad 20), .int (nI lc), .ref (ad 21), .ref (ad 22), .int (nI kc)])), ((ad 20), .inl (t 0, 40, .inl (nF last))), ((ad 21), .inl (t 5, 50, .inr (.inr (.inr (.inr (rowQ r)))))), ((ad 22), .inl (t 0, 50, .inl (nF sc))), ((ad 13), .inl (t 0, 40, .inl (nF tr)))]) (Y := (seg (rowF t r K) 50)) hkn) hP
    have hD := D_perm (fr_perm0 (X := [((ad 0), .inr (8, [.int (nI sz), .ref (ad 1), .ref (ad 5), .ref (ad 10), .ref (ad 13), .ref (ad 19), .ref (ad 14), .ref (ad 18), .int (nI nb)])), ((ad 1), .inr (5, [.ref (ad 2), .ref (ad 3), .ref (ad 4), .int (nI nr)])), ((ad 2), .inl (t 0, 16, .inl (nF rs))), ((ad 3), .inl (t 0, 16, .inl (nF re))), ((ad 4), .inl (t 0, 16, .inl (nF rr))), ((ad 5), .inr (6, [.ref (ad 6), .ref (ad 7), .ref (ad 8), .ref (ad 9), .int (nI ns)])), ((ad 6), .inl (t 0, 40, .inl (nF sl))), ((ad 7), .inl (t 0, 40, .inl (nF sa))), ((ad 8), .inl (t 0, 40, .inl (nF sk))), ((ad 9), .inl (t 0, 40, .inl (nF gf))), ((ad 10), .inr (7, [.ref (ad 11), .ref (ad 12), .int (nI nt)])), ((ad 11), .inl (t 0, 40, .inl (nF ts))), ((ad 12), .inl (t 0, 40, .inl (nF te))), ((ad 14), .inr (3, [.ref (ad 15), .ref (ad 16), .ref (ad 17)])), ((ad 15), .inl (t 0, 31, .inl (nF stk))), ((ad 16), .inl (t 0, 31, .inl (nF cm))), ((ad 17), .inl (t 0, 31, .inl (nF dp))), ((ad 18), .inl (t 4, 20, .inr (.inr (.inr (.inr (blkQ B nb)))))), ((ad 19), .inr (4, [.ref (ad 20), .int (nI lc), .ref (ad 21), .ref (ad 22), .int (nI kc)])), ((ad 20), .inl (t 0, 40, .inl (nF last))), ((ad 21), .inl (t 5, 50, .inr (.inr (.inr (.inr (rowQ r)))))), ((ad 22), .inl (t 0, 50, .inl (nF sc))), ((ad 13), .inl (t 0, 40, .inl (nF tr)))]) (Y := (seg (rowF t r K) 50)) hkn) hD
    have hP : va_P D vwCl ([((B k).1, .inr (1, [.int (nI ((B k).2.1)), .ref (B k).2.2.1.1, .ref (B k).2.2.2.1])), ((B k).2.2.1.1, .inr (2, [.ref (B k).2.2.1.2.1, .int ((B k).2.2.1.2.2.2)])), ((B k).2.2.1.2.1, .inl (t 1, (B k).2.1, .inl ((B k).2.2.1.2.2.1))), ((B k).2.2.2.1, .inr (2, [.ref (B k).2.2.2.2.1, .int ((B k).2.2.2.2.2.2)])), ((B k).2.2.2.2.1, .inl (t 1, (B k).2.1, .inl ((B k).2.2.2.2.2.1)))] ++ (frZ t [((ad 0), .inr (8, [.int (nI sz), .ref (ad 1), .ref (ad 5), .ref (ad 10), .ref (ad 13), .ref (ad 19), .ref (ad 14), .ref (ad 18), .int (nI nb)])), ((ad 1), .inr (5, [.ref (ad 2), .ref (ad 3), .ref (ad 4), .int (nI nr)])), ((ad 2), .inl (t 0, 16, .inl (nF rs))), ((ad 3), .inl (t 0, 16, .inl (nF re))), ((ad 4), .inl (t 0, 16, .inl (nF rr))), ((ad 5), .inr (6, [.ref (ad 6), .ref (ad 7), .ref (ad 8), .ref (ad 9), .int (nI ns)])), ((ad 6), .inl (t 0, 40, .inl (nF sl))), ((ad 7), .inl (t 0, 40, .inl (nF sa))), ((ad 8), .inl (t 0, 40, .inl (nF sk))), ((ad 9), .inl (t 0, 40, .inl (nF gf))), ((ad 10), .inr (7, [.ref (ad 11), .ref (ad 12), .int (nI nt)])), ((ad 11), .inl (t 0, 40, .inl (nF ts))), ((ad 12), .inl (t 0, 40, .inl (nF te))), ((ad 14), .inr (3, [.ref (ad 15), .ref (ad 16), .ref (ad 17)])), ((ad 15), .inl (t 0, 31, .inl (nF stk))), ((ad 16), .inl (t 0, 31, .inl (nF cm))), ((ad 17), .inl (t 0, 31, .inl (nF dp))), ((ad 18), .inl (t 4, 20, .inr (.inr (.inr (.inr (blkQ B nb)))))), ((ad 19), .inr (4, [.ref (ad 20), .int (nI lc), .ref (ad 21), .ref (ad 22), .int (nI kc)])), ((ad 20), .inl (t 0, 40, .inl (nF last))), ((ad 21), .inl (t 5, 50, .inr (.inr (.inr (.inr (rowQ r)))))), ((ad 22), .inl (t 0, 50, .inl (nF sc))), ((ad 13), .inl (t 0, 40, .inl (nF tr)))] (seg (rowF t r K) 50) B k nb)) _ := hP
    have hD : va_D A ([((B k).1, .inr (1, [.int (nI ((B k).2.1)), .ref (B k).2.2.1.1, .ref (B k).2.2.2.1])), ((B k).2.2.1.1, .inr (2, [.ref (B k).2.2.1.2.1, .int ((B k).2.2.1.2.2.2)])), ((B k).2.2.1.2.1, .inl (t 1, (B k).2.1, .inl ((B k).2.2.1.2.2.1))), ((B k).2.2.2.1, .inr (2, [.ref (B k).2.2.2.2.1, .int ((B k).2.2.2.2.2.2)])), ((B k).2.2.2.2.1, .inl (t 1, (B k).2.1, .inl ((B k).2.2.2.2.2.1)))] ++ (frZ t [((ad 0), .inr (8, [.int (nI sz), .ref (ad 1), .ref (ad 5), .ref (ad 10), .ref (ad 13), .ref (ad 19), .ref (ad 14), .ref (ad 18), .int (nI nb)])), ((ad 1), .inr (5, [.ref (ad 2), .ref (ad 3), .ref (ad 4), .int (nI nr)])), ((ad 2), .inl (t 0, 16, .inl (nF rs))), ((ad 3), .inl (t 0, 16, .inl (nF re))), ((ad 4), .inl (t 0, 16, .inl (nF rr))), ((ad 5), .inr (6, [.ref (ad 6), .ref (ad 7), .ref (ad 8), .ref (ad 9), .int (nI ns)])), ((ad 6), .inl (t 0, 40, .inl (nF sl))), ((ad 7), .inl (t 0, 40, .inl (nF sa))), ((ad 8), .inl (t 0, 40, .inl (nF sk))), ((ad 9), .inl (t 0, 40, .inl (nF gf))), ((ad 10), .inr (7, [.ref (ad 11), .ref (ad 12), .int (nI nt)])), ((ad 11), .inl (t 0, 40, .inl (nF ts))), ((ad 12), .inl (t 0, 40, .inl (nF te))), ((ad 14), .inr (3, [.ref (ad 15), .ref (ad 16), .ref (ad 17)])), ((ad 15), .inl (t 0, 31, .inl (nF stk))), ((ad 16), .inl (t 0, 31, .inl (nF cm))), ((ad 17), .inl (t 0, 31, .inl (nF dp))), ((ad 18), .inl (t 4, 20, .inr (.inr (.inr (.inr (blkQ B nb)))))), ((ad 19), .inr (4, [.ref (ad 20), .int (nI lc), .ref (ad 21), .ref (ad 22), .int (nI kc)])), ((ad 20), .inl (t 0, 40, .inl (nF last))), ((ad 21), .inl (t 5, 50, .inr (.inr (.inr (.inr (rowQ r)))))), ((ad 22), .inl (t 0, 50, .inl (nF sc))), ((ad 13), .inl (t 0, 40, .inl (nF tr)))] (seg (rowF t r K) 50) B k nb)) := hD
    have hb1 := hB1 k hkn
    refine lv_astore (lv' := [(5, .ref (B k).1), (0, .ref (ad 0)), (1, .int ((nI (k + 1)))), (2, .int cp), (3, .int y), (4, .int mk)]) hx hb dX7_poke_5 hl (by decide) rfl (fun ls hl => ?_)
    refine lv_aload hx hb dX7_poke_7 (lv_at hl 0 rfl) ?_
    refine lv_ifnull hx hb dX7_poke_9 ?_
    refine lv_iload_n hx hb dX7_poke_12 rfl (lv_at hl 3 rfl) ?_
    refine lv_i2l hx hb dX7_poke_13 rfl ?_
    refine lv_lconst (v := (lN (1))) hx hb dX7_poke_14 (by decide) ?_
    refine lv_ldc2 (v := (lN (2))) hx hb hown (hts (.constantLong RX7 156 (2)) (List.mem_of_getElem? (i := 1) rfl)) dX7_poke_15 ?_
    refine vp_callSi (va_Run.run (va_runS (As := [.long cp.toInt64, .long (lN (1)), .long (lN (2))]) (rest := []) ⟨hx, hb, hml, hown, hts⟩ (c_X7_isWithin l D t cp.toInt64 (lN 1) (lN 2) _) (va_cwS 3 hts gX7_poke_X7_isWithin rfl rfl rfl (by decide +kernel) ⟨Nat.le_of_ble_eq_true rfl, Nat.le_of_ble_eq_true rfl⟩) (preS hP hD hK hN [] rfl (by decide)) rfl rfl hl.1 rfl (lv_room (Nat.le_of_ble_eq_true rfl)) dX7_poke_18 ⟨Nat.le_of_ble_eq_true rfl, Nat.le_of_ble_eq_true rfl⟩)) (fun r hw => ?_)
    rcases hw with ⟨rfl, h1, h2⟩ | ⟨rfl, h1⟩
    · obtain ⟨c0, q1, q2, rfl⟩ := rngI (by omega) (by omega) h1 h2
      have hl : lv_has ls 6 [(5, .ref (B k).1), (0, .ref (ad 0)), (1, .int ((nI (k + 1)))), (2, .int (nI c0)), (3, .int y), (4, .int mk)] := hl
      have hcp : nI c0 = nI 1 ∨ nI c0 = nI 2 := by rcases (show c0 = 1 ∨ c0 = 2 by omega) with rfl | rfl; exact Or.inl rfl; exact Or.inr rfl
      refine r_if_ne (x := 1) (tgt := 26) hx hb (by omega) dX7_poke_21 (by decide) (fun _ => ?_) (fun c => absurd c (by decide))
      refine lv_aload hx hb dX7_poke_26 (lv_at hl 0 rfl) ?_
      refine lv_iload_n hx hb dX7_poke_28 rfl (lv_at hl 4 rfl) ?_
      refine vp_callSi (va_Run.run (va_runVN (As := [.int y]) (rest := []) ⟨hx, hb, hml, hown, hts⟩ (c_X0_hasOctet l D t ((B k).1) ((B k).2.2.1.1) ((B k).2.2.2.1) ((B k).2.1) y hb1.2 hb1.1 _) (⟨va_cnB 1 hts ggX7_poke_X0_hasOctet rfl rfl rfl (hN.m 17 rfl) (hts (.initialized RX0) (List.mem_of_getElem? (i := 13) rfl)) (by decide +kernel) ⟨Nat.le_of_ble_eq_true rfl, Nat.le_of_ble_eq_true rfl⟩, (hts (.instanceMethod yX0_hasOctet) (List.mem_of_getElem? (i := 12) rfl)), (hts (.selects RX0 yX0_hasOctet yX0_hasOctet) (List.mem_of_getElem? (i := 14) rfl))⟩) (preVp (wc := [((B k).1, .inr (1, [.int (nI ((B k).2.1)), .ref (B k).2.2.1.1, .ref (B k).2.2.2.1]))]) [] ([((B k).2.2.1.1, .inr (2, [.ref (B k).2.2.1.2.1, .int ((B k).2.2.1.2.2.2)])), ((B k).2.2.1.2.1, .inl (t 1, (B k).2.1, .inl ((B k).2.2.1.2.2.1))), ((B k).2.2.2.1, .inr (2, [.ref (B k).2.2.2.2.1, .int ((B k).2.2.2.2.2.2)])), ((B k).2.2.2.2.1, .inl (t 1, (B k).2.1, .inl ((B k).2.2.2.2.2.1)))] ++ (frZ t [((ad 0), .inr (8, [.int (nI sz), .ref (ad 1), .ref (ad 5), .ref (ad 10), .ref (ad 13), .ref (ad 19), .ref (ad 14), .ref (ad 18), .int (nI nb)])), ((ad 1), .inr (5, [.ref (ad 2), .ref (ad 3), .ref (ad 4), .int (nI nr)])), ((ad 2), .inl (t 0, 16, .inl (nF rs))), ((ad 3), .inl (t 0, 16, .inl (nF re))), ((ad 4), .inl (t 0, 16, .inl (nF rr))), ((ad 5), .inr (6, [.ref (ad 6), .ref (ad 7), .ref (ad 8), .ref (ad 9), .int (nI ns)])), ((ad 6), .inl (t 0, 40, .inl (nF sl))), ((ad 7), .inl (t 0, 40, .inl (nF sa))), ((ad 8), .inl (t 0, 40, .inl (nF sk))), ((ad 9), .inl (t 0, 40, .inl (nF gf))), ((ad 10), .inr (7, [.ref (ad 11), .ref (ad 12), .int (nI nt)])), ((ad 11), .inl (t 0, 40, .inl (nF ts))), ((ad 12), .inl (t 0, 40, .inl (nF te))), ((ad 14), .inr (3, [.ref (ad 15), .ref (ad 16), .ref (ad 17)])), ((ad 15), .inl (t 0, 31, .inl (nF stk))), ((ad 16), .inl (t 0, 31, .inl (nF cm))), ((ad 17), .inl (t 0, 31, .inl (nF dp))), ((ad 18), .inl (t 4, 20, .inr (.inr (.inr (.inr (blkQ B nb)))))), ((ad 19), .inr (4, [.ref (ad 20), .int (nI lc), .ref (ad 21), .ref (ad 22), .int (nI kc)])), ((ad 20), .inl (t 0, 40, .inl (nF last))), ((ad 21), .inl (t 5, 50, .inr (.inr (.inr (.inr (rowQ r)))))), ((ad 22), .inl (t 0, 50, .inl (nF sc))), ((ad 13), .inl (t 0, 40, .inl (nF tr)))] (seg (rowF t r K) 50) B k nb)) hP hD hK hN 1 0 rfl rfl rfl) rfl rfl hl.1 rfl (lv_room (Nat.le_of_ble_eq_true rfl)) dX7_poke_29 ⟨Nat.le_of_ble_eq_true rfl, Nat.le_of_ble_eq_true rfl⟩)) (fun r hw => ?_)
      rcases hw with ⟨rfl, j, hj, rfl⟩ | ⟨rfl, h1⟩
      · have hl : lv_has ls 6 [(5, .ref (B k).1), (0, .ref (ad 0)), (1, .int ((nI (k + 1)))), (2, .int (nI c0)), (3, .int (nI j)), (4, .int mk)] := hl
        refine r_if_ne (x := 1) (tgt := 38) hx hb (by omega) dX7_poke_32 (by decide) (fun _ => ?_) (fun c => absurd c (by decide))
        refine lv_iload_n hx hb dX7_poke_38 rfl (lv_at hl 3 rfl) ?_
        refine lv_iconst (v := (nI 1)) hx hb dX7_poke_39 (by decide) ?_
        refine r_icmp_ne (x := c0) (y := 1) (tgt := 57) hx hb (by omega) (by omega) dX7_poke_40 (by decide) (fun c4 => ?_) (fun c4 => ?_)
        · refine lv_aload hx hb dX7_poke_57 (lv_at hl 0 rfl) ?_
          refine va_getN (host := "MemoryMap") (own := RX7) (D := D) (ci := 1) (v := .ref (B k).2.2.2.1) (C := RX0) (T := TX0) (N := 3) hx hb hts i_X7_poke_X0 hown hK hP 0 rfl rfl 2 (by decide) (hN.f 13 rfl) (fun _ h9 => h9) rfl dX7_poke_59 ?_
          refine lv_iload_n hx hb dX7_poke_62 rfl (lv_at hl 4 rfl) ?_
          refine lv_iload hx hb dX7_poke_63 (lv_at hl 5 rfl) ?_
          refine call_Mip (wc := [((B k).2.2.2.1, .inr (2, [.ref (B k).2.2.2.2.1, .int ((B k).2.2.2.2.2.2)])), ((B k).2.2.2.2.1, .inl (t 1, (B k).2.1, .inl ((B k).2.2.2.2.2.1)))]) (wc' := fun v : Nat → Int32 => [((B k).2.2.2.1, .inr (2, [.ref (B k).2.2.2.2.1, .int ((B k).2.2.2.2.2.2)])), ((B k).2.2.2.2.1, .inl (t 1, (B k).2.1, .inl v))]) [((B k).1, .inr (1, [.int (nI ((B k).2.1)), .ref (B k).2.2.1.1, .ref (B k).2.2.2.1])), ((B k).2.2.1.1, .inr (2, [.ref (B k).2.2.1.2.1, .int ((B k).2.2.1.2.2.2)])), ((B k).2.2.1.2.1, .inl (t 1, (B k).2.1, .inl ((B k).2.2.1.2.2.1)))] (frZ t [((ad 0), .inr (8, [.int (nI sz), .ref (ad 1), .ref (ad 5), .ref (ad 10), .ref (ad 13), .ref (ad 19), .ref (ad 14), .ref (ad 18), .int (nI nb)])), ((ad 1), .inr (5, [.ref (ad 2), .ref (ad 3), .ref (ad 4), .int (nI nr)])), ((ad 2), .inl (t 0, 16, .inl (nF rs))), ((ad 3), .inl (t 0, 16, .inl (nF re))), ((ad 4), .inl (t 0, 16, .inl (nF rr))), ((ad 5), .inr (6, [.ref (ad 6), .ref (ad 7), .ref (ad 8), .ref (ad 9), .int (nI ns)])), ((ad 6), .inl (t 0, 40, .inl (nF sl))), ((ad 7), .inl (t 0, 40, .inl (nF sa))), ((ad 8), .inl (t 0, 40, .inl (nF sk))), ((ad 9), .inl (t 0, 40, .inl (nF gf))), ((ad 10), .inr (7, [.ref (ad 11), .ref (ad 12), .int (nI nt)])), ((ad 11), .inl (t 0, 40, .inl (nF ts))), ((ad 12), .inl (t 0, 40, .inl (nF te))), ((ad 14), .inr (3, [.ref (ad 15), .ref (ad 16), .ref (ad 17)])), ((ad 15), .inl (t 0, 31, .inl (nF stk))), ((ad 16), .inl (t 0, 31, .inl (nF cm))), ((ad 17), .inl (t 0, 31, .inl (nF dp))), ((ad 18), .inl (t 4, 20, .inr (.inr (.inr (.inr (blkQ B nb)))))), ((ad 19), .inr (4, [.ref (ad 20), .int (nI lc), .ref (ad 21), .ref (ad 22), .int (nI kc)])), ((ad 20), .inl (t 0, 40, .inl (nF last))), ((ad 21), .inl (t 5, 50, .inr (.inr (.inr (.inr (rowQ r)))))), ((ad 22), .inl (t 0, 50, .inl (nF sc))), ((ad 13), .inl (t 0, 40, .inl (nF tr)))] (seg (rowF t r K) 50) B k nb) (va_runVN (As := [.int (nI j), .int mk]) (rest := []) ⟨hx, hb, hml, hown, hts⟩ (c_X1_flip l D t ((B k).2.2.2.1) ((B k).2.2.2.2.1) ((B k).2.1) j ((B k).2.2.2.2.2.1) ((B k).2.2.2.2.2.2) mk hb1.2 hj _) (⟨va_cnB 2 hts ggX7_poke_X1_flip rfl rfl rfl (hN.m 20 rfl) (hts (.initialized RX1) (List.mem_of_getElem? (i := 18) rfl)) (by decide +kernel) ⟨Nat.le_of_ble_eq_true rfl, Nat.le_of_ble_eq_true rfl⟩, (hts (.instanceMethod yX1_flip) (List.mem_of_getElem? (i := 17) rfl)), (hts (.selects RX1 yX1_flip yX1_flip) (List.mem_of_getElem? (i := 19) rfl))⟩) (preVp (wc := [((B k).2.2.2.1, .inr (2, [.ref (B k).2.2.2.2.1, .int ((B k).2.2.2.2.2.2)])), ((B k).2.2.2.2.1, .inl (t 1, (B k).2.1, .inl ((B k).2.2.2.2.2.1)))]) [((B k).1, .inr (1, [.int (nI ((B k).2.1)), .ref (B k).2.2.1.1, .ref (B k).2.2.2.1])), ((B k).2.2.1.1, .inr (2, [.ref (B k).2.2.1.2.1, .int ((B k).2.2.1.2.2.2)])), ((B k).2.2.1.2.1, .inl (t 1, (B k).2.1, .inl ((B k).2.2.1.2.2.1)))] (frZ t [((ad 0), .inr (8, [.int (nI sz), .ref (ad 1), .ref (ad 5), .ref (ad 10), .ref (ad 13), .ref (ad 19), .ref (ad 14), .ref (ad 18), .int (nI nb)])), ((ad 1), .inr (5, [.ref (ad 2), .ref (ad 3), .ref (ad 4), .int (nI nr)])), ((ad 2), .inl (t 0, 16, .inl (nF rs))), ((ad 3), .inl (t 0, 16, .inl (nF re))), ((ad 4), .inl (t 0, 16, .inl (nF rr))), ((ad 5), .inr (6, [.ref (ad 6), .ref (ad 7), .ref (ad 8), .ref (ad 9), .int (nI ns)])), ((ad 6), .inl (t 0, 40, .inl (nF sl))), ((ad 7), .inl (t 0, 40, .inl (nF sa))), ((ad 8), .inl (t 0, 40, .inl (nF sk))), ((ad 9), .inl (t 0, 40, .inl (nF gf))), ((ad 10), .inr (7, [.ref (ad 11), .ref (ad 12), .int (nI nt)])), ((ad 11), .inl (t 0, 40, .inl (nF ts))), ((ad 12), .inl (t 0, 40, .inl (nF te))), ((ad 14), .inr (3, [.ref (ad 15), .ref (ad 16), .ref (ad 17)])), ((ad 15), .inl (t 0, 31, .inl (nF stk))), ((ad 16), .inl (t 0, 31, .inl (nF cm))), ((ad 17), .inl (t 0, 31, .inl (nF dp))), ((ad 18), .inl (t 4, 20, .inr (.inr (.inr (.inr (blkQ B nb)))))), ((ad 19), .inr (4, [.ref (ad 20), .int (nI lc), .ref (ad 21), .ref (ad 22), .int (nI kc)])), ((ad 20), .inl (t 0, 40, .inl (nF last))), ((ad 21), .inl (t 5, 50, .inr (.inr (.inr (.inr (rowQ r)))))), ((ad 22), .inl (t 0, 50, .inl (nF sc))), ((ad 13), .inl (t 0, 40, .inl (nF tr)))] (seg (rowF t r K) 50) B k nb) hP hD hK hN 2 0 rfl rfl rfl) rfl rfl hl.1 rfl (lv_room (Nat.le_of_ble_eq_true rfl)) dX7_poke_65 ⟨Nat.le_of_ble_eq_true rfl, Nat.le_of_ble_eq_true rfl⟩) hP hD hS hA (fun z v H locs hw hP hD hS hz => ?_)
          have hP : va_P D vwCl ([((B k).1, .inr (1, [.int (nI ((B k).2.1)), .ref (B k).2.2.1.1, .ref (B k).2.2.2.1])), ((B k).2.2.1.1, .inr (2, [.ref (B k).2.2.1.2.1, .int ((B k).2.2.1.2.2.2)])), ((B k).2.2.1.2.1, .inl (t 1, (B k).2.1, .inl ((B k).2.2.1.2.2.1))), ((B k).2.2.2.1, .inr (2, [.ref (B k).2.2.2.2.1, .int ((B k).2.2.2.2.2.2)])), ((B k).2.2.2.2.1, .inl (t 1, (B k).2.1, .inl v))] ++ (frZ t [((ad 0), .inr (8, [.int (nI sz), .ref (ad 1), .ref (ad 5), .ref (ad 10), .ref (ad 13), .ref (ad 19), .ref (ad 14), .ref (ad 18), .int (nI nb)])), ((ad 1), .inr (5, [.ref (ad 2), .ref (ad 3), .ref (ad 4), .int (nI nr)])), ((ad 2), .inl (t 0, 16, .inl (nF rs))), ((ad 3), .inl (t 0, 16, .inl (nF re))), ((ad 4), .inl (t 0, 16, .inl (nF rr))), ((ad 5), .inr (6, [.ref (ad 6), .ref (ad 7), .ref (ad 8), .ref (ad 9), .int (nI ns)])), ((ad 6), .inl (t 0, 40, .inl (nF sl))), ((ad 7), .inl (t 0, 40, .inl (nF sa))), ((ad 8), .inl (t 0, 40, .inl (nF sk))), ((ad 9), .inl (t 0, 40, .inl (nF gf))), ((ad 10), .inr (7, [.ref (ad 11), .ref (ad 12), .int (nI nt)])), ((ad 11), .inl (t 0, 40, .inl (nF ts))), ((ad 12), .inl (t 0, 40, .inl (nF te))), ((ad 14), .inr (3, [.ref (ad 15), .ref (ad 16), .ref (ad 17)])), ((ad 15), .inl (t 0, 31, .inl (nF stk))), ((ad 16), .inl (t 0, 31, .inl (nF cm))), ((ad 17), .inl (t 0, 31, .inl (nF dp))), ((ad 18), .inl (t 4, 20, .inr (.inr (.inr (.inr (blkQ B nb)))))), ((ad 19), .inr (4, [.ref (ad 20), .int (nI lc), .ref (ad 21), .ref (ad 22), .int (nI kc)])), ((ad 20), .inl (t 0, 40, .inl (nF last))), ((ad 21), .inl (t 5, 50, .inr (.inr (.inr (.inr (rowQ r)))))), ((ad 22), .inl (t 0, 50, .inl (nF sc))), ((ad 13), .inl (t 0, 40, .inl (nF tr)))] (seg (rowF t r K) 50) B k nb)) H := hP
          have hD : va_D A ([((B k).1, .inr (1, [.int (nI ((B k).2.1)), .ref (B k).2.2.1.1, .ref (B k).2.2.2.1])), ((B k).2.2.1.1, .inr (2, [.ref (B k).2.2.1.2.1, .int ((B k).2.2.1.2.2.2)])), ((B k).2.2.1.2.1, .inl (t 1, (B k).2.1, .inl ((B k).2.2.1.2.2.1))), ((B k).2.2.2.1, .inr (2, [.ref (B k).2.2.2.2.1, .int ((B k).2.2.2.2.2.2)])), ((B k).2.2.2.2.1, .inl (t 1, (B k).2.1, .inl v))] ++ (frZ t [((ad 0), .inr (8, [.int (nI sz), .ref (ad 1), .ref (ad 5), .ref (ad 10), .ref (ad 13), .ref (ad 19), .ref (ad 14), .ref (ad 18), .int (nI nb)])), ((ad 1), .inr (5, [.ref (ad 2), .ref (ad 3), .ref (ad 4), .int (nI nr)])), ((ad 2), .inl (t 0, 16, .inl (nF rs))), ((ad 3), .inl (t 0, 16, .inl (nF re))), ((ad 4), .inl (t 0, 16, .inl (nF rr))), ((ad 5), .inr (6, [.ref (ad 6), .ref (ad 7), .ref (ad 8), .ref (ad 9), .int (nI ns)])), ((ad 6), .inl (t 0, 40, .inl (nF sl))), ((ad 7), .inl (t 0, 40, .inl (nF sa))), ((ad 8), .inl (t 0, 40, .inl (nF sk))), ((ad 9), .inl (t 0, 40, .inl (nF gf))), ((ad 10), .inr (7, [.ref (ad 11), .ref (ad 12), .int (nI nt)])), ((ad 11), .inl (t 0, 40, .inl (nF ts))), ((ad 12), .inl (t 0, 40, .inl (nF te))), ((ad 14), .inr (3, [.ref (ad 15), .ref (ad 16), .ref (ad 17)])), ((ad 15), .inl (t 0, 31, .inl (nF stk))), ((ad 16), .inl (t 0, 31, .inl (nF cm))), ((ad 17), .inl (t 0, 31, .inl (nF dp))), ((ad 18), .inl (t 4, 20, .inr (.inr (.inr (.inr (blkQ B nb)))))), ((ad 19), .inr (4, [.ref (ad 20), .int (nI lc), .ref (ad 21), .ref (ad 22), .int (nI kc)])), ((ad 20), .inl (t 0, 40, .inl (nF last))), ((ad 21), .inl (t 5, 50, .inr (.inr (.inr (.inr (rowQ r)))))), ((ad 22), .inl (t 0, 50, .inl (nF sc))), ((ad 13), .inl (t 0, 40, .inl (nF tr)))] (seg (rowF t r K) 50) B k nb)) := hD
          obtain ⟨rfl, rfl⟩ := hw
          have hP : va_P D vwCl (blkC t (pok2 (B k) j mk) ++ frZ t [((ad 0), .inr (8, [.int (nI sz), .ref (ad 1), .ref (ad 5), .ref (ad 10), .ref (ad 13), .ref (ad 19), .ref (ad 14), .ref (ad 18), .int (nI nb)])), ((ad 1), .inr (5, [.ref (ad 2), .ref (ad 3), .ref (ad 4), .int (nI nr)])), ((ad 2), .inl (t 0, 16, .inl (nF rs))), ((ad 3), .inl (t 0, 16, .inl (nF re))), ((ad 4), .inl (t 0, 16, .inl (nF rr))), ((ad 5), .inr (6, [.ref (ad 6), .ref (ad 7), .ref (ad 8), .ref (ad 9), .int (nI ns)])), ((ad 6), .inl (t 0, 40, .inl (nF sl))), ((ad 7), .inl (t 0, 40, .inl (nF sa))), ((ad 8), .inl (t 0, 40, .inl (nF sk))), ((ad 9), .inl (t 0, 40, .inl (nF gf))), ((ad 10), .inr (7, [.ref (ad 11), .ref (ad 12), .int (nI nt)])), ((ad 11), .inl (t 0, 40, .inl (nF ts))), ((ad 12), .inl (t 0, 40, .inl (nF te))), ((ad 14), .inr (3, [.ref (ad 15), .ref (ad 16), .ref (ad 17)])), ((ad 15), .inl (t 0, 31, .inl (nF stk))), ((ad 16), .inl (t 0, 31, .inl (nF cm))), ((ad 17), .inl (t 0, 31, .inl (nF dp))), ((ad 18), .inl (t 4, 20, .inr (.inr (.inr (.inr (blkQ B nb)))))), ((ad 19), .inr (4, [.ref (ad 20), .int (nI lc), .ref (ad 21), .ref (ad 22), .int (nI kc)])), ((ad 20), .inl (t 0, 40, .inl (nF last))), ((ad 21), .inl (t 5, 50, .inr (.inr (.inr (.inr (rowQ r)))))), ((ad 22), .inl (t 0, 50, .inl (nF sc))), ((ad 13), .inl (t 0, 40, .inl (nF tr)))] (seg (rowF t r K) 50) B k nb) _ := hP
          have hD : va_D A (blkC t (pok2 (B k) j mk) ++ frZ t [((ad 0), .inr (8, [.int (nI sz), .ref (ad 1), .ref (ad 5), .ref (ad 10), .ref (ad 13), .ref (ad 19), .ref (ad 14), .ref (ad 18), .int (nI nb)])), ((ad 1), .inr (5, [.ref (ad 2), .ref (ad 3), .ref (ad 4), .int (nI nr)])), ((ad 2), .inl (t 0, 16, .inl (nF rs))), ((ad 3), .inl (t 0, 16, .inl (nF re))), ((ad 4), .inl (t 0, 16, .inl (nF rr))), ((ad 5), .inr (6, [.ref (ad 6), .ref (ad 7), .ref (ad 8), .ref (ad 9), .int (nI ns)])), ((ad 6), .inl (t 0, 40, .inl (nF sl))), ((ad 7), .inl (t 0, 40, .inl (nF sa))), ((ad 8), .inl (t 0, 40, .inl (nF sk))), ((ad 9), .inl (t 0, 40, .inl (nF gf))), ((ad 10), .inr (7, [.ref (ad 11), .ref (ad 12), .int (nI nt)])), ((ad 11), .inl (t 0, 40, .inl (nF ts))), ((ad 12), .inl (t 0, 40, .inl (nF te))), ((ad 14), .inr (3, [.ref (ad 15), .ref (ad 16), .ref (ad 17)])), ((ad 15), .inl (t 0, 31, .inl (nF stk))), ((ad 16), .inl (t 0, 31, .inl (nF cm))), ((ad 17), .inl (t 0, 31, .inl (nF dp))), ((ad 18), .inl (t 4, 20, .inr (.inr (.inr (.inr (blkQ B nb)))))), ((ad 19), .inr (4, [.ref (ad 20), .int (nI lc), .ref (ad 21), .ref (ad 22), .int (nI kc)])), ((ad 20), .inl (t 0, 40, .inl (nF last))), ((ad 21), .inl (t 5, 50, .inr (.inr (.inr (.inr (rowQ r)))))), ((ad 22), .inl (t 0, 50, .inl (nF sc))), ((ad 13), .inl (t 0, 40, .inl (nF tr)))] (seg (rowF t r K) 50) B k nb) := hD
          have hP := P_perm (fr_perm hkn (pok2 (B k) j mk)).symm hP
          have hD := D_perm (fr_perm hkn (pok2 (B k) j mk)).symm hD
          rw [← blkQ_up (B := B) (k := k) (n := nb) (x := pok2 (B k) j mk) rfl] at hP hD
          exact ret_Mi hx hb hr hlk (va_up B k (pok2 (B k) j mk)) (Or.inr ⟨k, hkn, rfl, hcp, Or.inr ⟨j, hj, rfl, Or.inr ⟨by rw [show c0 = 2 by omega], rfl, rfl⟩⟩⟩) hP hD hS (Nat.le_of_ble_eq_true rfl) (Nat.le_of_ble_eq_true rfl) dX7_poke_68
        · refine lv_aload hx hb dX7_poke_43 (lv_at hl 0 rfl) ?_
          refine va_getN (host := "MemoryMap") (own := RX7) (D := D) (ci := 1) (v := .ref (B k).2.2.1.1) (C := RX0) (T := TX0) (N := 3) hx hb hts i_X7_poke_X0 hown hK hP 0 rfl rfl 1 (by decide) (hN.f 12 rfl) (fun _ h9 => h9) rfl dX7_poke_45 ?_
          refine lv_iload_n hx hb dX7_poke_48 rfl (lv_at hl 4 rfl) ?_
          refine lv_iload hx hb dX7_poke_49 (lv_at hl 5 rfl) ?_
          refine call_Mip (wc := [((B k).2.2.1.1, .inr (2, [.ref (B k).2.2.1.2.1, .int ((B k).2.2.1.2.2.2)])), ((B k).2.2.1.2.1, .inl (t 1, (B k).2.1, .inl ((B k).2.2.1.2.2.1)))]) (wc' := fun v : Nat → Int32 => [((B k).2.2.1.1, .inr (2, [.ref (B k).2.2.1.2.1, .int ((B k).2.2.1.2.2.2)])), ((B k).2.2.1.2.1, .inl (t 1, (B k).2.1, .inl v))]) [((B k).1, .inr (1, [.int (nI ((B k).2.1)), .ref (B k).2.2.1.1, .ref (B k).2.2.2.1]))] ([((B k).2.2.2.1, .inr (2, [.ref (B k).2.2.2.2.1, .int ((B k).2.2.2.2.2.2)])), ((B k).2.2.2.2.1, .inl (t 1, (B k).2.1, .inl ((B k).2.2.2.2.2.1)))] ++ (frZ t [((ad 0), .inr (8, [.int (nI sz), .ref (ad 1), .ref (ad 5), .ref (ad 10), .ref (ad 13), .ref (ad 19), .ref (ad 14), .ref (ad 18), .int (nI nb)])), ((ad 1), .inr (5, [.ref (ad 2), .ref (ad 3), .ref (ad 4), .int (nI nr)])), ((ad 2), .inl (t 0, 16, .inl (nF rs))), ((ad 3), .inl (t 0, 16, .inl (nF re))), ((ad 4), .inl (t 0, 16, .inl (nF rr))), ((ad 5), .inr (6, [.ref (ad 6), .ref (ad 7), .ref (ad 8), .ref (ad 9), .int (nI ns)])), ((ad 6), .inl (t 0, 40, .inl (nF sl))), ((ad 7), .inl (t 0, 40, .inl (nF sa))), ((ad 8), .inl (t 0, 40, .inl (nF sk))), ((ad 9), .inl (t 0, 40, .inl (nF gf))), ((ad 10), .inr (7, [.ref (ad 11), .ref (ad 12), .int (nI nt)])), ((ad 11), .inl (t 0, 40, .inl (nF ts))), ((ad 12), .inl (t 0, 40, .inl (nF te))), ((ad 14), .inr (3, [.ref (ad 15), .ref (ad 16), .ref (ad 17)])), ((ad 15), .inl (t 0, 31, .inl (nF stk))), ((ad 16), .inl (t 0, 31, .inl (nF cm))), ((ad 17), .inl (t 0, 31, .inl (nF dp))), ((ad 18), .inl (t 4, 20, .inr (.inr (.inr (.inr (blkQ B nb)))))), ((ad 19), .inr (4, [.ref (ad 20), .int (nI lc), .ref (ad 21), .ref (ad 22), .int (nI kc)])), ((ad 20), .inl (t 0, 40, .inl (nF last))), ((ad 21), .inl (t 5, 50, .inr (.inr (.inr (.inr (rowQ r)))))), ((ad 22), .inl (t 0, 50, .inl (nF sc))), ((ad 13), .inl (t 0, 40, .inl (nF tr)))] (seg (rowF t r K) 50) B k nb)) (va_runVN (As := [.int (nI j), .int mk]) (rest := []) ⟨hx, hb, hml, hown, hts⟩ (c_X1_flip l D t ((B k).2.2.1.1) ((B k).2.2.1.2.1) ((B k).2.1) j ((B k).2.2.1.2.2.1) ((B k).2.2.1.2.2.2) mk hb1.2 hj _) (⟨va_cnB 2 hts ggX7_poke_X1_flip rfl rfl rfl (hN.m 20 rfl) (hts (.initialized RX1) (List.mem_of_getElem? (i := 18) rfl)) (by decide +kernel) ⟨Nat.le_of_ble_eq_true rfl, Nat.le_of_ble_eq_true rfl⟩, (hts (.instanceMethod yX1_flip) (List.mem_of_getElem? (i := 17) rfl)), (hts (.selects RX1 yX1_flip yX1_flip) (List.mem_of_getElem? (i := 19) rfl))⟩) (preVp (wc := [((B k).2.2.1.1, .inr (2, [.ref (B k).2.2.1.2.1, .int ((B k).2.2.1.2.2.2)])), ((B k).2.2.1.2.1, .inl (t 1, (B k).2.1, .inl ((B k).2.2.1.2.2.1)))]) [((B k).1, .inr (1, [.int (nI ((B k).2.1)), .ref (B k).2.2.1.1, .ref (B k).2.2.2.1]))] ([((B k).2.2.2.1, .inr (2, [.ref (B k).2.2.2.2.1, .int ((B k).2.2.2.2.2.2)])), ((B k).2.2.2.2.1, .inl (t 1, (B k).2.1, .inl ((B k).2.2.2.2.2.1)))] ++ (frZ t [((ad 0), .inr (8, [.int (nI sz), .ref (ad 1), .ref (ad 5), .ref (ad 10), .ref (ad 13), .ref (ad 19), .ref (ad 14), .ref (ad 18), .int (nI nb)])), ((ad 1), .inr (5, [.ref (ad 2), .ref (ad 3), .ref (ad 4), .int (nI nr)])), ((ad 2), .inl (t 0, 16, .inl (nF rs))), ((ad 3), .inl (t 0, 16, .inl (nF re))), ((ad 4), .inl (t 0, 16, .inl (nF rr))), ((ad 5), .inr (6, [.ref (ad 6), .ref (ad 7), .ref (ad 8), .ref (ad 9), .int (nI ns)])), ((ad 6), .inl (t 0, 40, .inl (nF sl))), ((ad 7), .inl (t 0, 40, .inl (nF sa))), ((ad 8), .inl (t 0, 40, .inl (nF sk))), ((ad 9), .inl (t 0, 40, .inl (nF gf))), ((ad 10), .inr (7, [.ref (ad 11), .ref (ad 12), .int (nI nt)])), ((ad 11), .inl (t 0, 40, .inl (nF ts))), ((ad 12), .inl (t 0, 40, .inl (nF te))), ((ad 14), .inr (3, [.ref (ad 15), .ref (ad 16), .ref (ad 17)])), ((ad 15), .inl (t 0, 31, .inl (nF stk))), ((ad 16), .inl (t 0, 31, .inl (nF cm))), ((ad 17), .inl (t 0, 31, .inl (nF dp))), ((ad 18), .inl (t 4, 20, .inr (.inr (.inr (.inr (blkQ B nb)))))), ((ad 19), .inr (4, [.ref (ad 20), .int (nI lc), .ref (ad 21), .ref (ad 22), .int (nI kc)])), ((ad 20), .inl (t 0, 40, .inl (nF last))), ((ad 21), .inl (t 5, 50, .inr (.inr (.inr (.inr (rowQ r)))))), ((ad 22), .inl (t 0, 50, .inl (nF sc))), ((ad 13), .inl (t 0, 40, .inl (nF tr)))] (seg (rowF t r K) 50) B k nb)) hP hD hK hN 2 0 rfl rfl rfl) rfl rfl hl.1 rfl (lv_room (Nat.le_of_ble_eq_true rfl)) dX7_poke_51 ⟨Nat.le_of_ble_eq_true rfl, Nat.le_of_ble_eq_true rfl⟩) hP hD hS hA (fun z v H locs hw hP hD hS hz => ?_)
          have hP : va_P D vwCl ([((B k).1, .inr (1, [.int (nI ((B k).2.1)), .ref (B k).2.2.1.1, .ref (B k).2.2.2.1])), ((B k).2.2.1.1, .inr (2, [.ref (B k).2.2.1.2.1, .int ((B k).2.2.1.2.2.2)])), ((B k).2.2.1.2.1, .inl (t 1, (B k).2.1, .inl v)), ((B k).2.2.2.1, .inr (2, [.ref (B k).2.2.2.2.1, .int ((B k).2.2.2.2.2.2)])), ((B k).2.2.2.2.1, .inl (t 1, (B k).2.1, .inl ((B k).2.2.2.2.2.1)))] ++ (frZ t [((ad 0), .inr (8, [.int (nI sz), .ref (ad 1), .ref (ad 5), .ref (ad 10), .ref (ad 13), .ref (ad 19), .ref (ad 14), .ref (ad 18), .int (nI nb)])), ((ad 1), .inr (5, [.ref (ad 2), .ref (ad 3), .ref (ad 4), .int (nI nr)])), ((ad 2), .inl (t 0, 16, .inl (nF rs))), ((ad 3), .inl (t 0, 16, .inl (nF re))), ((ad 4), .inl (t 0, 16, .inl (nF rr))), ((ad 5), .inr (6, [.ref (ad 6), .ref (ad 7), .ref (ad 8), .ref (ad 9), .int (nI ns)])), ((ad 6), .inl (t 0, 40, .inl (nF sl))), ((ad 7), .inl (t 0, 40, .inl (nF sa))), ((ad 8), .inl (t 0, 40, .inl (nF sk))), ((ad 9), .inl (t 0, 40, .inl (nF gf))), ((ad 10), .inr (7, [.ref (ad 11), .ref (ad 12), .int (nI nt)])), ((ad 11), .inl (t 0, 40, .inl (nF ts))), ((ad 12), .inl (t 0, 40, .inl (nF te))), ((ad 14), .inr (3, [.ref (ad 15), .ref (ad 16), .ref (ad 17)])), ((ad 15), .inl (t 0, 31, .inl (nF stk))), ((ad 16), .inl (t 0, 31, .inl (nF cm))), ((ad 17), .inl (t 0, 31, .inl (nF dp))), ((ad 18), .inl (t 4, 20, .inr (.inr (.inr (.inr (blkQ B nb)))))), ((ad 19), .inr (4, [.ref (ad 20), .int (nI lc), .ref (ad 21), .ref (ad 22), .int (nI kc)])), ((ad 20), .inl (t 0, 40, .inl (nF last))), ((ad 21), .inl (t 5, 50, .inr (.inr (.inr (.inr (rowQ r)))))), ((ad 22), .inl (t 0, 50, .inl (nF sc))), ((ad 13), .inl (t 0, 40, .inl (nF tr)))] (seg (rowF t r K) 50) B k nb)) H := hP
          have hD : va_D A ([((B k).1, .inr (1, [.int (nI ((B k).2.1)), .ref (B k).2.2.1.1, .ref (B k).2.2.2.1])), ((B k).2.2.1.1, .inr (2, [.ref (B k).2.2.1.2.1, .int ((B k).2.2.1.2.2.2)])), ((B k).2.2.1.2.1, .inl (t 1, (B k).2.1, .inl v)), ((B k).2.2.2.1, .inr (2, [.ref (B k).2.2.2.2.1, .int ((B k).2.2.2.2.2.2)])), ((B k).2.2.2.2.1, .inl (t 1, (B k).2.1, .inl ((B k).2.2.2.2.2.1)))] ++ (frZ t [((ad 0), .inr (8, [.int (nI sz), .ref (ad 1), .ref (ad 5), .ref (ad 10), .ref (ad 13), .ref (ad 19), .ref (ad 14), .ref (ad 18), .int (nI nb)])), ((ad 1), .inr (5, [.ref (ad 2), .ref (ad 3), .ref (ad 4), .int (nI nr)])), ((ad 2), .inl (t 0, 16, .inl (nF rs))), ((ad 3), .inl (t 0, 16, .inl (nF re))), ((ad 4), .inl (t 0, 16, .inl (nF rr))), ((ad 5), .inr (6, [.ref (ad 6), .ref (ad 7), .ref (ad 8), .ref (ad 9), .int (nI ns)])), ((ad 6), .inl (t 0, 40, .inl (nF sl))), ((ad 7), .inl (t 0, 40, .inl (nF sa))), ((ad 8), .inl (t 0, 40, .inl (nF sk))), ((ad 9), .inl (t 0, 40, .inl (nF gf))), ((ad 10), .inr (7, [.ref (ad 11), .ref (ad 12), .int (nI nt)])), ((ad 11), .inl (t 0, 40, .inl (nF ts))), ((ad 12), .inl (t 0, 40, .inl (nF te))), ((ad 14), .inr (3, [.ref (ad 15), .ref (ad 16), .ref (ad 17)])), ((ad 15), .inl (t 0, 31, .inl (nF stk))), ((ad 16), .inl (t 0, 31, .inl (nF cm))), ((ad 17), .inl (t 0, 31, .inl (nF dp))), ((ad 18), .inl (t 4, 20, .inr (.inr (.inr (.inr (blkQ B nb)))))), ((ad 19), .inr (4, [.ref (ad 20), .int (nI lc), .ref (ad 21), .ref (ad 22), .int (nI kc)])), ((ad 20), .inl (t 0, 40, .inl (nF last))), ((ad 21), .inl (t 5, 50, .inr (.inr (.inr (.inr (rowQ r)))))), ((ad 22), .inl (t 0, 50, .inl (nF sc))), ((ad 13), .inl (t 0, 40, .inl (nF tr)))] (seg (rowF t r K) 50) B k nb)) := hD
          obtain ⟨rfl, rfl⟩ := hw
          refine lv_goto (tgt := 68) hx hb dX7_poke_54 (by decide) ?_
          have hP : va_P D vwCl (blkC t (pok1 (B k) j mk) ++ frZ t [((ad 0), .inr (8, [.int (nI sz), .ref (ad 1), .ref (ad 5), .ref (ad 10), .ref (ad 13), .ref (ad 19), .ref (ad 14), .ref (ad 18), .int (nI nb)])), ((ad 1), .inr (5, [.ref (ad 2), .ref (ad 3), .ref (ad 4), .int (nI nr)])), ((ad 2), .inl (t 0, 16, .inl (nF rs))), ((ad 3), .inl (t 0, 16, .inl (nF re))), ((ad 4), .inl (t 0, 16, .inl (nF rr))), ((ad 5), .inr (6, [.ref (ad 6), .ref (ad 7), .ref (ad 8), .ref (ad 9), .int (nI ns)])), ((ad 6), .inl (t 0, 40, .inl (nF sl))), ((ad 7), .inl (t 0, 40, .inl (nF sa))), ((ad 8), .inl (t 0, 40, .inl (nF sk))), ((ad 9), .inl (t 0, 40, .inl (nF gf))), ((ad 10), .inr (7, [.ref (ad 11), .ref (ad 12), .int (nI nt)])), ((ad 11), .inl (t 0, 40, .inl (nF ts))), ((ad 12), .inl (t 0, 40, .inl (nF te))), ((ad 14), .inr (3, [.ref (ad 15), .ref (ad 16), .ref (ad 17)])), ((ad 15), .inl (t 0, 31, .inl (nF stk))), ((ad 16), .inl (t 0, 31, .inl (nF cm))), ((ad 17), .inl (t 0, 31, .inl (nF dp))), ((ad 18), .inl (t 4, 20, .inr (.inr (.inr (.inr (blkQ B nb)))))), ((ad 19), .inr (4, [.ref (ad 20), .int (nI lc), .ref (ad 21), .ref (ad 22), .int (nI kc)])), ((ad 20), .inl (t 0, 40, .inl (nF last))), ((ad 21), .inl (t 5, 50, .inr (.inr (.inr (.inr (rowQ r)))))), ((ad 22), .inl (t 0, 50, .inl (nF sc))), ((ad 13), .inl (t 0, 40, .inl (nF tr)))] (seg (rowF t r K) 50) B k nb) _ := hP
          have hD : va_D A (blkC t (pok1 (B k) j mk) ++ frZ t [((ad 0), .inr (8, [.int (nI sz), .ref (ad 1), .ref (ad 5), .ref (ad 10), .ref (ad 13), .ref (ad 19), .ref (ad 14), .ref (ad 18), .int (nI nb)])), ((ad 1), .inr (5, [.ref (ad 2), .ref (ad 3), .ref (ad 4), .int (nI nr)])), ((ad 2), .inl (t 0, 16, .inl (nF rs))), ((ad 3), .inl (t 0, 16, .inl (nF re))), ((ad 4), .inl (t 0, 16, .inl (nF rr))), ((ad 5), .inr (6, [.ref (ad 6), .ref (ad 7), .ref (ad 8), .ref (ad 9), .int (nI ns)])), ((ad 6), .inl (t 0, 40, .inl (nF sl))), ((ad 7), .inl (t 0, 40, .inl (nF sa))), ((ad 8), .inl (t 0, 40, .inl (nF sk))), ((ad 9), .inl (t 0, 40, .inl (nF gf))), ((ad 10), .inr (7, [.ref (ad 11), .ref (ad 12), .int (nI nt)])), ((ad 11), .inl (t 0, 40, .inl (nF ts))), ((ad 12), .inl (t 0, 40, .inl (nF te))), ((ad 14), .inr (3, [.ref (ad 15), .ref (ad 16), .ref (ad 17)])), ((ad 15), .inl (t 0, 31, .inl (nF stk))), ((ad 16), .inl (t 0, 31, .inl (nF cm))), ((ad 17), .inl (t 0, 31, .inl (nF dp))), ((ad 18), .inl (t 4, 20, .inr (.inr (.inr (.inr (blkQ B nb)))))), ((ad 19), .inr (4, [.ref (ad 20), .int (nI lc), .ref (ad 21), .ref (ad 22), .int (nI kc)])), ((ad 20), .inl (t 0, 40, .inl (nF last))), ((ad 21), .inl (t 5, 50, .inr (.inr (.inr (.inr (rowQ r)))))), ((ad 22), .inl (t 0, 50, .inl (nF sc))), ((ad 13), .inl (t 0, 40, .inl (nF tr)))] (seg (rowF t r K) 50) B k nb) := hD
          have hP := P_perm (fr_perm hkn (pok1 (B k) j mk)).symm hP
          have hD := D_perm (fr_perm hkn (pok1 (B k) j mk)).symm hD
          rw [← blkQ_up (B := B) (k := k) (n := nb) (x := pok1 (B k) j mk) rfl] at hP hD
          exact ret_Mi hx hb hr hlk (va_up B k (pok1 (B k) j mk)) (Or.inr ⟨k, hkn, rfl, hcp, Or.inr ⟨j, hj, rfl, Or.inl ⟨by rw [c4], rfl, rfl⟩⟩⟩) hP hD hS (Nat.le_of_ble_eq_true rfl) (Nat.le_of_ble_eq_true rfl) dX7_poke_68
      · refine r_if_ne (x := 0) (tgt := 38) hx hb (by omega) dX7_poke_32 (by decide) (fun c => absurd c (by decide)) (fun _ => ?_)
        refine lv_bipush (v := ((-2))) hx hb dX7_poke_35 (by decide) ?_
        have hP := hPs
        have hD := hDs
        exact ret_Mi hx hb hr hlk (B) (Or.inr ⟨k, hkn, rfl, hcp, Or.inl ⟨h1, rfl, rfl⟩⟩) hP hD hS (Nat.le_of_ble_eq_true rfl) (Nat.le_of_ble_eq_true rfl) dX7_poke_37
    · refine r_if_ne (x := 0) (tgt := 26) hx hb (by omega) dX7_poke_21 (by decide) (fun c => absurd c (by decide)) (fun _ => ?_)
      refine lv_iconst (v := ((-1))) hx hb dX7_poke_24 (by decide) ?_
      have h2 := rngI' (by omega) (by omega) h1
      have hP := hPs
      have hD := hDs
      exact ret_Mi hx hb hr hlk (B) (Or.inl ⟨Or.inr ⟨h2 1 (by omega) (by omega), h2 2 (by omega) (by omega)⟩, rfl, rfl⟩) hP hD hS (Nat.le_of_ble_eq_true rfl) (Nat.le_of_ble_eq_true rfl) dX7_poke_25
end
