/-- the sum of the first octets -/
def mixF (x : Int32) : Int32 := ((x <<< (nI 5 &&& 31)) ||| ((x.toUInt32 >>> ((nI 27).toUInt32 &&& Int32.toUInt32 31)).toInt32)) * (-1028477379)
def sumF (f : Nat → Int32) : Nat → Int32
  | 0 => nI 1
  | k + 1 => mixF (sumF f k ^^^ (f k &&& nI 255))
theorem sumF_congr {f g : Nat → Int32} : ∀ n : Nat, (∀ j, j < n → f j = g j) → sumF f n = sumF g n
  | 0, _ => rfl
  | n + 1, h => by
    show mixF _ = mixF _
    rw [sumF_congr n (fun j hj => h j (by omega)), h n (Nat.lt_succ_self n)]
theorem rngI {i : Int32} {lo hi : Nat} (hh : hi < 2 ^ 31) (hl : lo < 2 ^ 31) (h1 : ¬ i.toInt64 < lN lo) (h2 : ¬ lN hi < i.toInt64) : ∃ k, lo ≤ k ∧ k ≤ hi ∧ i = nI k := by
  rw [Int64.lt_iff_toInt_lt, Int32.toInt_toInt64, lN_toInt hl] at h1
  rw [Int64.lt_iff_toInt_lt, Int32.toInt_toInt64, lN_toInt hh] at h2
  refine ⟨i.toInt.toNat, by omega, by omega, ?_⟩
  apply Int32.toInt_inj.mp
  rw [nI_toInt (by omega)]
  omega
theorem rngI' {i : Int32} {lo hi : Nat} (hh : hi < 2 ^ 31) (hl : lo < 2 ^ 31) (h : i.toInt64 < lN lo ∨ lN hi < i.toInt64) : ∀ k, lo ≤ k → k ≤ hi → i ≠ nI k := by
  rw [Int64.lt_iff_toInt_lt, Int64.lt_iff_toInt_lt, Int32.toInt_toInt64, lN_toInt hl, lN_toInt hh] at h
  intro k h1 h2 e
  rw [e, nI_toInt (by omega)] at h
  omega
theorem rngL {v : Int64} {lo hi : Nat} (hh : hi < 2 ^ 31) (hl : lo < 2 ^ 31) (h1 : ¬ v < lN lo) (h2 : ¬ lN hi < v) : ∃ k, lo ≤ k ∧ k ≤ hi ∧ v = lN k := by
  rw [Int64.lt_iff_toInt_lt, lN_toInt hl] at h1
  rw [Int64.lt_iff_toInt_lt, lN_toInt hh] at h2
  refine ⟨v.toInt.toNat, by omega, by omega, ?_⟩
  apply Int64.toInt_inj.mp
  rw [lN_toInt (by omega)]
  omega
theorem rngL' {v : Int64} {lo hi : Nat} (hh : hi < 2 ^ 31) (hl : lo < 2 ^ 31) (h : v < lN lo ∨ lN hi < v) : ∀ k, lo ≤ k → k ≤ hi → v ≠ lN k := by
  rw [Int64.lt_iff_toInt_lt, Int64.lt_iff_toInt_lt, lN_toInt hl, lN_toInt hh] at h
  intro k h1 h2 e
  rw [e, lN_toInt (by omega)] at h
  omega
theorem byte2 (z : Int32) : z.toInt8.toInt32.toInt8.toInt32 = z.toInt8.toInt32 := pk_vb z
theorem upd_at {f : Nat → Int32} {i : Nat} {x : Int32} : upd f i x i = x := pk_us
abbrev rm_X1_sumOf : Room := { frames := 0, cells := 0, slots := 0, locals := 0 }
set_option maxHeartbeats 1000000 in
set_option maxRecDepth 100000 in
theorem c_X1_sumOf (l : Launch) (D : va_G) (t : Nat → ClassId) (a n : Nat) (f : Nat → Int32) (hn : n ≤ 32) : Qi l yX1_sumOf wsX1_sumOf rm_X1_sumOf D (TY t) [.ref a] [(a, .inl (t 1, n, .inl f))] (fun r => r = sumF f n) := by
  refine start_Qi cX1_sumOf 4 (some .int) (by decide) rfl (Nat.le_of_ble_eq_true rfl) ?_
  intro p e s m below meth c ls B hP hD hl
  obtain ⟨hx, hb, hr, hts, hown, hlk, hml, hN, hK⟩ := B
  have hl : lv_has ls 4 [(0, .ref a)] := hl
  refine lv_iconst (v := (nI 1)) hx hb dX1_sumOf_0 (by decide) ?_
  refine lv_istore_n (lv' := [(1, .int (nI 1)), (0, .ref a)]) hx hb dX1_sumOf_1 rfl hl (by decide) rfl (fun ls hl => ?_)
  refine lv_iconst (v := (nI 0)) hx hb dX1_sumOf_2 (by decide) ?_
  refine lv_istore_n (lv' := [(2, .int (nI 0)), (1, .int (nI 1)), (0, .ref a)]) hx hb dX1_sumOf_3 rfl hl (by decide) rfl (fun ls hl => ?_)
  refine W_loop (σ := Nat) (fun i => n - i) (fun i H locs ls => H = s.heap ∧ locs = [] ∧ i ≤ n ∧ lv_has ls 4 [(2, .int (nI i)), (1, .int (sumF f i)), (0, .ref a)]) ?_ 0 _ _ _ ⟨rfl, rfl, Nat.zero_le _, hl⟩
  rintro i _ _ ls ⟨rfl, rfl, hi, hl⟩ ih
  refine lv_iload_n hx hb dX1_sumOf_4 rfl (lv_at hl 0 rfl) ?_
  refine lv_aload_n hx hb dX1_sumOf_5 rfl (lv_at hl 2 rfl) ?_
  refine va_alen (v := nI n) hx hb hK hP 0 1 rfl rfl rfl dX1_sumOf_6 ?_
  refine r_icmp_ge (x := i) (y := n) (tgt := 38) hx hb (by omega) (by omega) dX1_sumOf_7 (by decide) (fun c1 => ?_) (fun c1 => ?_)
  · refine lv_iload_n hx hb dX1_sumOf_38 rfl (lv_at hl 1 rfl) ?_
    have e : i = n := by omega
    exact ret_Qi hx hb hr hlk (by rw [e]) dX1_sumOf_39
  · refine lv_iload_n hx hb dX1_sumOf_10 rfl (lv_at hl 1 rfl) ?_
    refine lv_aload_n hx hb dX1_sumOf_11 rfl (lv_at hl 2 rfl) ?_
    refine lv_iload_n hx hb dX1_sumOf_12 rfl (lv_at hl 0 rfl) ?_
    refine r_baldI hx hb hK hP 0 1 rfl rfl (i := i) (by omega) (by omega) dX1_sumOf_13 ?_
    refine lv_sipush (v := (nI 255)) hx hb dX1_sumOf_14 (by decide) ?_
    refine lv_iand hx hb dX1_sumOf_17 ?_
    refine lv_ixor hx hb dX1_sumOf_18 ?_
    refine lv_istore_n (lv' := [(3, .int ((((sumF f i)) ^^^ ((((((f i))) &&& ((nI 255)))))))), (2, .int (nI i)), (1, .int (sumF f i)), (0, .ref a)]) hx hb dX1_sumOf_19 rfl hl (by decide) rfl (fun ls hl => ?_)
    refine lv_iload_n hx hb dX1_sumOf_20 rfl (lv_at hl 0 rfl) ?_
    refine lv_iconst (v := (nI 5)) hx hb dX1_sumOf_21 (by decide) ?_
    refine lv_ishl hx hb dX1_sumOf_22 ?_
    refine lv_iload_n hx hb dX1_sumOf_23 rfl (lv_at hl 0 rfl) ?_
    refine lv_bipush (v := (nI 27)) hx hb dX1_sumOf_24 (by decide) ?_
    refine lv_iushr (v := ((((((sumF f i)) ^^^ ((((((f i))) &&& ((nI 255)))))))).toUInt32 >>> (((nI 27)).toUInt32 &&& Int32.toUInt32 31)).toInt32) hx hb dX1_sumOf_26 rfl ?_
    refine lv_ior hx hb dX1_sumOf_27 ?_
    refine lv_ldc hx hb hown (hts (.constant RX1 35 (-1028477379)) (List.mem_of_getElem? (i := 1) rfl)) dX1_sumOf_28 ?_
    refine lv_imul hx hb dX1_sumOf_30 ?_
    refine lv_istore_n (lv' := [(1, .int (((((((((((((sumF f i)) ^^^ ((((((f i))) &&& ((nI 255)))))))) <<< (((nI 5)) &&& 31)))) ||| ((((((((sumF f i)) ^^^ ((((((f i))) &&& ((nI 255)))))))).toUInt32 >>> (((nI 27)).toUInt32 &&& Int32.toUInt32 31)).toInt32))))) * (((-1028477379)))))), (3, .int ((((sumF f i)) ^^^ ((((((f i))) &&& ((nI 255)))))))), (2, .int (nI i)), (0, .ref a)]) hx hb dX1_sumOf_31 rfl hl (by decide) rfl (fun ls hl => ?_)
    refine lv_iinc (v := (nI (i + 1))) (lv' := [(2, .int (nI (i + 1))), (1, .int (((((((((((((sumF f i)) ^^^ ((((((f i))) &&& ((nI 255)))))))) <<< (((nI 5)) &&& 31)))) ||| ((((((((sumF f i)) ^^^ ((((((f i))) &&& ((nI 255)))))))).toUInt32 >>> (((nI 27)).toUInt32 &&& Int32.toUInt32 31)).toInt32))))) * (((-1028477379)))))), (3, .int ((((sumF f i)) ^^^ ((((((f i))) &&& ((nI 255)))))))), (0, .ref a)]) hx hb dX1_sumOf_32 hl (k := 2) rfl (r_inc1 _) (by decide) rfl (fun ls hl => ?_)
    refine lv_goto (tgt := 4) hx hb dX1_sumOf_35 (by decide) ?_
    exact ih (i + 1) _ _ _ ⟨rfl, rfl, by omega, lv_sub hl [0, 1, 3] rfl⟩ (by omega)

theorem i_X1_init_X1 : ∀ w ∈ wsX10, w ∈ wsX1_init := by decide +kernel
abbrev rm_X1_init : Room := { frames := 1, cells := 1, slots := 32, locals := 23 }
set_option maxHeartbeats 1000000 in
set_option maxRecDepth 100000 in
theorem c_X1_init (l : Launch) (D : va_G) (t : Nat → ClassId) (h n : Nat) (hn : n ≤ 32) : Mv l yX1_init wsX1_init rm_X1_init D (TY t) [.ref h, .int (nI n)] [(h, .inr (2, [.null, .int (nI 0)]))] (S := Nat) (fun _ : Nat => True) (fun u => [(h, .inr (2, [.ref u, .int (sumF (fun _ => (0 : Int32)) n)])), (u, .inl (t 1, n, .inl (fun _ => (0 : Int32))))]) := by
  refine start_Mv cX1_init 2 none (by decide) rfl (Nat.le_of_ble_eq_true rfl) ?_
  intro p e s m below meth c A ls B hin hP hD hS hA hl
  obtain ⟨hx, hb, hr, hts, hown, hlk, hml, hN, hK⟩ := B
  have hl : lv_has ls 2 [(0, .ref h), (1, .int (nI n))] := hl
  refine lv_aload_n hx hb dX1_init_0 rfl (lv_at hl 0 rfl) ?_
  refine W.objInit hx hb hown (hts (.methodLink RX1 3 objectInit) (List.mem_of_getElem? (i := 1) rfl)) (hts (.instanceMethod objectInit) (List.mem_of_getElem? (i := 2) rfl)) (hts (.code objectInit ⟨#[0xb1]⟩ 1 none) (List.mem_of_getElem? (i := 3) rfl)) rfl (by rw [hml]; exact hl.1) rfl dX1_init_1 (Nat.le_of_ble_eq_true rfl) (Nat.le_of_ble_eq_true rfl) ?_
  refine W.eq (g2 := F0 m 4 ls []) rfl ?_
  refine lv_aload_n hx hb dX1_init_4 rfl (lv_at hl 0 rfl) ?_
  refine lv_iload_n hx hb dX1_init_5 rfl (lv_at hl 1 rfl) ?_
  refine r_newB hx hb (hts (.arrayClass .byte) (List.mem_of_getElem? (i := 4) rfl)) hK hP hD hS hA 1 rfl (by omega) (Nat.le_of_ble_eq_true rfl) (by show _ ≤ 32; omega) dX1_init_6 (fun q_1 H hP hD hS => ?_)
  refine W.widen (k := 1) (n := 32) (Nat.le_of_ble_eq_true rfl) (by omega) ?_
  have hP : va_P D vwCl [(h, .inr (2, [.null, .int (nI 0)])), (q_1, .inl (t 1, n, .inl (fun _ => (0 : Int32))))] H := hP
  have hD : va_D A [(h, .inr (2, [.null, .int (nI 0)])), (q_1, .inl (t 1, n, .inl (fun _ => (0 : Int32))))] := hD
  refine va_putF (D := D) (ci := 2) (v := .ref q_1) (ty := .array .byte) (C := RX1) (T := TX1) (N := 2) hx hb hts i_X1_init_X1 tyX1 tyX1_ok nmX1 hown hK hP hD hS 0 rfl rfl 0 (by decide) (hts (.fieldLink RX1 9 "MemoryMap$Copy" "octets" "[B") (List.mem_of_getElem? (i := 5) rfl)) (fun _ h9 => h9) rfl hin rfl (by decide +kernel) rfl rfl (Nat.le_of_ble_eq_true rfl) dX1_init_8 (fun H locs hP hD hS => ?_)
  have hP : va_P D vwCl [(h, .inr (2, [.ref q_1, .int (nI 0)])), (q_1, .inl (t 1, n, .inl (fun _ => (0 : Int32))))] H := hP
  have hD : va_D A [(h, .inr (2, [.ref q_1, .int (nI 0)])), (q_1, .inl (t 1, n, .inl (fun _ => (0 : Int32))))] := hD
  refine lv_aload_n hx hb dX1_init_11 rfl (lv_at hl 0 rfl) ?_
  refine lv_aload_n hx hb dX1_init_12 rfl (lv_at hl 0 rfl) ?_
  refine va_get (D := D) (ci := 2) (v := .ref q_1) (C := RX1) (T := TX1) (N := 2) hx hb hts i_X1_init_X1 hown hK hP 0 rfl rfl 0 (by decide) (hts (.fieldLink RX1 9 "MemoryMap$Copy" "octets" "[B") (List.mem_of_getElem? (i := 5) rfl)) (fun _ h9 => h9) rfl dX1_init_13 ?_
  refine vp_callSi (va_Run.run (va_runS (As := [.ref q_1]) (rest := [.ref h]) ⟨hx, hb, hml, hown, hts⟩ (c_X1_sumOf l D t q_1 n (fun _ => (0 : Int32)) hn _) (va_cwS 1 hts gX1_init_X1_sumOf rfl rfl rfl (by decide +kernel) ⟨Nat.le_of_ble_eq_true rfl, Nat.le_of_ble_eq_true rfl⟩) (preS hP hD hK hN [1] rfl (by decide)) rfl rfl hl.1 rfl (lv_room (Nat.le_of_ble_eq_true rfl)) dX1_init_16 ⟨Nat.le_of_ble_eq_true rfl, Nat.le_of_ble_eq_true rfl⟩)) (fun r hw => ?_)
  subst hw
  refine va_put (D := D) (ci := 2) (v := .int (sumF (fun _ => (0 : Int32)) n)) (ty := .int) (C := RX1) (T := TX1) (N := 2) hx hb hts i_X1_init_X1 tyX1 tyX1_ok nmX1 hown hK hP hD hS 0 rfl rfl 1 (by decide) (hts (.fieldLink RX1 19 "MemoryMap$Copy" "sum" "I") (List.mem_of_getElem? (i := 6) rfl)) (fun _ h9 => h9) rfl (by decide +kernel) rfl rfl (Nat.le_of_ble_eq_true rfl) dX1_init_19 (fun H locs hP hD hS => ?_)
  have hP : va_P D vwCl [(h, .inr (2, [.ref q_1, .int (sumF (fun _ => (0 : Int32)) n)])), (q_1, .inl (t 1, n, .inl (fun _ => (0 : Int32))))] H := hP
  have hD : va_D A [(h, .inr (2, [.ref q_1, .int (sumF (fun _ => (0 : Int32)) n)])), (q_1, .inl (t 1, n, .inl (fun _ => (0 : Int32))))] := hD
  exact ret_Mv hx hb hr hlk (q_1) (trivial) hP hD hS (Nat.le_of_ble_eq_true rfl) (Nat.le_of_ble_eq_true rfl) dX1_init_22

theorem i_X1_isGood_X1 : ∀ w ∈ wsX10, w ∈ wsX1_isGood := by decide +kernel
abbrev rm_X1_isGood : Room := { frames := 1, cells := 0, slots := 0, locals := 23 }
set_option maxHeartbeats 1000000 in
set_option maxRecDepth 100000 in
theorem c_X1_isGood (l : Launch) (D : va_G) (t : Nat → ClassId) (h a n : Nat) (f : Nat → Int32) (sm : Int32) (hn : n ≤ 32) : Qi l yX1_isGood wsX1_isGood rm_X1_isGood D (TY t) [.ref h] [(h, .inr (2, [.ref a, .int sm])), (a, .inl (t 1, n, .inl f))] (fun r => (r = nI 1 ∧ sm = sumF f n) ∨ (r = nI 0 ∧ sm ≠ sumF f n)) := by
  refine start_Qi cX1_isGood 1 (some .boolean) (by decide) rfl (Nat.le_of_ble_eq_true rfl) ?_
  intro p e s m below meth c ls B hP hD hl
  obtain ⟨hx, hb, hr, hts, hown, hlk, hml, hN, hK⟩ := B
  have hl : lv_has ls 1 [(0, .ref h)] := hl
  refine lv_aload_n hx hb dX1_isGood_0 rfl (lv_at hl 0 rfl) ?_
  refine va_get (D := D) (ci := 2) (v := .int sm) (C := RX1) (T := TX1) (N := 2) hx hb hts i_X1_isGood_X1 hown hK hP 0 rfl rfl 1 (by decide) (hts (.fieldLink RX1 19 "MemoryMap$Copy" "sum" "I") (List.mem_of_getElem? (i := 1) rfl)) (fun _ h9 => h9) rfl dX1_isGood_1 ?_
  refine lv_aload_n hx hb dX1_isGood_4 rfl (lv_at hl 0 rfl) ?_
  refine va_get (D := D) (ci := 2) (v := .ref a) (C := RX1) (T := TX1) (N := 2) hx hb hts i_X1_isGood_X1 hown hK hP 0 rfl rfl 0 (by decide) (hts (.fieldLink RX1 9 "MemoryMap$Copy" "octets" "[B") (List.mem_of_getElem? (i := 2) rfl)) (fun _ h9 => h9) rfl dX1_isGood_5 ?_
  refine vp_callSi (va_Run.run (va_runS (As := [.ref a]) (rest := [.int sm]) ⟨hx, hb, hml, hown, hts⟩ (c_X1_sumOf l D t a n f hn _) (va_cwS 1 hts gX1_isGood_X1_sumOf rfl rfl rfl (by decide +kernel) ⟨Nat.le_of_ble_eq_true rfl, Nat.le_of_ble_eq_true rfl⟩) (preS hP hD hK hN [1] rfl (by decide)) rfl rfl hl.1 rfl (lv_room (Nat.le_of_ble_eq_true rfl)) dX1_isGood_8 ⟨Nat.le_of_ble_eq_true rfl, Nat.le_of_ble_eq_true rfl⟩)) (fun r hw => ?_)
  subst hw
  refine lv_icmp_ne (tgt := 18) hx hb dX1_isGood_11 (by decide) (fun c1 => ?_) (fun c1 => ?_)
  · refine lv_iconst (v := (nI 0)) hx hb dX1_isGood_18 (by decide) ?_
    exact ret_Qz hx hb hr hlk rfl (Or.inr ⟨rfl, c1⟩) dX1_isGood_19
  · refine lv_iconst (v := (nI 1)) hx hb dX1_isGood_14 (by decide) ?_
    refine lv_goto (tgt := 19) hx hb dX1_isGood_15 (by decide) ?_
    exact ret_Qz hx hb hr hlk rfl (Or.inl ⟨rfl, c1⟩) dX1_isGood_19

theorem i_X1_setOctet_X1 : ∀ w ∈ wsX10, w ∈ wsX1_setOctet := by decide +kernel
abbrev rm_X1_setOctet : Room := { frames := 1, cells := 0, slots := 0, locals := 23 }
set_option maxHeartbeats 1000000 in
set_option maxRecDepth 100000 in
theorem c_X1_setOctet (l : Launch) (D : va_G) (t : Nat → ClassId) (h a n i : Nat) (f : Nat → Int32) (sm b : Int32) (hn : n ≤ 32) (hi : i < n) : Mv l yX1_setOctet wsX1_setOctet rm_X1_setOctet D (TY t) [.ref h, .int (nI i), .int b] [(h, .inr (2, [.ref a, .int sm])), (a, .inl (t 1, n, .inl f))] (S := Unit) (fun _ : Unit => True) (fun _ => [(h, .inr (2, [.ref a, .int (sumF (upd f i (b.toInt8.toInt32)) n)])), (a, .inl (t 1, n, .inl (upd f i (b.toInt8.toInt32))))]) := by
  refine start_Mv cX1_setOctet 3 none (by decide) rfl (Nat.le_of_ble_eq_true rfl) ?_
  intro p e s m below meth c A ls B hin hP hD hS hA hl
  obtain ⟨hx, hb, hr, hts, hown, hlk, hml, hN, hK⟩ := B
  have hl : lv_has ls 3 [(0, .ref h), (1, .int (nI i)), (2, .int b)] := hl
  refine lv_aload_n hx hb dX1_setOctet_0 rfl (lv_at hl 0 rfl) ?_
  refine va_get (D := D) (ci := 2) (v := .ref a) (C := RX1) (T := TX1) (N := 2) hx hb hts i_X1_setOctet_X1 hown hK hP 0 rfl rfl 0 (by decide) (hts (.fieldLink RX1 9 "MemoryMap$Copy" "octets" "[B") (List.mem_of_getElem? (i := 1) rfl)) (fun _ h9 => h9) rfl dX1_setOctet_1 ?_
  refine lv_iload_n hx hb dX1_setOctet_4 rfl (lv_at hl 1 rfl) ?_
  refine lv_iload_n hx hb dX1_setOctet_5 rfl (lv_at hl 2 rfl) ?_
  refine r_bastI hx hb hK hP hD hS 1 1 rfl rfl (i := i) (by omega) (by omega) dX1_setOctet_6 (fun H locs hP hD hS => ?_)
  have hP : va_P D vwCl [(h, .inr (2, [.ref a, .int sm])), (a, .inl (t 1, n, .inl (upd f i (b.toInt8.toInt32))))] H := hP
  have hD : va_D A [(h, .inr (2, [.ref a, .int sm])), (a, .inl (t 1, n, .inl (upd f i (b.toInt8.toInt32))))] := hD
  refine lv_aload_n hx hb dX1_setOctet_7 rfl (lv_at hl 0 rfl) ?_
  refine lv_aload_n hx hb dX1_setOctet_8 rfl (lv_at hl 0 rfl) ?_
  refine va_get (D := D) (ci := 2) (v := .ref a) (C := RX1) (T := TX1) (N := 2) hx hb hts i_X1_setOctet_X1 hown hK hP 0 rfl rfl 0 (by decide) (hts (.fieldLink RX1 9 "MemoryMap$Copy" "octets" "[B") (List.mem_of_getElem? (i := 1) rfl)) (fun _ h9 => h9) rfl dX1_setOctet_9 ?_
  refine vp_callSi (va_Run.run (va_runS (As := [.ref a]) (rest := [.ref h]) ⟨hx, hb, hml, hown, hts⟩ (c_X1_sumOf l D t a n (upd f i (b.toInt8.toInt32)) hn _) (va_cwS 1 hts gX1_setOctet_X1_sumOf rfl rfl rfl (by decide +kernel) ⟨Nat.le_of_ble_eq_true rfl, Nat.le_of_ble_eq_true rfl⟩) (preS hP hD hK hN [1] rfl (by decide)) rfl rfl hl.1 rfl (lv_room (Nat.le_of_ble_eq_true rfl)) dX1_setOctet_12 ⟨Nat.le_of_ble_eq_true rfl, Nat.le_of_ble_eq_true rfl⟩)) (fun r hw => ?_)
  subst hw
  refine va_put (D := D) (ci := 2) (v := .int (sumF (upd f i (b.toInt8.toInt32)) n)) (ty := .int) (C := RX1) (T := TX1) (N := 2) hx hb hts i_X1_setOctet_X1 tyX1 tyX1_ok nmX1 hown hK hP hD hS 0 rfl rfl 1 (by decide) (hts (.fieldLink RX1 19 "MemoryMap$Copy" "sum" "I") (List.mem_of_getElem? (i := 2) rfl)) (fun _ h9 => h9) rfl (by decide +kernel) rfl rfl (Nat.le_of_ble_eq_true rfl) dX1_setOctet_15 (fun H locs hP hD hS => ?_)
  have hP : va_P D vwCl [(h, .inr (2, [.ref a, .int (sumF (upd f i (b.toInt8.toInt32)) n)])), (a, .inl (t 1, n, .inl (upd f i (b.toInt8.toInt32))))] H := hP
  have hD : va_D A [(h, .inr (2, [.ref a, .int (sumF (upd f i (b.toInt8.toInt32)) n)])), (a, .inl (t 1, n, .inl (upd f i (b.toInt8.toInt32))))] := hD
  exact ret_Mv hx hb hr hlk (()) (trivial) hP hD hS (Nat.le_of_ble_eq_true rfl) (Nat.le_of_ble_eq_true rfl) dX1_setOctet_18

theorem i_X1_flip_X1 : ∀ w ∈ wsX10, w ∈ wsX1_flip := by decide +kernel
abbrev rm_X1_flip : Room := { frames := 0, cells := 0, slots := 0, locals := 0 }
set_option maxHeartbeats 1000000 in
set_option maxRecDepth 100000 in
theorem c_X1_flip (l : Launch) (D : va_G) (t : Nat → ClassId) (h a n i : Nat) (f : Nat → Int32) (sm mk : Int32) (hn : n ≤ 32) (hi : i < n) : Mi l yX1_flip wsX1_flip rm_X1_flip D (TY t) [.ref h, .int (nI i), .int mk] [(h, .inr (2, [.ref a, .int sm])), (a, .inl (t 1, n, .inl f))] (S := Nat → Int32) (fun r (u : Nat → Int32) => u = upd f i ((f i ^^^ mk).toInt8.toInt32) ∧ r = (f i ^^^ mk).toInt8.toInt32 &&& nI 255) (fun u => [(h, .inr (2, [.ref a, .int sm])), (a, .inl (t 1, n, .inl u))]) := by
  refine start_Mi cX1_flip 3 (some .int) (by decide) rfl (Nat.le_of_ble_eq_true rfl) ?_
  intro p e s m below meth c A ls B hin hP hD hS hA hl
  obtain ⟨hx, hb, hr, hts, hown, hlk, hml, hN, hK⟩ := B
  have hl : lv_has ls 3 [(0, .ref h), (1, .int (nI i)), (2, .int mk)] := hl
  refine lv_aload_n hx hb dX1_flip_0 rfl (lv_at hl 0 rfl) ?_
  refine va_get (D := D) (ci := 2) (v := .ref a) (C := RX1) (T := TX1) (N := 2) hx hb hts i_X1_flip_X1 hown hK hP 0 rfl rfl 0 (by decide) (hts (.fieldLink RX1 9 "MemoryMap$Copy" "octets" "[B") (List.mem_of_getElem? (i := 1) rfl)) (fun _ h9 => h9) rfl dX1_flip_1 ?_
  refine lv_iload_n hx hb dX1_flip_4 rfl (lv_at hl 1 rfl) ?_
  refine lv_aload_n hx hb dX1_flip_5 rfl (lv_at hl 0 rfl) ?_
  refine va_get (D := D) (ci := 2) (v := .ref a) (C := RX1) (T := TX1) (N := 2) hx hb hts i_X1_flip_X1 hown hK hP 0 rfl rfl 0 (by decide) (hts (.fieldLink RX1 9 "MemoryMap$Copy" "octets" "[B") (List.mem_of_getElem? (i := 1) rfl)) (fun _ h9 => h9) rfl dX1_flip_6 ?_
  refine lv_iload_n hx hb dX1_flip_9 rfl (lv_at hl 1 rfl) ?_
  refine r_baldI hx hb hK hP 1 1 rfl rfl (i := i) (by omega) (by omega) dX1_flip_10 ?_
  refine lv_iload_n hx hb dX1_flip_11 rfl (lv_at hl 2 rfl) ?_
  refine lv_ixor hx hb dX1_flip_12 ?_
  refine lv_i2b hx hb dX1_flip_13 rfl ?_
  refine r_bastI hx hb hK hP hD hS 1 1 rfl rfl (i := i) (by omega) (by omega) dX1_flip_14 (fun H locs hP hD hS => ?_)
  have hP : va_P D vwCl [(h, .inr (2, [.ref a, .int sm])), (a, .inl (t 1, n, .inl (upd f i (((((((((f i))) ^^^ mk))).toInt8.toInt32)).toInt8.toInt32))))] H := hP
  have hD : va_D A [(h, .inr (2, [.ref a, .int sm])), (a, .inl (t 1, n, .inl (upd f i (((((((((f i))) ^^^ mk))).toInt8.toInt32)).toInt8.toInt32))))] := hD
  refine lv_aload_n hx hb dX1_flip_15 rfl (lv_at hl 0 rfl) ?_
  refine va_get (D := D) (ci := 2) (v := .ref a) (C := RX1) (T := TX1) (N := 2) hx hb hts i_X1_flip_X1 hown hK hP 0 rfl rfl 0 (by decide) (hts (.fieldLink RX1 9 "MemoryMap$Copy" "octets" "[B") (List.mem_of_getElem? (i := 1) rfl)) (fun _ h9 => h9) rfl dX1_flip_16 ?_
  refine lv_iload_n hx hb dX1_flip_19 rfl (lv_at hl 1 rfl) ?_
  refine r_baldI hx hb hK hP 1 1 rfl rfl (i := i) (by omega) (by omega) dX1_flip_20 ?_
  refine lv_sipush (v := (nI 255)) hx hb dX1_flip_21 (by decide) ?_
  refine lv_iand hx hb dX1_flip_24 ?_
  exact ret_Mi hx hb hr hlk (upd f i ((f i ^^^ mk).toInt8.toInt32.toInt8.toInt32)) (by rw [byte2, upd_at]; exact ⟨rfl, rfl⟩) hP hD hS (Nat.le_of_ble_eq_true rfl) (Nat.le_of_ble_eq_true rfl) dX1_flip_25

abbrev rm_J7_fill_031fb : Room := { frames := 0, cells := 0, slots := 0, locals := 0 }
set_option maxHeartbeats 1000000 in
set_option maxRecDepth 100000 in
theorem c_J7_fill_031fb (l : Launch) (D : va_G) (t : Nat → ClassId) (a n : Nat) (f : Nat → Int32) (b : Int32) (hn : n ≤ 32) : Mv l yJ7_fill_031fb wsJ7_fill_031fb rm_J7_fill_031fb D (TY t) [.ref a, .int b] [(a, .inl (t 1, n, .inl f))] (S := Nat → Int32) (fun u : Nat → Int32 => (∀ j, j < n → u j = b.toInt8.toInt32) ∧ ∀ j, n ≤ j → u j = f j) (fun u => [(a, .inl (t 1, n, .inl u))]) := by
  refine start_Mv cJ7_fill_031fb 4 none (by decide) rfl (Nat.le_of_ble_eq_true rfl) ?_
  intro p e s m below meth c A ls B hin hP hD hS hA hl
  obtain ⟨hx, hb, hr, hts, hown, hlk, hml, hN, hK⟩ := B
  have hl : lv_has ls 4 [(0, .ref a), (1, .int b)] := hl
  refine lv_iconst (v := (nI 0)) hx hb dJ7_fill_031fb_0 (by decide) ?_
  refine lv_istore_n (lv' := [(2, .int (nI 0)), (0, .ref a), (1, .int b)]) hx hb dJ7_fill_031fb_1 rfl hl (by decide) rfl (fun ls hl => ?_)
  refine lv_aload_n hx hb dJ7_fill_031fb_2 rfl (lv_at hl 1 rfl) ?_
  refine va_alen (v := nI n) hx hb hK hP 0 1 rfl rfl rfl dJ7_fill_031fb_3 ?_
  refine lv_istore_n (lv' := [(3, .int (nI n)), (2, .int (nI 0)), (0, .ref a), (1, .int b)]) hx hb dJ7_fill_031fb_4 rfl hl (by decide) rfl (fun ls hl => ?_)
  refine W_loop (σ := Nat × (Nat → Int32)) (fun x => n - x.1) (fun x H locs ls => match x with | (i, g) => va_P D vwCl [(a, .inl (t 1, n, .inl g))] H ∧ va_D A [(a, .inl (t 1, n, .inl g))] ∧ va_S A s.heap H locs ∧ lv_has ls 4 [(3, .int (nI n)), (2, .int (nI i)), (0, .ref a), (1, .int b)] ∧ i ≤ n ∧ (∀ j, j < i → g j = b.toInt8.toInt32) ∧ ∀ j, n ≤ j → g j = f j) ?_ (0, f) _ _ _ ⟨hP, hD, hS, hl, Nat.zero_le _, fun j hj => absurd hj (Nat.not_lt_zero _), fun _ _ => rfl⟩
  rintro ⟨i, g⟩ H locs ls ⟨hP, hD, hS, hl, hi, h1, h2⟩ ih
  refine lv_iload_n hx hb dJ7_fill_031fb_5 rfl (lv_at hl 1 rfl) ?_
  refine lv_iload_n hx hb dJ7_fill_031fb_6 rfl (lv_at hl 0 rfl) ?_
  refine r_icmp_ge (x := i) (y := n) (tgt := 20) hx hb (by omega) (by omega) dJ7_fill_031fb_7 (by decide) (fun c1 => ?_) (fun c1 => ?_)
  · exact ret_Mv hx hb hr hlk (g) (⟨fun j hj => h1 j (by omega), h2⟩) hP hD hS (Nat.le_of_ble_eq_true rfl) (Nat.le_of_ble_eq_true rfl) dJ7_fill_031fb_20
  · refine lv_aload_n hx hb dJ7_fill_031fb_10 rfl (lv_at hl 2 rfl) ?_
    refine lv_iload_n hx hb dJ7_fill_031fb_11 rfl (lv_at hl 1 rfl) ?_
    refine lv_iload_n hx hb dJ7_fill_031fb_12 rfl (lv_at hl 3 rfl) ?_
    refine r_bastI hx hb hK hP hD hS 0 1 rfl rfl (i := i) (by omega) (by omega) dJ7_fill_031fb_13 (fun H locs hP hD hS => ?_)
    have hP : va_P D vwCl [(a, .inl (t 1, n, .inl (upd g i (b.toInt8.toInt32))))] H := hP
    have hD : va_D A [(a, .inl (t 1, n, .inl (upd g i (b.toInt8.toInt32))))] := hD
    refine lv_iinc (v := (nI (i + 1))) (lv' := [(2, .int (nI (i + 1))), (3, .int (nI n)), (0, .ref a), (1, .int b)]) hx hb dJ7_fill_031fb_14 hl (k := 1) rfl (r_inc1 _) (by decide) rfl (fun ls hl => ?_)
    refine lv_goto (tgt := 5) hx hb dJ7_fill_031fb_17 (by decide) ?_
    refine ih (i + 1, upd g i (b.toInt8.toInt32)) _ _ _ ⟨hP, hD, hS, lv_sub hl [1, 0, 2, 3] rfl, by omega, fun j hj => ?_, fun j hj => ?_⟩ (by show n - (i + 1) < n - i; omega)
    · rcases Nat.lt_succ_iff_lt_or_eq.mp hj with q | rfl
      · rw [pk_un (by omega)]; exact h1 j q
      · exact upd_at
    · rw [pk_un (by omega)]; exact h2 j hj

theorem i_X1_clear_X1 : ∀ w ∈ wsX10, w ∈ wsX1_clear := by decide +kernel
abbrev rm_X1_clear : Room := { frames := 1, cells := 0, slots := 0, locals := 23 }
set_option maxHeartbeats 1000000 in
set_option maxRecDepth 100000 in
theorem c_X1_clear (l : Launch) (D : va_G) (t : Nat → ClassId) (h a n : Nat) (f : Nat → Int32) (sm : Int32) (hn : n ≤ 32) : Mv l yX1_clear wsX1_clear rm_X1_clear D (TY t) [.ref h] [(h, .inr (2, [.ref a, .int sm])), (a, .inl (t 1, n, .inl f))] (S := Nat → Int32) (fun u : Nat → Int32 => (∀ j, j < n → u j = 0) ∧ ∀ j, n ≤ j → u j = f j) (fun u => [(h, .inr (2, [.ref a, .int (sumF u n)])), (a, .inl (t 1, n, .inl u))]) := by
  refine start_Mv cX1_clear 1 none (by decide) rfl (Nat.le_of_ble_eq_true rfl) ?_
  intro p e s m below meth c A ls B hin hP hD hS hA hl
  obtain ⟨hx, hb, hr, hts, hown, hlk, hml, hN, hK⟩ := B
  have hl : lv_has ls 1 [(0, .ref h)] := hl
  refine lv_aload_n hx hb dX1_clear_0 rfl (lv_at hl 0 rfl) ?_
  refine va_get (D := D) (ci := 2) (v := .ref a) (C := RX1) (T := TX1) (N := 2) hx hb hts i_X1_clear_X1 hown hK hP 0 rfl rfl 0 (by decide) (hts (.fieldLink RX1 9 "MemoryMap$Copy" "octets" "[B") (List.mem_of_getElem? (i := 1) rfl)) (fun _ h9 => h9) rfl dX1_clear_1 ?_
  refine lv_iconst (v := (nI 0)) hx hb dX1_clear_4 (by decide) ?_
  refine call_Mv (wr := [(h, .inr (2, [.ref a, .int sm]))]) (wn := fun g : Nat → Int32 => [(h, .inr (2, [.ref a, .int sm])), (a, .inl (t 1, n, .inl g))]) (va_runS (As := [.ref a, .int (nI 0)]) (rest := []) ⟨hx, hb, hml, hown, hts⟩ (c_J7_fill_031fb l D t a n f (nI 0) hn _) (va_cwS 2 hts gX1_clear_J7_fill_031fb rfl rfl rfl (by decide +kernel) ⟨Nat.le_of_ble_eq_true rfl, Nat.le_of_ble_eq_true rfl⟩) (preS hP hD hK hN [1] rfl (by decide)) rfl rfl hl.1 rfl (lv_room (Nat.le_of_ble_eq_true rfl)) dX1_clear_5 ⟨Nat.le_of_ble_eq_true rfl, Nat.le_of_ble_eq_true rfl⟩) hP hD hS hA [1] [0] [0, 1] rfl rfl (by decide) (by decide) (fun _ => rfl) (by decide) (fun g H locs hw hP hD hS hz => ?_)
  have hP : va_P D vwCl [(h, .inr (2, [.ref a, .int sm])), (a, .inl (t 1, n, .inl g))] H := hP
  have hD : va_D A [(h, .inr (2, [.ref a, .int sm])), (a, .inl (t 1, n, .inl g))] := hD
  refine lv_aload_n hx hb dX1_clear_8 rfl (lv_at hl 0 rfl) ?_
  refine lv_aload_n hx hb dX1_clear_9 rfl (lv_at hl 0 rfl) ?_
  refine va_get (D := D) (ci := 2) (v := .ref a) (C := RX1) (T := TX1) (N := 2) hx hb hts i_X1_clear_X1 hown hK hP 0 rfl rfl 0 (by decide) (hts (.fieldLink RX1 9 "MemoryMap$Copy" "octets" "[B") (List.mem_of_getElem? (i := 1) rfl)) (fun _ h9 => h9) rfl dX1_clear_10 ?_
  refine vp_callSi (va_Run.run (va_runS (As := [.ref a]) (rest := [.ref h]) ⟨hx, hb, hml, hown, hts⟩ (c_X1_sumOf l D t a n g hn _) (va_cwS 1 hts gX1_clear_X1_sumOf rfl rfl rfl (by decide +kernel) ⟨Nat.le_of_ble_eq_true rfl, Nat.le_of_ble_eq_true rfl⟩) (preS hP hD hK hN [1] rfl (by decide)) rfl rfl hl.1 rfl (lv_room (Nat.le_of_ble_eq_true rfl)) dX1_clear_13 ⟨Nat.le_of_ble_eq_true rfl, Nat.le_of_ble_eq_true rfl⟩)) (fun r hw2 => ?_)
  subst hw2
  refine va_put (D := D) (ci := 2) (v := .int (sumF g n)) (ty := .int) (C := RX1) (T := TX1) (N := 2) hx hb hts i_X1_clear_X1 tyX1 tyX1_ok nmX1 hown hK hP hD hS 0 rfl rfl 1 (by decide) (hts (.fieldLink RX1 19 "MemoryMap$Copy" "sum" "I") (List.mem_of_getElem? (i := 2) rfl)) (fun _ h9 => h9) rfl (by decide +kernel) rfl rfl (Nat.le_of_ble_eq_true rfl) dX1_clear_16 (fun H locs hP hD hS => ?_)
  have hP : va_P D vwCl [(h, .inr (2, [.ref a, .int (sumF g n)])), (a, .inl (t 1, n, .inl g))] H := hP
  have hD : va_D A [(h, .inr (2, [.ref a, .int (sumF g n)])), (a, .inl (t 1, n, .inl g))] := hD
  exact ret_Mv hx hb hr hlk (g) (hw) hP hD hS (Nat.le_of_ble_eq_true rfl) (Nat.le_of_ble_eq_true rfl) dX1_clear_19

theorem i_X1_become_X1 : ∀ w ∈ wsX10, w ∈ wsX1_become := by decide +kernel
abbrev rm_X1_become : Room := { frames := 1, cells := 0, slots := 0, locals := 40 }
set_option maxHeartbeats 1000000 in
set_option maxRecDepth 100000 in
theorem c_X1_become (l : Launch) (D : va_G) (t : Nat → ClassId) (h a h2 a2 n : Nat) (f g : Nat → Int32) (sm s2 : Int32) (hn : n ≤ 32) (hg : sb_Fit g) : Mv l yX1_become wsX1_become rm_X1_become D (TY t) [.ref h, .ref h2] [(h, .inr (2, [.ref a, .int sm])), (a, .inl (t 1, n, .inl f)), (h2, .inr (2, [.ref a2, .int s2])), (a2, .inl (t 1, n, .inl g))] (S := Nat → Int32) (fun u : Nat → Int32 => (∀ j, j < n → u j = g j) ∧ ∀ j, n ≤ j → u j = f j) (fun u => [(h, .inr (2, [.ref a, .int s2])), (a, .inl (t 1, n, .inl u)), (h2, .inr (2, [.ref a2, .int s2])), (a2, .inl (t 1, n, .inl g))]) := by
  refine start_Mv cX1_become 2 none (by decide) rfl (Nat.le_of_ble_eq_true rfl) ?_
  intro p e s m below meth c A ls B hin hP hD hS hA hl
  obtain ⟨hx, hb, hr, hts, hown, hlk, hml, hN, hK⟩ := B
  have hl : lv_has ls 2 [(0, .ref h), (1, .ref h2)] := hl
  refine lv_aload_n hx hb dX1_become_0 rfl (lv_at hl 1 rfl) ?_
  refine va_get (D := D) (ci := 2) (v := .ref a2) (C := RX1) (T := TX1) (N := 2) hx hb hts i_X1_become_X1 hown hK hP 2 rfl rfl 0 (by decide) (hts (.fieldLink RX1 9 "MemoryMap$Copy" "octets" "[B") (List.mem_of_getElem? (i := 1) rfl)) (fun _ h9 => h9) rfl dX1_become_1 ?_
  refine lv_iconst (v := (nI 0)) hx hb dX1_become_4 (by decide) ?_
  refine lv_aload_n hx hb dX1_become_5 rfl (lv_at hl 0 rfl) ?_
  refine va_get (D := D) (ci := 2) (v := .ref a) (C := RX1) (T := TX1) (N := 2) hx hb hts i_X1_become_X1 hown hK hP 0 rfl rfl 0 (by decide) (hts (.fieldLink RX1 9 "MemoryMap$Copy" "octets" "[B") (List.mem_of_getElem? (i := 1) rfl)) (fun _ h9 => h9) rfl dX1_become_6 ?_
  refine lv_iconst (v := (nI 0)) hx hb dX1_become_9 (by decide) ?_
  refine lv_aload_n hx hb dX1_become_10 rfl (lv_at hl 0 rfl) ?_
  refine va_get (D := D) (ci := 2) (v := .ref a) (C := RX1) (T := TX1) (N := 2) hx hb hts i_X1_become_X1 hown hK hP 0 rfl rfl 0 (by decide) (hts (.fieldLink RX1 9 "MemoryMap$Copy" "octets" "[B") (List.mem_of_getElem? (i := 1) rfl)) (fun _ h9 => h9) rfl dX1_become_11 ?_
  refine va_alen (v := nI n) hx hb hK hP 1 1 rfl rfl rfl dX1_become_14 ?_
  refine va_copyi hx hb (by rw [hml]; exact hl.1.symm) hown (hts (.methodLink RX1 23 arraycopyName) (List.mem_of_getElem? (i := 2) rfl)) (hts (.native arraycopyName) (List.mem_of_getElem? (i := 3) rfl)) (hts (.static arraycopyName) (List.mem_of_getElem? (i := 4) rfl)) (hts (.initialized "java/lang/System") (List.mem_of_getElem? (i := 5) rfl)) hK hP hD hS 3 1 1 1 rfl rfl rfl rfl rfl (nI_pos (by decide)) (nI_pos (by decide)) (nI_pos (by omega)) (by rw [nI_clamp (by decide), nI_clamp (by omega)]; omega) (by rw [nI_clamp (by decide), nI_clamp (by omega)]; omega) (fun i hi => hg _) (Nat.le_of_ble_eq_true rfl) (Nat.le_of_ble_eq_true rfl) dX1_become_15 (fun H locs hP hD hS => ?_)
  rw [nI_clamp (show 0 < 2 ^ 31 by decide), nI_clamp (show n < 2 ^ 31 by omega)] at hP hD
  have hP : va_P D vwCl [(h, .inr (2, [.ref a, .int sm])), (a, .inl (t 1, n, .inl (va_cpy g f 0 0 n))), (h2, .inr (2, [.ref a2, .int s2])), (a2, .inl (t 1, n, .inl g))] H := hP
  have hD : va_D A [(h, .inr (2, [.ref a, .int sm])), (a, .inl (t 1, n, .inl (va_cpy g f 0 0 n))), (h2, .inr (2, [.ref a2, .int s2])), (a2, .inl (t 1, n, .inl g))] := hD
  refine lv_aload_n hx hb dX1_become_18 rfl (lv_at hl 0 rfl) ?_
  refine lv_aload_n hx hb dX1_become_19 rfl (lv_at hl 1 rfl) ?_
  refine va_get (D := D) (ci := 2) (v := .int s2) (C := RX1) (T := TX1) (N := 2) hx hb hts i_X1_become_X1 hown hK hP 2 rfl rfl 1 (by decide) (hts (.fieldLink RX1 19 "MemoryMap$Copy" "sum" "I") (List.mem_of_getElem? (i := 6) rfl)) (fun _ h9 => h9) rfl dX1_become_20 ?_
  refine va_put (D := D) (ci := 2) (v := .int s2) (ty := .int) (C := RX1) (T := TX1) (N := 2) hx hb hts i_X1_become_X1 tyX1 tyX1_ok nmX1 hown hK hP hD hS 0 rfl rfl 1 (by decide) (hts (.fieldLink RX1 19 "MemoryMap$Copy" "sum" "I") (List.mem_of_getElem? (i := 6) rfl)) (fun _ h9 => h9) rfl (by decide +kernel) rfl rfl (Nat.le_of_ble_eq_true rfl) dX1_become_23 (fun H locs hP hD hS => ?_)
  have hP : va_P D vwCl [(h, .inr (2, [.ref a, .int s2])), (a, .inl (t 1, n, .inl (va_cpy g f 0 0 n))), (h2, .inr (2, [.ref a2, .int s2])), (a2, .inl (t 1, n, .inl g))] H := hP
  have hD : va_D A [(h, .inr (2, [.ref a, .int s2])), (a, .inl (t 1, n, .inl (va_cpy g f 0 0 n))), (h2, .inr (2, [.ref a2, .int s2])), (a2, .inl (t 1, n, .inl g))] := hD
  exact ret_Mv hx hb hr hlk (va_cpy g f 0 0 n) (⟨fun j hj => by rw [pk_cpy_in (Nat.zero_le _) (by omega)]; simp, fun j hj => pk_cpy_out (Or.inr (by omega))⟩) hP hD hS (Nat.le_of_ble_eq_true rfl) (Nat.le_of_ble_eq_true rfl) dX1_become_26
