/-- how many of the bits 0 .. n -/
def popc (k : Nat) : Nat → Nat
  | 0 => if k.testBit 0 then 1 else 0
  | n + 1 => popc k n + (if k.testBit (n + 1) then 1 else 0)
def pcA (x : Nat) : Nat := x - (x / 2 &&& 1431655765)
def pcB (a : Nat) : Nat := (a &&& 858993459) + (a / 4 &&& 858993459)
def pcC (b : Nat) : Nat := (b + b / 16) &&& 252645135
def pcD (c : Nat) : Nat := c + c / 256
def pcE (d : Nat) : Nat := (d + d / 65536) &&& 63
theorem and_ch {a b m M : Nat} (ha : a < 256) (hm : m < 256) : (256 * b + a) &&& (256 * M + m) = 256 * (b &&& M) + (a &&& m) := by
  apply Nat.eq_of_testBit_eq
  intro i
  have e1 := Nat.testBit_two_pow_mul_add (i := 8) b (b := a) ha i
  have e2 := Nat.testBit_two_pow_mul_add (i := 8) M (b := m) hm i
  have h3 : a &&& m < 2 ^ 8 := Nat.lt_of_le_of_lt Nat.and_le_left ha
  have e3 := Nat.testBit_two_pow_mul_add (i := 8) (b &&& M) (b := a &&& m) h3 i
  rw [Nat.testBit_and, show 256 * b + a = 2 ^ 8 * b + a from rfl, show 256 * M + m = 2 ^ 8 * M + m from rfl, show 256 * (b &&& M) + (a &&& m) = 2 ^ 8 * (b &&& M) + (a &&& m) from rfl, e1, e2, e3]
  split <;> rw [Nat.testBit_and]
/-- four octets -/
def oc4 (y3 y2 y1 y0 : Nat) : Nat := 256 * (256 * (256 * y3 + y2) + y1) + y0
theorem and4 {y0 y1 y2 y3 : Nat} (m : Nat) (h0 : y0 < 256) (h1 : y1 < 256) (h2 : y2 < 256) (hm : m < 256) : oc4 y3 y2 y1 y0 &&& oc4 m m m m = oc4 (y3 &&& m) (y2 &&& m) (y1 &&& m) (y0 &&& m) := by
  unfold oc4
  rw [and_ch h0 hm, and_ch h1 hm, and_ch h2 hm]
/-- the three steps of an octet -/
def bA (b : Nat) : Nat := b - (b / 2 &&& 85)
def bB (a : Nat) : Nat := (a &&& 51) + (a / 4 &&& 51)
def bC (b : Nat) : Nat := (b + b / 16) &&& 15
theorem bA_ok : ∀ b, b < 256 → (b / 2 &&& 85) ≤ b ∧ ∀ c, c < 2 → ((b / 2 + 128 * c) &&& 85) = (b / 2 &&& 85) := by decide +kernel
theorem bB_ok : ∀ a, a < 256 → bB a < 256 ∧ ∀ c, c < 4 → ((a / 4 + 64 * c) &&& 51) = (a / 4 &&& 51) := by decide +kernel
theorem bC_ok : ∀ a, a < 256 → bB (bA a) % 16 ≤ 4 ∧ ∀ c, c < 5 → bB (bA a) + bB (bA a) / 16 + 16 * c < 256 ∧ ((bB (bA a) + bB (bA a) / 16 + 16 * c) &&& 15) = bC (bB (bA a)) := by decide +kernel
theorem pop8 : ∀ b, b < 256 → bC (bB (bA b)) = popc b 7 ∧ bC (bB (bA b)) ≤ 8 := by decide +kernel
theorem half4 {y0 y1 y2 y3 : Nat} (h0 : y0 < 256) (h1 : y1 < 256) (h2 : y2 < 256) : oc4 y3 y2 y1 y0 / 2 = oc4 (y3 / 2) (y2 / 2 + 128 * (y3 % 2)) (y1 / 2 + 128 * (y2 % 2)) (y0 / 2 + 128 * (y1 % 2)) := by unfold oc4; omega
theorem quar4 {y0 y1 y2 y3 : Nat} (h0 : y0 < 256) (h1 : y1 < 256) (h2 : y2 < 256) : oc4 y3 y2 y1 y0 / 4 = oc4 (y3 / 4) (y2 / 4 + 64 * (y3 % 4)) (y1 / 4 + 64 * (y2 % 4)) (y0 / 4 + 64 * (y1 % 4)) := by unfold oc4; omega
theorem sixt4 {y0 y1 y2 y3 : Nat} (h0 : y0 < 256) (h1 : y1 < 256) (h2 : y2 < 256) : oc4 y3 y2 y1 y0 + oc4 y3 y2 y1 y0 / 16 = oc4 (y3 + y3 / 16 + 16 * 0) (y2 + y2 / 16 + 16 * (y3 % 16)) (y1 + y1 / 16 + 16 * (y2 % 16)) (y0 + y0 / 16 + 16 * (y1 % 16)) := by unfold oc4; omega
theorem pcA4 {y0 y1 y2 y3 : Nat} (h0 : y0 < 256) (h1 : y1 < 256) (h2 : y2 < 256) (h3 : y3 < 256) : (oc4 y3 y2 y1 y0 / 2 &&& 1431655765) ≤ oc4 y3 y2 y1 y0 ∧ pcA (oc4 y3 y2 y1 y0) = oc4 (bA y3) (bA y2) (bA y1) (bA y0) := by
  have e : oc4 y3 y2 y1 y0 / 2 &&& 1431655765 = oc4 (y3 / 2 &&& 85) (y2 / 2 &&& 85) (y1 / 2 &&& 85) (y0 / 2 &&& 85) := by
    rw [half4 h0 h1 h2, show (1431655765 : Nat) = oc4 85 85 85 85 from rfl, and4 85 (by omega) (by omega) (by omega) (by decide)]
    rw [(bA_ok y2 h2).2 (y3 % 2) (by omega), (bA_ok y1 h1).2 (y2 % 2) (by omega), (bA_ok y0 h0).2 (y1 % 2) (by omega)]
  have a0 := (bA_ok y0 h0).1
  have a1 := (bA_ok y1 h1).1
  have a2 := (bA_ok y2 h2).1
  have a3 := (bA_ok y3 h3).1
  unfold pcA
  rw [e]
  unfold bA
  generalize (y0 / 2 &&& 85) = z0 at *
  generalize (y1 / 2 &&& 85) = z1 at *
  generalize (y2 / 2 &&& 85) = z2 at *
  generalize (y3 / 2 &&& 85) = z3 at *
  clear e
  unfold oc4
  omega
theorem bA_lt {b : Nat} (h : b < 256) : bA b < 256 := by unfold bA; omega
theorem pcB4 {y0 y1 y2 y3 : Nat} (h0 : y0 < 256) (h1 : y1 < 256) (h2 : y2 < 256) : pcB (oc4 y3 y2 y1 y0) = oc4 (bB y3) (bB y2) (bB y1) (bB y0) := by
  unfold pcB
  rw [quar4 h0 h1 h2, show (858993459 : Nat) = oc4 51 51 51 51 from rfl, and4 51 (by omega) (by omega) (by omega) (by decide), and4 51 (by omega) (by omega) (by omega) (by decide)]
  rw [(bB_ok y2 h2).2 (y3 % 4) (by omega), (bB_ok y1 h1).2 (y2 % 4) (by omega), (bB_ok y0 h0).2 (y1 % 4) (by omega)]
  unfold bB oc4
  omega
theorem pcC4 {y0 y1 y2 y3 : Nat} (h0 : y0 < 256) (h1 : y1 < 256) (h2 : y2 < 256) (h3 : y3 < 256) : pcC (oc4 (bB (bA y3)) (bB (bA y2)) (bB (bA y1)) (bB (bA y0))) = oc4 (bC (bB (bA y3))) (bC (bB (bA y2))) (bC (bB (bA y1))) (bC (bB (bA y0))) := by
  have c0 := bC_ok y0 h0
  have c1 := bC_ok y1 h1
  have c2 := bC_ok y2 h2
  have c3 := bC_ok y3 h3
  have d0 := c0.2 (bB (bA y1) % 16) (by omega)
  have d1 := c1.2 (bB (bA y2) % 16) (by omega)
  have d2 := c2.2 (bB (bA y3) % 16) (by omega)
  have d3 := c3.2 0 (by omega)
  unfold pcC
  rw [sixt4 (bB_ok _ (bA_lt h0)).1 (bB_ok _ (bA_lt h1)).1 (bB_ok _ (bA_lt h2)).1, show (252645135 : Nat) = oc4 15 15 15 15 from rfl, and4 15 d0.1 d1.1 d2.1 (by decide), d0.2, d1.2, d2.2, d3.2]
theorem pcE4 {y0 y1 y2 y3 : Nat} (h0 : y0 ≤ 8) (h1 : y1 ≤ 8) (h2 : y2 ≤ 8) (h3 : y3 ≤ 8) : pcE (pcD (oc4 y3 y2 y1 y0)) = y0 + y1 + y2 + y3 := by
  unfold pcE pcD
  rw [show (63 : Nat) = 2 ^ 6 - 1 from rfl, Nat.and_two_pow_sub_one_eq_mod]
  unfold oc4
  have e1 : (256 * (256 * (256 * y3 + y2) + y1) + y0) / 256 = 256 * (256 * y3 + y2) + y1 := by omega
  rw [e1]
  have e2 : (256 * (256 * (256 * y3 + y2) + y1) + y0 + (256 * (256 * y3 + y2) + y1)) / 65536 = 256 * y3 + (y2 + y3) := by omega
  rw [e2]
  omega
theorem popc_lo {y a : Nat} (ha : a < 256) : ∀ n, n < 8 → popc (256 * y + a) n = popc a n
  | 0, _ => by
    have e := Nat.testBit_two_pow_mul_add (i := 8) y (b := a) ha 0
    simp only [popc]
    rw [show 256 * y + a = 2 ^ 8 * y + a from rfl, e]
    rfl
  | n + 1, h => by
    have e := Nat.testBit_two_pow_mul_add (i := 8) y (b := a) ha (n + 1)
    have ih := popc_lo (y := y) ha n (by omega)
    simp only [popc]
    rw [ih, show 256 * y + a = 2 ^ 8 * y + a from rfl, e, if_pos h]
theorem popc_hi {y a : Nat} (ha : a < 256) : ∀ n, popc (256 * y + a) (8 + n) = popc a 7 + popc y n
  | 0 => by
    have e := Nat.testBit_two_pow_mul_add (i := 8) y (b := a) ha 8
    show popc (256 * y + a) 7 + _ = _
    rw [popc_lo ha 7 (by decide), show 256 * y + a = 2 ^ 8 * y + a from rfl, e]
    simp [popc]
  | n + 1 => by
    have e := Nat.testBit_two_pow_mul_add (i := 8) y (b := a) ha (8 + n + 1)
    show popc (256 * y + a) (8 + n) + (if (256 * y + a).testBit (8 + n + 1) then 1 else 0) = popc a 7 + (popc y n + (if y.testBit (n + 1) then 1 else 0))
    rw [if_neg (show ¬ (8 + n + 1 < 8) by omega), show 8 + n + 1 - 8 = n + 1 by omega] at e
    rw [popc_hi ha n, show 256 * y + a = 2 ^ 8 * y + a from rfl, e, Nat.add_assoc]
theorem pc_ok {x : Nat} (hx : x < 4294967296) : (x / 2 &&& 1431655765) ≤ x ∧ pcE (pcD (pcC (pcB (pcA x)))) = popc x 31 := by
  obtain ⟨y3, y2, y1, y0, h3, h2, h1, h0, rfl⟩ : ∃ y3 y2 y1 y0, y3 < 256 ∧ y2 < 256 ∧ y1 < 256 ∧ y0 < 256 ∧ x = oc4 y3 y2 y1 y0 := by
    refine ⟨x / 16777216, x / 65536 % 256, x / 256 % 256, x % 256, by omega, by omega, by omega, by omega, ?_⟩
    unfold oc4
    omega
  refine ⟨(pcA4 h0 h1 h2 h3).1, ?_⟩
  rw [(pcA4 h0 h1 h2 h3).2, pcB4 (bA_lt h0) (bA_lt h1) (bA_lt h2), pcC4 h0 h1 h2 h3, pcE4 (pop8 _ h0).2 (pop8 _ h1).2 (pop8 _ h2).2 (pop8 _ h3).2, (pop8 _ h0).1, (pop8 _ h1).1, (pop8 _ h2).1, (pop8 _ h3).1]
  unfold oc4
  rw [show (31 : Nat) = 8 + 23 from rfl, popc_hi h0, show (23 : Nat) = 8 + 15 from rfl, popc_hi h1, show (15 : Nat) = 8 + 7 from rfl, popc_hi h2]
  omega
abbrev rm_J6_bitCount_0f7a4 : Room := { frames := 0, cells := 0, slots := 0, locals := 0 }
set_option maxHeartbeats 1000000 in
set_option maxRecDepth 100000 in
theorem c_J6_bitCount_0f7a4 (l : Launch) (D : va_G) (t : Nat → ClassId) (k : Nat) (hk : k < 4294967296) : Qi l yJ6_bitCount_0f7a4 wsJ6_bitCount_0f7a4 rm_J6_bitCount_0f7a4 D (TY t) [.int (nI k)] [] (fun r => r = nI (popc k 31)) := by
  refine start_Qi cJ6_bitCount_0f7a4 1 (some .int) (by decide) rfl (Nat.le_of_ble_eq_true rfl) ?_
  intro p e s m below meth c ls B hP hD hl
  obtain ⟨hx, hb, hr, hts, hown, hlk, hml, hN, hK⟩ := B
  have hl : lv_has ls 1 [(0, .int (nI k))] := hl
  have hs := (pc_ok hk).1
  have hA1 : pcA k ≤ k := Nat.sub_le _ _
  have hB1 : pcB (pcA k) < 2000000000 := by have := Nat.and_le_right (n := pcA k) (m := 858993459); have := Nat.and_le_right (n := pcA k / 4) (m := 858993459); unfold pcB; omega
  have hC1 : pcC (pcB (pcA k)) ≤ 252645135 := Nat.and_le_right
  have hD1 : pcD (pcC (pcB (pcA k))) < 300000000 := by unfold pcD; omega
  refine lv_iload_n hx hb dJ6_bitCount_0f7a4_0 rfl (lv_at hl 0 rfl) ?_
  refine lv_iload_n hx hb dJ6_bitCount_0f7a4_1 rfl (lv_at hl 0 rfl) ?_
  refine lv_iconst (v := (nI 1)) hx hb dJ6_bitCount_0f7a4_2 (by decide) ?_
  refine lv_iushr (v := (((nI k)).toUInt32 >>> (((nI 1)).toUInt32 &&& Int32.toUInt32 31)).toInt32) hx hb dJ6_bitCount_0f7a4_3 rfl ?_
  refine r_topi (pk_ushrN (by omega) _ 1 (by decide)) ?_
  refine lv_ldcw hx hb hown (hts (.constant RJ6 265 (1431655765)) (List.mem_of_getElem? (i := 1) rfl)) dJ6_bitCount_0f7a4_4 ?_
  refine lv_iand hx hb dJ6_bitCount_0f7a4_7 ?_
  refine r_topi (nx_and _ _) ?_
  refine r_isub (x := k) (y := (k / 2 &&& 1431655765)) hx hb (by omega) dJ6_bitCount_0f7a4_8 ?_
  refine r_topi (rfl) ?_
  refine lv_istore_n (lv' := [(0, .int (nI (pcA k)))]) hx hb dJ6_bitCount_0f7a4_9 rfl hl (by decide) rfl (fun ls hl => ?_)
  refine lv_iload_n hx hb dJ6_bitCount_0f7a4_10 rfl (lv_at hl 0 rfl) ?_
  refine lv_ldcw hx hb hown (hts (.constant RJ6 266 (858993459)) (List.mem_of_getElem? (i := 2) rfl)) dJ6_bitCount_0f7a4_11 ?_
  refine lv_iand hx hb dJ6_bitCount_0f7a4_14 ?_
  refine r_topi (nx_and _ _) ?_
  refine lv_iload_n hx hb dJ6_bitCount_0f7a4_15 rfl (lv_at hl 0 rfl) ?_
  refine lv_iconst (v := (nI 2)) hx hb dJ6_bitCount_0f7a4_16 (by decide) ?_
  refine lv_iushr (v := (((nI (pcA k))).toUInt32 >>> (((nI 2)).toUInt32 &&& Int32.toUInt32 31)).toInt32) hx hb dJ6_bitCount_0f7a4_17 rfl ?_
  refine r_topi (pk_ushrN (by omega) _ 2 (by decide)) ?_
  refine lv_ldcw hx hb hown (hts (.constant RJ6 266 (858993459)) (List.mem_of_getElem? (i := 2) rfl)) dJ6_bitCount_0f7a4_18 ?_
  refine lv_iand hx hb dJ6_bitCount_0f7a4_21 ?_
  refine r_topi (nx_and _ _) ?_
  refine r_iadd (x := (pcA k &&& 858993459)) (y := (pcA k / 4 &&& 858993459)) hx hb dJ6_bitCount_0f7a4_22 ?_
  refine r_topi (rfl) ?_
  refine lv_istore_n (lv' := [(0, .int (nI (pcB (pcA k))))]) hx hb dJ6_bitCount_0f7a4_23 rfl hl (by decide) rfl (fun ls hl => ?_)
  refine lv_iload_n hx hb dJ6_bitCount_0f7a4_24 rfl (lv_at hl 0 rfl) ?_
  refine lv_iload_n hx hb dJ6_bitCount_0f7a4_25 rfl (lv_at hl 0 rfl) ?_
  refine lv_iconst (v := (nI 4)) hx hb dJ6_bitCount_0f7a4_26 (by decide) ?_
  refine lv_iushr (v := (((nI (pcB (pcA k)))).toUInt32 >>> (((nI 4)).toUInt32 &&& Int32.toUInt32 31)).toInt32) hx hb dJ6_bitCount_0f7a4_27 rfl ?_
  refine r_topi (pk_ushrN (by omega) _ 4 (by decide)) ?_
  refine r_iadd (x := (pcB (pcA k))) (y := ((pcB (pcA k)) / 16)) hx hb dJ6_bitCount_0f7a4_28 ?_
  refine lv_ldcw hx hb hown (hts (.constant RJ6 267 (252645135)) (List.mem_of_getElem? (i := 3) rfl)) dJ6_bitCount_0f7a4_29 ?_
  refine lv_iand hx hb dJ6_bitCount_0f7a4_32 ?_
  refine r_topi (nx_and _ _) ?_
  refine r_topi (rfl) ?_
  refine lv_istore_n (lv' := [(0, .int (nI (pcC (pcB (pcA k)))))]) hx hb dJ6_bitCount_0f7a4_33 rfl hl (by decide) rfl (fun ls hl => ?_)
  refine lv_iload_n hx hb dJ6_bitCount_0f7a4_34 rfl (lv_at hl 0 rfl) ?_
  refine lv_iload_n hx hb dJ6_bitCount_0f7a4_35 rfl (lv_at hl 0 rfl) ?_
  refine lv_bipush (v := (nI 8)) hx hb dJ6_bitCount_0f7a4_36 (by decide) ?_
  refine lv_iushr (v := (((nI (pcC (pcB (pcA k))))).toUInt32 >>> (((nI 8)).toUInt32 &&& Int32.toUInt32 31)).toInt32) hx hb dJ6_bitCount_0f7a4_38 rfl ?_
  refine r_topi (pk_ushrN (by omega) _ 8 (by decide)) ?_
  refine r_iadd (x := (pcC (pcB (pcA k)))) (y := ((pcC (pcB (pcA k))) / 256)) hx hb dJ6_bitCount_0f7a4_39 ?_
  refine r_topi (rfl) ?_
  refine lv_istore_n (lv' := [(0, .int (nI (pcD (pcC (pcB (pcA k))))))]) hx hb dJ6_bitCount_0f7a4_40 rfl hl (by decide) rfl (fun ls hl => ?_)
  refine lv_iload_n hx hb dJ6_bitCount_0f7a4_41 rfl (lv_at hl 0 rfl) ?_
  refine lv_iload_n hx hb dJ6_bitCount_0f7a4_42 rfl (lv_at hl 0 rfl) ?_
  refine lv_bipush (v := (nI 16)) hx hb dJ6_bitCount_0f7a4_43 (by decide) ?_
  refine lv_iushr (v := (((nI (pcD (pcC (pcB (pcA k)))))).toUInt32 >>> (((nI 16)).toUInt32 &&& Int32.toUInt32 31)).toInt32) hx hb dJ6_bitCount_0f7a4_45 rfl ?_
  refine r_topi (pk_ushrN (by omega) _ 16 (by decide)) ?_
  refine r_iadd (x := (pcD (pcC (pcB (pcA k))))) (y := ((pcD (pcC (pcB (pcA k)))) / 65536)) hx hb dJ6_bitCount_0f7a4_46 ?_
  refine lv_istore_n (lv' := [(0, .int (nI ((pcD (pcC (pcB (pcA k)))) + ((pcD (pcC (pcB (pcA k)))) / 65536))))]) hx hb dJ6_bitCount_0f7a4_47 rfl hl (by decide) rfl (fun ls hl => ?_)
  refine lv_iload_n hx hb dJ6_bitCount_0f7a4_48 rfl (lv_at hl 0 rfl) ?_
  refine lv_bipush (v := (nI 63)) hx hb dJ6_bitCount_0f7a4_49 (by decide) ?_
  refine lv_iand hx hb dJ6_bitCount_0f7a4_51 ?_
  refine r_topi (nx_and _ _) ?_
  exact ret_Qi hx hb hr hlk (by show nI (pcE _) = _; rw [(pc_ok hk).2]) dJ6_bitCount_0f7a4_52

theorem i_X2_countCalls_X2 : ∀ w ∈ wsX20, w ∈ wsX2_countCalls := by decide +kernel
abbrev rm_X2_countCalls : Room := { frames := 1, cells := 0, slots := 0, locals := 20 }
set_option maxHeartbeats 1000000 in
set_option maxRecDepth 100000 in
theorem c_X2_countCalls (l : Launch) (D : va_G) (t : Nat → ClassId) (h a0 a1 a2 : Nat) (stk cm dp : Nat → Nat) (f : Nat) (hcm : ∀ k, cm k < 2147483648) (hf : f ≤ 30) : Qi l yX2_countCalls wsX2_countCalls rm_X2_countCalls D (TY t) [.ref h, .int (nI f)] [(h, .inr (3, [.ref a0, .ref a1, .ref a2])), (a0, .inl (t 0, 31, .inl (nF stk))), (a1, .inl (t 0, 31, .inl (nF cm))), (a2, .inl (t 0, 31, .inl (nF dp)))] (fun r => r = nI (popc (cm f) 31)) := by
  refine start_Qi cX2_countCalls 2 (some .int) (by decide) rfl (Nat.le_of_ble_eq_true rfl) ?_
  intro p e s m below meth c ls B hP hD hl
  obtain ⟨hx, hb, hr, hts, hown, hlk, hml, hN, hK⟩ := B
  have hl : lv_has ls 2 [(0, .ref h), (1, .int (nI f))] := hl
  refine lv_aload_n hx hb dX2_countCalls_0 rfl (lv_at hl 0 rfl) ?_
  refine va_get (D := D) (ci := 3) (v := .ref a1) (C := RX2) (T := TX2) (N := 3) hx hb hts i_X2_countCalls_X2 hown hK hP 0 rfl rfl 1 (by decide) (hts (.fieldLink RX2 15 "MemoryMap$Functions" "called" "[I") (List.mem_of_getElem? (i := 1) rfl)) (fun _ h9 => h9) rfl dX2_countCalls_1 ?_
  refine lv_iload_n hx hb dX2_countCalls_4 rfl (lv_at hl 1 rfl) ?_
  refine r_iald hx hb hK hP 2 0 rfl rfl (i := f) (by omega) (by omega) dX2_countCalls_5 ?_
  refine vp_callSi (va_Run.run (va_runS (As := [.int (nI (cm f))]) (rest := []) ⟨hx, hb, hml, hown, hts⟩ (c_J6_bitCount_0f7a4 l D t (cm f) (by have := hcm f; omega) _) (va_cwS 1 hts gX2_countCalls_J6_bitCount_0f7a4 rfl rfl rfl (by decide +kernel) ⟨Nat.le_of_ble_eq_true rfl, Nat.le_of_ble_eq_true rfl⟩) (preS hP hD hK hN [] rfl (by decide)) rfl rfl hl.1 rfl (lv_room (Nat.le_of_ble_eq_true rfl)) dX2_countCalls_6 ⟨Nat.le_of_ble_eq_true rfl, Nat.le_of_ble_eq_true rfl⟩)) (fun r hw => ?_)
  exact ret_Qi hx hb hr hlk (hw) dX2_countCalls_9
