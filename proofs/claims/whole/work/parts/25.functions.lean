theorem s_l : ∀ n, n < 32 → ((nI n &&& 31).toBitVec.smod 32).toNat = n := by decide +kernel
theorem bit_ct {k f : Nat} (hk : k < 2 ^ 31) (hf : f < 32) : (nI k >>> (nI f &&& 31)) &&& nI 1 = nI (k / 2 ^ f % 2) := by
  rw [pk_shrN hk _ f (s_l f hf), nx_and, Nat.and_one_is_mod]
theorem sh_ct : ∀ f, f < 32 → nI 1 <<< (nI f &&& 31) = nI (2 ^ f) := by decide +kernel
theorem nx_or (a b : Nat) : nI a ||| nI b = nI (a ||| b) := by
  apply Int32.toBitVec_inj.1
  show BitVec.ofNat 32 a ||| BitVec.ofNat 32 b = BitVec.ofNat 32 (a ||| b)
  apply BitVec.eq_of_getLsbD_eq
  intro i hi
  simp [hi]
theorem or_ct {a f : Nat} (hf : f < 32) : nI a ||| (nI 1 <<< (nI f &&& 31)) = nI (a ||| 2 ^ f) := by rw [sh_ct f hf, nx_or]
theorem sub_ct {a s : Nat} (ha : a < 2 ^ 31) : (nI a &&& (nI s ^^^ (-1))) = 0 ↔ a &&& s = a := by
  have e : nI a &&& (nI s ^^^ (-1)) = 0 ↔ (BitVec.ofNat 32 a &&& (BitVec.ofNat 32 s ^^^ BitVec.allOnes 32)) = 0#32 := by
    rw [← Int32.toBitVec_inj]
    exact Iff.rfl
  rw [e]
  constructor
  · intro h
    apply Nat.eq_of_testBit_eq
    intro i
    rw [Nat.testBit_and]
    by_cases hi : i < 32
    · have h1 := congrArg (fun v : BitVec 32 => v.getLsbD i) h
      simp only [BitVec.getLsbD_and, BitVec.getLsbD_xor, BitVec.getLsbD_ofNat, BitVec.getLsbD_allOnes, BitVec.getLsbD_zero, Nat.zero_testBit, hi, decide_true, Bool.true_and] at h1
      revert h1
      cases a.testBit i <;> cases s.testBit i <;> decide
    · have : a.testBit i = false := Nat.testBit_lt_two_pow (Nat.lt_of_lt_of_le ha (Nat.pow_le_pow_right (by decide) (by omega)))
      rw [this]; rfl
  · intro h
    apply BitVec.eq_of_getLsbD_eq
    intro i hi
    have h1 := congrArg (fun v : Nat => v.testBit i) h
    simp only [Nat.testBit_and] at h1
    simp only [BitVec.getLsbD_and, BitVec.getLsbD_xor, BitVec.getLsbD_ofNat, BitVec.getLsbD_allOnes, BitVec.getLsbD_zero, Nat.zero_testBit, hi, decide_true, Bool.true_and]
    revert h1
    cases a.testBit i <;> cases s.testBit i <;> decide
theorem bit_dec (k f : Nat) : (k / 2 ^ f % 2 = 1) ↔ k.testBit f = true := by
  rw [Nat.testBit_eq_decide_div_mod_eq, decide_eq_true_iff]
/-- the greatest depth of those called, among 1 .. n -/
def mxD (k : Nat) (d : Nat → Nat) : Nat → Nat
  | 0 => 0
  | n + 1 => if k.testBit (n + 1) then max (mxD k d n) (d (n + 1)) else mxD k d n
theorem mxD_le {k B : Nat} {d : Nat → Nat} : ∀ n, (∀ g, 1 ≤ g → g ≤ n → k.testBit g = true → d g ≤ B) → mxD k d n ≤ B
  | 0, _ => Nat.zero_le _
  | n + 1, h => by
    have ih := mxD_le (k := k) (B := B) (d := d) n (fun g h1 h2 h3 => h g h1 (by omega) h3)
    unfold mxD
    split
    · next e => exact Nat.max_le.mpr ⟨ih, h (n + 1) (by omega) (Nat.le_refl _) e⟩
    · exact ih
/-- one function settled, if all that it calls are -/
def stp (cm stk : Nat → Nat) (x : Nat × (Nat → Nat)) (f : Nat) : Nat × (Nat → Nat) :=
  if x.1.testBit f = false ∧ cm f &&& x.1 = cm f then (x.1 ||| 2 ^ f, va_up x.2 f (stk f + mxD (cm f) x.2 30)) else x
def rnd (cm stk : Nat → Nat) (x : Nat × (Nat → Nat)) : Nat → Nat × (Nat → Nat)
  | 0 => x
  | n + 1 => stp cm stk (rnd cm stk x n) (n + 1)
def itr (cm stk : Nat → Nat) (x : Nat × (Nat → Nat)) : Nat → Nat × (Nat → Nat)
  | 0 => x
  | n + 1 => rnd cm stk (itr cm stk x n) 30
theorem mx_i {a b : Nat} (ha : a < 2 ^ 31) (hb : b < 2 ^ 31) : (if nI a < nI b then nI b else nI a) = nI (max a b) := by
  by_cases h : a < b
  · rw [if_pos ((nI_ltI ha hb).mpr h), Nat.max_eq_right (by omega)]
  · rw [if_neg (fun q => h ((nI_ltI ha hb).mp q)), Nat.max_eq_left (by omega)]
theorem i_X2_init_X2 : ∀ w ∈ wsX20, w ∈ wsX2_init := by decide +kernel
abbrev rm_X2_init : Room := { frames := 1, cells := 3, slots := 93, locals := 12 }
set_option maxHeartbeats 1000000 in
set_option maxRecDepth 100000 in
theorem c_X2_init (l : Launch) (D : va_G) (t : Nat → ClassId) (h : Nat)  : Mv l yX2_init wsX2_init rm_X2_init D (TY t) [.ref h] [(h, .inr (3, [.null, .null, .null]))] (S := Nat × Nat × Nat) (fun _ : Nat × Nat × Nat => True) (fun u => [(h, .inr (3, [.ref u.1, .ref u.2.1, .ref u.2.2])), (u.1, .inl (t 0, 31, .inl (nF (fun _ => 0)))), (u.2.1, .inl (t 0, 31, .inl (nF (fun _ => 0)))), (u.2.2, .inl (t 0, 31, .inl (nF (fun _ => 0))))]) := by
  refine start_Mv cX2_init 1 none (by decide) rfl (Nat.le_of_ble_eq_true rfl) ?_
  intro p e s m below meth c A ls B hin hP hD hS hA hl
  obtain ⟨hx, hb, hr, hts, hown, hlk, hml, hN, hK⟩ := B
  have hl : lv_has ls 1 [(0, .ref h)] := hl
  refine lv_aload_n hx hb dX2_init_0 rfl (lv_at hl 0 rfl) ?_
  refine W.objInit hx hb hown (hts (.methodLink RX2 3 objectInit) (List.mem_of_getElem? (i := 1) rfl)) (hts (.instanceMethod objectInit) (List.mem_of_getElem? (i := 2) rfl)) (hts (.code objectInit ⟨#[0xb1]⟩ 1 none) (List.mem_of_getElem? (i := 3) rfl)) rfl (by rw [hml]; exact hl.1) rfl dX2_init_1 (Nat.le_of_ble_eq_true rfl) (Nat.le_of_ble_eq_true rfl) ?_
  refine W.eq (g2 := F0 m 4 ls []) rfl ?_
  refine lv_aload_n hx hb dX2_init_4 rfl (lv_at hl 0 rfl) ?_
  refine lv_bipush (v := (nI 31)) hx hb dX2_init_5 (by decide) ?_
  refine r_newI hx hb (hts (.arrayClass .int) (List.mem_of_getElem? (i := 4) rfl)) hK hP hD hS hA 0 rfl (Nat.le_of_ble_eq_true rfl) (Nat.le_of_ble_eq_true rfl) (Nat.le_of_ble_eq_true rfl) dX2_init_7 (fun q_1 H hP hD hS => ?_)
  have hP : va_P D vwCl [(h, .inr (3, [.null, .null, .null])), (q_1, .inl (t 0, 31, .inl (nF (fun _ => 0))))] H := hP
  have hD : va_D A [(h, .inr (3, [.null, .null, .null])), (q_1, .inl (t 0, 31, .inl (nF (fun _ => 0))))] := hD
  refine va_putF (D := D) (ci := 3) (v := .ref q_1) (ty := .array .int) (C := RX2) (T := TX2) (N := 3) hx hb hts i_X2_init_X2 tyX2 tyX2_ok nmX2 hown hK hP hD hS 0 rfl rfl 0 (by decide) (hts (.fieldLink RX2 9 "MemoryMap$Functions" "stacks" "[I") (List.mem_of_getElem? (i := 5) rfl)) (fun _ h9 => h9) rfl hin rfl (by decide +kernel) rfl rfl (Nat.le_of_ble_eq_true rfl) dX2_init_9 (fun H locs hP hD hS => ?_)
  have hP : va_P D vwCl [(h, .inr (3, [.ref q_1, .null, .null])), (q_1, .inl (t 0, 31, .inl (nF (fun _ => 0))))] H := hP
  have hD : va_D A [(h, .inr (3, [.ref q_1, .null, .null])), (q_1, .inl (t 0, 31, .inl (nF (fun _ => 0))))] := hD
  refine lv_aload_n hx hb dX2_init_12 rfl (lv_at hl 0 rfl) ?_
  refine lv_bipush (v := (nI 31)) hx hb dX2_init_13 (by decide) ?_
  refine r_newI hx hb (hts (.arrayClass .int) (List.mem_of_getElem? (i := 4) rfl)) hK hP hD hS hA 0 rfl (Nat.le_of_ble_eq_true rfl) (Nat.le_of_ble_eq_true rfl) (Nat.le_of_ble_eq_true rfl) dX2_init_15 (fun q_2 H hP hD hS => ?_)
  have hP : va_P D vwCl [(h, .inr (3, [.ref q_1, .null, .null])), (q_1, .inl (t 0, 31, .inl (nF (fun _ => 0)))), (q_2, .inl (t 0, 31, .inl (nF (fun _ => 0))))] H := hP
  have hD : va_D A [(h, .inr (3, [.ref q_1, .null, .null])), (q_1, .inl (t 0, 31, .inl (nF (fun _ => 0)))), (q_2, .inl (t 0, 31, .inl (nF (fun _ => 0))))] := hD
  refine va_putF (D := D) (ci := 3) (v := .ref q_2) (ty := .array .int) (C := RX2) (T := TX2) (N := 3) hx hb hts i_X2_init_X2 tyX2 tyX2_ok nmX2 hown hK hP hD hS 0 rfl rfl 1 (by decide) (hts (.fieldLink RX2 15 "MemoryMap$Functions" "called" "[I") (List.mem_of_getElem? (i := 6) rfl)) (fun _ h9 => h9) rfl hin rfl (by decide +kernel) rfl rfl (Nat.le_of_ble_eq_true rfl) dX2_init_17 (fun H locs hP hD hS => ?_)
  have hP : va_P D vwCl [(h, .inr (3, [.ref q_1, .ref q_2, .null])), (q_1, .inl (t 0, 31, .inl (nF (fun _ => 0)))), (q_2, .inl (t 0, 31, .inl (nF (fun _ => 0))))] H := hP
  have hD : va_D A [(h, .inr (3, [.ref q_1, .ref q_2, .null])), (q_1, .inl (t 0, 31, .inl (nF (fun _ => 0)))), (q_2, .inl (t 0, 31, .inl (nF (fun _ => 0))))] := hD
  refine lv_aload_n hx hb dX2_init_20 rfl (lv_at hl 0 rfl) ?_
  refine lv_bipush (v := (nI 31)) hx hb dX2_init_21 (by decide) ?_
  refine r_newI hx hb (hts (.arrayClass .int) (List.mem_of_getElem? (i := 4) rfl)) hK hP hD hS hA 0 rfl (Nat.le_of_ble_eq_true rfl) (Nat.le_of_ble_eq_true rfl) (Nat.le_of_ble_eq_true rfl) dX2_init_23 (fun q_3 H hP hD hS => ?_)
  have hP : va_P D vwCl [(h, .inr (3, [.ref q_1, .ref q_2, .null])), (q_1, .inl (t 0, 31, .inl (nF (fun _ => 0)))), (q_2, .inl (t 0, 31, .inl (nF (fun _ => 0)))), (q_3, .inl (t 0, 31, .inl (nF (fun _ => 0))))] H := hP
  have hD : va_D A [(h, .inr (3, [.ref q_1, .ref q_2, .null])), (q_1, .inl (t 0, 31, .inl (nF (fun _ => 0)))), (q_2, .inl (t 0, 31, .inl (nF (fun _ => 0)))), (q_3, .inl (t 0, 31, .inl (nF (fun _ => 0))))] := hD
  refine va_putF (D := D) (ci := 3) (v := .ref q_3) (ty := .array .int) (C := RX2) (T := TX2) (N := 3) hx hb hts i_X2_init_X2 tyX2 tyX2_ok nmX2 hown hK hP hD hS 0 rfl rfl 2 (by decide) (hts (.fieldLink RX2 18 "MemoryMap$Functions" "depths" "[I") (List.mem_of_getElem? (i := 7) rfl)) (fun _ h9 => h9) rfl hin rfl (by decide +kernel) rfl rfl (Nat.le_of_ble_eq_true rfl) dX2_init_25 (fun H locs hP hD hS => ?_)
  have hP : va_P D vwCl [(h, .inr (3, [.ref q_1, .ref q_2, .ref q_3])), (q_1, .inl (t 0, 31, .inl (nF (fun _ => 0)))), (q_2, .inl (t 0, 31, .inl (nF (fun _ => 0)))), (q_3, .inl (t 0, 31, .inl (nF (fun _ => 0))))] H := hP
  have hD : va_D A [(h, .inr (3, [.ref q_1, .ref q_2, .ref q_3])), (q_1, .inl (t 0, 31, .inl (nF (fun _ => 0)))), (q_2, .inl (t 0, 31, .inl (nF (fun _ => 0)))), (q_3, .inl (t 0, 31, .inl (nF (fun _ => 0))))] := hD
  exact ret_Mv hx hb hr hlk ((q_1, q_2, q_3)) (trivial) hP hD hS (Nat.le_of_ble_eq_true rfl) (Nat.le_of_ble_eq_true rfl) dX2_init_28

abbrev rm_X2_contains : Room := { frames := 0, cells := 0, slots := 0, locals := 0 }
set_option maxHeartbeats 1000000 in
set_option maxRecDepth 100000 in
theorem c_X2_contains (l : Launch) (D : va_G) (t : Nat → ClassId) (k f : Nat) (hk : k < 2147483648) (hf : f < 32) : Qi l yX2_contains wsX2_contains rm_X2_contains D (TY t) [.int (nI k), .int (nI f)] [] (fun r => (r = nI 1 ∧ k.testBit f = true) ∨ (r = nI 0 ∧ k.testBit f = false)) := by
  refine start_Qi cX2_contains 2 (some .boolean) (by decide) rfl (Nat.le_of_ble_eq_true rfl) ?_
  intro p e s m below meth c ls B hP hD hl
  obtain ⟨hx, hb, hr, hts, hown, hlk, hml, hN, hK⟩ := B
  have hl : lv_has ls 2 [(0, .int (nI k)), (1, .int (nI f))] := hl
  refine lv_iload_n hx hb dX2_contains_0 rfl (lv_at hl 0 rfl) ?_
  refine lv_iload_n hx hb dX2_contains_1 rfl (lv_at hl 1 rfl) ?_
  refine lv_ishr hx hb dX2_contains_2 ?_
  refine lv_iconst (v := (nI 1)) hx hb dX2_contains_3 (by decide) ?_
  refine lv_iand hx hb dX2_contains_4 ?_
  refine r_topi (bit_ct hk hf) ?_
  have hz : k / 2 ^ f % 2 < 2 := Nat.mod_lt _ (by decide)
  generalize hz2 : k / 2 ^ f % 2 = z at hz ⊢
  refine lv_iconst (v := (nI 1)) hx hb dX2_contains_5 (by decide) ?_
  refine r_icmp_ne (x := z) (y := 1) (tgt := 13) hx hb (by omega) (by omega) dX2_contains_6 (by decide) (fun c1 => ?_) (fun c1 => ?_)
  · refine lv_iconst (v := (nI 0)) hx hb dX2_contains_13 (by decide) ?_
    exact ret_Qz hx hb hr hlk rfl (Or.inr ⟨rfl, by cases q : k.testBit f with | false => rfl | true => exact absurd (hz2.symm.trans ((bit_dec k f).mpr q)) c1⟩) dX2_contains_14
  · refine lv_iconst (v := (nI 1)) hx hb dX2_contains_9 (by decide) ?_
    refine lv_goto (tgt := 14) hx hb dX2_contains_10 (by decide) ?_
    exact ret_Qz hx hb hr hlk rfl (Or.inl ⟨rfl, (bit_dec k f).mp (hz2.trans c1)⟩) dX2_contains_14

theorem i_X2_addCall_X2 : ∀ w ∈ wsX20, w ∈ wsX2_addCall := by decide +kernel
abbrev rm_X2_addCall : Room := { frames := 0, cells := 0, slots := 0, locals := 0 }
set_option maxHeartbeats 1000000 in
set_option maxRecDepth 100000 in
theorem c_X2_addCall (l : Launch) (D : va_G) (t : Nat → ClassId) (h a0 a1 a2 : Nat) (stk cm dp : Nat → Nat) (f g : Nat) (hf : f ≤ 30) (hg : g ≤ 30) : Mv l yX2_addCall wsX2_addCall rm_X2_addCall D (TY t) [.ref h, .int (nI f), .int (nI g)] [(h, .inr (3, [.ref a0, .ref a1, .ref a2])), (a0, .inl (t 0, 31, .inl (nF stk))), (a1, .inl (t 0, 31, .inl (nF cm))), (a2, .inl (t 0, 31, .inl (nF dp)))] (S := Unit) (fun _ : Unit => True) (fun _ => [(h, .inr (3, [.ref a0, .ref a1, .ref a2])), (a0, .inl (t 0, 31, .inl (nF stk))), (a1, .inl (t 0, 31, .inl (nF (va_up cm f (cm f ||| 2 ^ g))))), (a2, .inl (t 0, 31, .inl (nF dp)))]) := by
  refine start_Mv cX2_addCall 3 none (by decide) rfl (Nat.le_of_ble_eq_true rfl) ?_
  intro p e s m below meth c A ls B hin hP hD hS hA hl
  obtain ⟨hx, hb, hr, hts, hown, hlk, hml, hN, hK⟩ := B
  have hl : lv_has ls 3 [(0, .ref h), (1, .int (nI f)), (2, .int (nI g))] := hl
  refine lv_aload_n hx hb dX2_addCall_0 rfl (lv_at hl 0 rfl) ?_
  refine va_get (D := D) (ci := 3) (v := .ref a1) (C := RX2) (T := TX2) (N := 3) hx hb hts i_X2_addCall_X2 hown hK hP 0 rfl rfl 1 (by decide) (hts (.fieldLink RX2 15 "MemoryMap$Functions" "called" "[I") (List.mem_of_getElem? (i := 1) rfl)) (fun _ h9 => h9) rfl dX2_addCall_1 ?_
  refine lv_iload_n hx hb dX2_addCall_4 rfl (lv_at hl 1 rfl) ?_
  refine lv_dup2_11 hx hb dX2_addCall_5 rfl rfl ?_
  refine r_iald hx hb hK hP 2 0 rfl rfl (i := f) (by omega) (by omega) dX2_addCall_6 ?_
  refine lv_iconst (v := (nI 1)) hx hb dX2_addCall_7 (by decide) ?_
  refine lv_iload_n hx hb dX2_addCall_8 rfl (lv_at hl 2 rfl) ?_
  refine lv_ishl hx hb dX2_addCall_9 ?_
  refine lv_ior hx hb dX2_addCall_10 ?_
  refine r_topi (or_ct (by omega)) ?_
  refine r_iast hx hb hK hP hD hS 2 0 rfl rfl (i := f) (by omega) (by omega) dX2_addCall_11 (fun H locs hP hD hS => ?_)
  have hP : va_P D vwCl [(h, .inr (3, [.ref a0, .ref a1, .ref a2])), (a0, .inl (t 0, 31, .inl (nF stk))), (a1, .inl (t 0, 31, .inl (nF (va_up cm f (cm f ||| 2 ^ g))))), (a2, .inl (t 0, 31, .inl (nF dp)))] H := hP
  have hD : va_D A [(h, .inr (3, [.ref a0, .ref a1, .ref a2])), (a0, .inl (t 0, 31, .inl (nF stk))), (a1, .inl (t 0, 31, .inl (nF (va_up cm f (cm f ||| 2 ^ g))))), (a2, .inl (t 0, 31, .inl (nF dp)))] := hD
  exact ret_Mv hx hb hr hlk (()) (trivial) hP hD hS (Nat.le_of_ble_eq_true rfl) (Nat.le_of_ble_eq_true rfl) dX2_addCall_12

theorem i_X2_deepestCalled_X2 : ∀ w ∈ wsX20, w ∈ wsX2_deepestCalled := by decide +kernel
abbrev rm_X2_deepestCalled : Room := { frames := 1, cells := 0, slots := 0, locals := 21 }
set_option maxHeartbeats 1000000 in
set_option maxRecDepth 100000 in
theorem c_X2_deepestCalled (l : Launch) (D : va_G) (t : Nat → ClassId) (h a0 a1 a2 : Nat) (stk cm dp : Nat → Nat) (fr : Nat) (hcm : ∀ k, cm k < 2147483648) (hdp : ∀ k, dp k ≤ 900000000) (hfr : fr ≤ 30) : Qi l yX2_deepestCalled wsX2_deepestCalled rm_X2_deepestCalled D (TY t) [.ref h, .int (nI fr)] [(h, .inr (3, [.ref a0, .ref a1, .ref a2])), (a0, .inl (t 0, 31, .inl (nF stk))), (a1, .inl (t 0, 31, .inl (nF cm))), (a2, .inl (t 0, 31, .inl (nF dp)))] (fun r => r = nI (mxD (cm fr) dp 30)) := by
  refine start_Qi cX2_deepestCalled 4 (some .int) (by decide) rfl (Nat.le_of_ble_eq_true rfl) ?_
  intro p e s m below meth c ls B hP hD hl
  obtain ⟨hx, hb, hr, hts, hown, hlk, hml, hN, hK⟩ := B
  have hl : lv_has ls 4 [(0, .ref h), (1, .int (nI fr))] := hl
  refine lv_iconst (v := (nI 0)) hx hb dX2_deepestCalled_0 (by decide) ?_
  refine lv_istore_n (lv' := [(2, .int (nI 0)), (0, .ref h), (1, .int (nI fr))]) hx hb dX2_deepestCalled_1 rfl hl (by decide) rfl (fun ls hl => ?_)
  refine lv_iconst (v := (nI 1)) hx hb dX2_deepestCalled_2 (by decide) ?_
  refine lv_istore_n (lv' := [(3, .int (nI 1)), (2, .int (nI 0)), (0, .ref h), (1, .int (nI fr))]) hx hb dX2_deepestCalled_3 rfl hl (by decide) rfl (fun ls hl => ?_)
  refine W_loop (σ := Nat) (fun j => 30 - j) (fun j H locs ls => H = s.heap ∧ locs = [] ∧ j ≤ 30 ∧ lv_has ls 4 [(3, .int (nI (j + 1))), (2, .int (nI (mxD (cm fr) dp j))), (0, .ref h), (1, .int (nI fr))]) ?_ 0 _ _ _ ⟨rfl, rfl, by decide, hl⟩
  rintro j _ _ ls ⟨rfl, rfl, hj, hl⟩ ih
  have hm : mxD (cm fr) dp j ≤ 900000000 := mxD_le j (fun g _ _ _ => hdp g)
  refine lv_iload_n hx hb dX2_deepestCalled_4 rfl (lv_at hl 0 rfl) ?_
  refine lv_bipush (v := (nI 30)) hx hb dX2_deepestCalled_5 (by decide) ?_
  refine r_icmp_gt (x := (j + 1)) (y := 30) (tgt := 40) hx hb (by omega) (by omega) dX2_deepestCalled_7 (by decide) (fun c1 => ?_) (fun c1 => ?_)
  · refine lv_iload_n hx hb dX2_deepestCalled_40 rfl (lv_at hl 1 rfl) ?_
    have e : j = 30 := by omega
    exact ret_Qi hx hb hr hlk (by rw [e]) dX2_deepestCalled_41
  · refine lv_aload_n hx hb dX2_deepestCalled_10 rfl (lv_at hl 2 rfl) ?_
    refine va_get (D := D) (ci := 3) (v := .ref a1) (C := RX2) (T := TX2) (N := 3) hx hb hts i_X2_deepestCalled_X2 hown hK hP 0 rfl rfl 1 (by decide) (hts (.fieldLink RX2 15 "MemoryMap$Functions" "called" "[I") (List.mem_of_getElem? (i := 1) rfl)) (fun _ h9 => h9) rfl dX2_deepestCalled_11 ?_
    refine lv_iload_n hx hb dX2_deepestCalled_14 rfl (lv_at hl 3 rfl) ?_
    refine r_iald hx hb hK hP 2 0 rfl rfl (i := fr) (by omega) (by omega) dX2_deepestCalled_15 ?_
    have hb_0 := hcm fr
    refine lv_iload_n hx hb dX2_deepestCalled_16 rfl (lv_at hl 0 rfl) ?_
    refine vp_callSi (va_Run.run (va_runS (As := [.int (nI (cm fr)), .int (nI (j + 1))]) (rest := []) ⟨hx, hb, hml, hown, hts⟩ (c_X2_contains l D t (cm fr) (j + 1) (hcm fr) (by omega) _) (va_cwS 2 hts gX2_deepestCalled_X2_contains rfl rfl rfl (by decide +kernel) ⟨Nat.le_of_ble_eq_true rfl, Nat.le_of_ble_eq_true rfl⟩) (preS hP hD hK hN [] rfl (by decide)) rfl rfl hl.1 rfl (lv_room (Nat.le_of_ble_eq_true rfl)) dX2_deepestCalled_17 ⟨Nat.le_of_ble_eq_true rfl, Nat.le_of_ble_eq_true rfl⟩)) (fun r hw => ?_)
    rcases hw with ⟨rfl, g⟩ | ⟨rfl, g⟩
    · refine r_if_eq (x := 1) (tgt := 34) hx hb (by omega) dX2_deepestCalled_20 (by decide) (fun c => absurd c (by decide)) (fun _ => ?_)
      refine lv_iload_n hx hb dX2_deepestCalled_23 rfl (lv_at hl 1 rfl) ?_
      refine lv_aload_n hx hb dX2_deepestCalled_24 rfl (lv_at hl 2 rfl) ?_
      refine va_get (D := D) (ci := 3) (v := .ref a2) (C := RX2) (T := TX2) (N := 3) hx hb hts i_X2_deepestCalled_X2 hown hK hP 0 rfl rfl 2 (by decide) (hts (.fieldLink RX2 18 "MemoryMap$Functions" "depths" "[I") (List.mem_of_getElem? (i := 2) rfl)) (fun _ h9 => h9) rfl dX2_deepestCalled_25 ?_
      refine lv_iload_n hx hb dX2_deepestCalled_28 rfl (lv_at hl 0 rfl) ?_
      refine r_iald hx hb hK hP 3 0 rfl rfl (i := j + 1) (by omega) (by omega) dX2_deepestCalled_29 ?_
      have hb_1 := hdp (j + 1)
      have hb9 := hdp (j + 1)
      refine va_mmax hx hb (by rw [hml]; exact hl.1.symm) hown (hts (.methodLink RX2 37 Lib.Math.max.name) (List.mem_of_getElem? (i := 3) rfl)) (hts (.static Lib.Math.max.name) (List.mem_of_getElem? (i := 4) rfl)) (hts (.initialized "java/lang/Math") (List.mem_of_getElem? (i := 5) rfl)) (hts (.code Lib.Math.max.name Lib.Math.max.code 2 (some .int)) (List.mem_of_getElem? (i := 6) rfl)) (Nat.le_of_ble_eq_true rfl) (Nat.le_of_ble_eq_true rfl) (Nat.zero_le _) (Nat.zero_le _) dX2_deepestCalled_30 ?_
      refine r_topi (mx_i (by omega) (by omega)) ?_
      refine lv_istore_n (lv' := [(2, .int (nI (max (mxD (cm fr) dp j) (dp (j + 1))))), (3, .int (nI (j + 1))), (0, .ref h), (1, .int (nI fr))]) hx hb dX2_deepestCalled_33 rfl hl (by decide) rfl (fun ls hl => ?_)
      refine lv_iinc (v := (nI ((j + 1) + 1))) (lv' := [(3, .int (nI ((j + 1) + 1))), (2, .int (nI (max (mxD (cm fr) dp j) (dp (j + 1))))), (0, .ref h), (1, .int (nI fr))]) hx hb dX2_deepestCalled_34 hl (k := 1) rfl (r_inc1 _) (by decide) rfl (fun ls hl => ?_)
      refine lv_goto (tgt := 4) hx hb dX2_deepestCalled_37 (by decide) ?_
      have e : mxD (cm fr) dp (j + 1) = max (mxD (cm fr) dp j) (dp (j + 1)) := by show (if _ then _ else _) = _; rw [if_pos g]
      exact ih (j + 1) _ _ _ ⟨rfl, rfl, by omega, by rw [e]; exact lv_sub hl [0, 1, 2, 3] rfl⟩ (by omega)
    · refine r_if_eq (x := 0) (tgt := 34) hx hb (by omega) dX2_deepestCalled_20 (by decide) (fun _ => ?_) (fun c => absurd c (by decide))
      refine lv_iinc (v := (nI ((j + 1) + 1))) (lv' := [(3, .int (nI ((j + 1) + 1))), (2, .int (nI (mxD (cm fr) dp j))), (0, .ref h), (1, .int (nI fr))]) hx hb dX2_deepestCalled_34 hl (k := 0) rfl (r_inc1 _) (by decide) rfl (fun ls hl => ?_)
      refine lv_goto (tgt := 4) hx hb dX2_deepestCalled_37 (by decide) ?_
      have e : mxD (cm fr) dp (j + 1) = mxD (cm fr) dp j := by show (if _ then _ else _) = _; rw [if_neg (by rw [g]; decide)]
      exact ih (j + 1) _ _ _ ⟨rfl, rfl, by omega, by rw [e]; exact lv_sub hl [0, 1, 2, 3] rfl⟩ (by omega)

theorem i_X2_settleMore_X2 : ∀ w ∈ wsX20, w ∈ wsX2_settleMore := by decide +kernel
abbrev rm_X2_settleMore : Room := { frames := 2, cells := 0, slots := 0, locals := 44 }
set_option maxHeartbeats 1000000 in
set_option maxRecDepth 100000 in
theorem c_X2_settleMore (l : Launch) (D : va_G) (t : Nat → ClassId) (h a0 a1 a2 : Nat) (stk cm dp : Nat → Nat) (b K : Nat) (hcm : ∀ k, cm k < 2147483648) (hdp : ∀ k, dp k ≤ 900000000) (hstk : ∀ k, stk k ≤ 1000000) (hbd : b < 2147483648) (hK2 : K ≤ 870) (hset : ∀ g, b.testBit g = true → dp g ≤ 1000000 * K) : Mi l yX2_settleMore wsX2_settleMore rm_X2_settleMore D (TY t) [.ref h, .int (nI b)] [(h, .inr (3, [.ref a0, .ref a1, .ref a2])), (a0, .inl (t 0, 31, .inl (nF stk))), (a1, .inl (t 0, 31, .inl (nF cm))), (a2, .inl (t 0, 31, .inl (nF dp)))] (S := Nat × (Nat → Nat)) (fun r u => r = nI u.1 ∧ u = rnd cm stk (b, dp) 30 ∧ u.1 < 2147483648 ∧ (∀ k, u.2 k ≤ 900000000) ∧ ∀ g, u.1.testBit g = true → u.2 g ≤ 1000000 * (K + 30)) (fun u => [(h, .inr (3, [.ref a0, .ref a1, .ref a2])), (a0, .inl (t 0, 31, .inl (nF stk))), (a1, .inl (t 0, 31, .inl (nF cm))), (a2, .inl (t 0, 31, .inl (nF u.2)))]) := by
  refine start_Mi cX2_settleMore 4 (some .int) (by decide) rfl (Nat.le_of_ble_eq_true rfl) ?_
  intro p e s m below meth c A ls B hin hP hD hS hA hl
  obtain ⟨hx, hb, hr, hts, hown, hlk, hml, hN, hK⟩ := B
  have hl : lv_has ls 4 [(0, .ref h), (1, .int (nI b))] := hl
  refine lv_iload_n hx hb dX2_settleMore_0 rfl (lv_at hl 1 rfl) ?_
  refine lv_istore_n (lv' := [(2, .int (nI b)), (0, .ref h), (1, .int (nI b))]) hx hb dX2_settleMore_1 rfl hl (by decide) rfl (fun ls hl => ?_)
  refine lv_iconst (v := (nI 1)) hx hb dX2_settleMore_2 (by decide) ?_
  refine lv_istore_n (lv' := [(3, .int (nI 1)), (2, .int (nI b)), (0, .ref h), (1, .int (nI b))]) hx hb dX2_settleMore_3 rfl hl (by decide) rfl (fun ls hl => ?_)
  refine W_loop (σ := Nat × Nat × (Nat → Nat)) (fun x => 30 - x.1) (fun x H locs ls => match x with | (j, S, d) => va_P D vwCl [(h, .inr (3, [.ref a0, .ref a1, .ref a2])), (a0, .inl (t 0, 31, .inl (nF stk))), (a1, .inl (t 0, 31, .inl (nF cm))), (a2, .inl (t 0, 31, .inl (nF d)))] H ∧ va_D A [(h, .inr (3, [.ref a0, .ref a1, .ref a2])), (a0, .inl (t 0, 31, .inl (nF stk))), (a1, .inl (t 0, 31, .inl (nF cm))), (a2, .inl (t 0, 31, .inl (nF d)))] ∧ va_S A s.heap H locs ∧ lv_has ls 4 [(3, .int (nI (j + 1))), (2, .int (nI S)), (0, .ref h), (1, .int (nI b))] ∧ j ≤ 30 ∧ (S, d) = rnd cm stk (b, dp) j ∧ S < 2147483648 ∧ (∀ k, d k ≤ 900000000) ∧ ∀ g, S.testBit g = true → d g ≤ 1000000 * (K + j)) ?_ (0, b, dp) _ _ _ ⟨hP, hD, hS, hl, by decide, rfl, hbd, hdp, hset⟩
  rintro ⟨j, S, d⟩ H locs ls ⟨hP, hD, hS, hl, hj, hrn, hSb, hdb, hsd⟩ ih
  refine lv_iload_n hx hb dX2_settleMore_4 rfl (lv_at hl 0 rfl) ?_
  refine lv_bipush (v := (nI 30)) hx hb dX2_settleMore_5 (by decide) ?_
  refine r_icmp_gt (x := (j + 1)) (y := 30) (tgt := 61) hx hb (by omega) (by omega) dX2_settleMore_7 (by decide) (fun c1 => ?_) (fun c1 => ?_)
  · refine lv_iload_n hx hb dX2_settleMore_61 rfl (lv_at hl 1 rfl) ?_
    have e : j = 30 := by omega
    subst e
    exact ret_Mi hx hb hr hlk ((S, d)) (⟨rfl, hrn, hSb, hdb, hsd⟩) hP hD hS (Nat.le_of_ble_eq_true rfl) (Nat.le_of_ble_eq_true rfl) dX2_settleMore_62
  · refine lv_iload_n hx hb dX2_settleMore_10 rfl (lv_at hl 1 rfl) ?_
    refine lv_iload_n hx hb dX2_settleMore_11 rfl (lv_at hl 0 rfl) ?_
    refine vp_callSi (va_Run.run (va_runS (As := [.int (nI S), .int (nI (j + 1))]) (rest := []) ⟨hx, hb, hml, hown, hts⟩ (c_X2_contains l D t S (j + 1) hSb (by omega) _) (va_cwS 2 hts gX2_settleMore_X2_contains rfl rfl rfl (by decide +kernel) ⟨Nat.le_of_ble_eq_true rfl, Nat.le_of_ble_eq_true rfl⟩) (preS hP hD hK hN [] rfl (by decide)) rfl rfl hl.1 rfl (lv_room (Nat.le_of_ble_eq_true rfl)) dX2_settleMore_12 ⟨Nat.le_of_ble_eq_true rfl, Nat.le_of_ble_eq_true rfl⟩)) (fun r hw => ?_)
    rcases hw with ⟨rfl, g⟩ | ⟨rfl, g⟩
    · refine r_if_ne (x := 1) (tgt := 55) hx hb (by omega) dX2_settleMore_15 (by decide) (fun _ => ?_) (fun c => absurd c (by decide))
      refine lv_iinc (v := (nI ((j + 1) + 1))) (lv' := [(3, .int (nI ((j + 1) + 1))), (2, .int (nI S)), (0, .ref h), (1, .int (nI b))]) hx hb dX2_settleMore_55 hl (k := 0) rfl (r_inc1 _) (by decide) rfl (fun ls hl => ?_)
      refine lv_goto (tgt := 4) hx hb dX2_settleMore_58 (by decide) ?_
      have e : (S, d) = rnd cm stk (b, dp) (j + 1) := by show _ = stp cm stk (rnd cm stk (b, dp) j) (j + 1); rw [← hrn]; show _ = (if _ then _ else _); rw [if_neg (fun q => by rw [g] at q; exact absurd q.1 (by decide))]
      exact ih (j + 1, S, d) _ _ _ ⟨hP, hD, hS, lv_sub hl [0, 1, 2, 3] rfl, by omega, e, hSb, hdb, fun g hg => Nat.le_trans (hsd g hg) (Nat.mul_le_mul_left _ (by omega))⟩ (by show 30 - (j + 1) < 30 - j; omega)
    · refine r_if_ne (x := 0) (tgt := 55) hx hb (by omega) dX2_settleMore_15 (by decide) (fun c => absurd c (by decide)) (fun _ => ?_)
      refine lv_aload_n hx hb dX2_settleMore_18 rfl (lv_at hl 2 rfl) ?_
      refine va_get (D := D) (ci := 3) (v := .ref a1) (C := RX2) (T := TX2) (N := 3) hx hb hts i_X2_settleMore_X2 hown hK hP 0 rfl rfl 1 (by decide) (hts (.fieldLink RX2 15 "MemoryMap$Functions" "called" "[I") (List.mem_of_getElem? (i := 1) rfl)) (fun _ h9 => h9) rfl dX2_settleMore_19 ?_
      refine lv_iload_n hx hb dX2_settleMore_22 rfl (lv_at hl 0 rfl) ?_
      refine r_iald hx hb hK hP 2 0 rfl rfl (i := j + 1) (by omega) (by omega) dX2_settleMore_23 ?_
      have hb_0 := hcm (j + 1)
      refine lv_iload_n hx hb dX2_settleMore_24 rfl (lv_at hl 1 rfl) ?_
      refine lv_iconst (v := ((-1))) hx hb dX2_settleMore_25 (by decide) ?_
      refine lv_ixor hx hb dX2_settleMore_26 ?_
      refine lv_iand hx hb dX2_settleMore_27 ?_
      refine lv_if_ne (tgt := 55) hx hb dX2_settleMore_28 (by decide) (fun c2 => ?_) (fun c2 => ?_)
      · refine lv_iinc (v := (nI ((j + 1) + 1))) (lv' := [(3, .int (nI ((j + 1) + 1))), (2, .int (nI S)), (0, .ref h), (1, .int (nI b))]) hx hb dX2_settleMore_55 hl (k := 0) rfl (r_inc1 _) (by decide) rfl (fun ls hl => ?_)
        refine lv_goto (tgt := 4) hx hb dX2_settleMore_58 (by decide) ?_
        have e : (S, d) = rnd cm stk (b, dp) (j + 1) := by show _ = stp cm stk (rnd cm stk (b, dp) j) (j + 1); rw [← hrn]; show _ = (if _ then _ else _); rw [if_neg (fun q => c2 ((sub_ct (hcm _)).mpr q.2))]
        exact ih (j + 1, S, d) _ _ _ ⟨hP, hD, hS, lv_sub hl [0, 1, 2, 3] rfl, by omega, e, hSb, hdb, fun g hg => Nat.le_trans (hsd g hg) (Nat.mul_le_mul_left _ (by omega))⟩ (by show 30 - (j + 1) < 30 - j; omega)
      · have hsub := (sub_ct (hcm _)).mp c2
        have hle : ∀ g, (cm (j + 1)).testBit g = true → d g ≤ 1000000 * (K + j) := fun g hg => hsd g (by have q := congrArg (fun v : Nat => v.testBit g) hsub; simp only [Nat.testBit_and, hg, Bool.true_and] at q; exact q)
        have hmx : mxD (cm (j + 1)) d 30 ≤ 1000000 * (K + j) := mxD_le 30 (fun g _ _ hg => hle g hg)
        refine lv_aload_n hx hb dX2_settleMore_31 rfl (lv_at hl 2 rfl) ?_
        refine va_get (D := D) (ci := 3) (v := .ref a2) (C := RX2) (T := TX2) (N := 3) hx hb hts i_X2_settleMore_X2 hown hK hP 0 rfl rfl 2 (by decide) (hts (.fieldLink RX2 18 "MemoryMap$Functions" "depths" "[I") (List.mem_of_getElem? (i := 2) rfl)) (fun _ h9 => h9) rfl dX2_settleMore_32 ?_
        refine lv_iload_n hx hb dX2_settleMore_35 rfl (lv_at hl 0 rfl) ?_
        refine lv_aload_n hx hb dX2_settleMore_36 rfl (lv_at hl 2 rfl) ?_
        refine va_get (D := D) (ci := 3) (v := .ref a0) (C := RX2) (T := TX2) (N := 3) hx hb hts i_X2_settleMore_X2 hown hK hP 0 rfl rfl 0 (by decide) (hts (.fieldLink RX2 9 "MemoryMap$Functions" "stacks" "[I") (List.mem_of_getElem? (i := 3) rfl)) (fun _ h9 => h9) rfl dX2_settleMore_37 ?_
        refine lv_iload_n hx hb dX2_settleMore_40 rfl (lv_at hl 0 rfl) ?_
        refine r_iald hx hb hK hP 1 0 rfl rfl (i := j + 1) (by omega) (by omega) dX2_settleMore_41 ?_
        have hb_1 := hstk (j + 1)
        refine lv_aload_n hx hb dX2_settleMore_42 rfl (lv_at hl 2 rfl) ?_
        refine lv_iload_n hx hb dX2_settleMore_43 rfl (lv_at hl 0 rfl) ?_
        refine vp_callSi (va_Run.run (va_runV (As := [.int (nI (j + 1))]) (rest := [.int (nI (stk (j + 1))), .int (nI (j + 1)), .ref a2]) ⟨hx, hb, hml, hown, hts⟩ (c_X2_deepestCalled l D t h a0 a1 a2 stk cm d (j + 1) hcm hdb (by omega) _) (cwV 1 hts gX2_settleMore_X2_deepestCalled rfl rfl rfl (by decide +kernel) ⟨Nat.le_of_ble_eq_true rfl, Nat.le_of_ble_eq_true rfl⟩) (preV hP hD hK hN [0, 1, 2, 3] 3 0 rfl (by decide) rfl rfl rfl) rfl rfl hl.1 rfl (lv_room (Nat.le_of_ble_eq_true rfl)) dX2_settleMore_44 ⟨Nat.le_of_ble_eq_true rfl, Nat.le_of_ble_eq_true rfl⟩)) (fun r hw => ?_)
        subst hw
        refine r_iadd (x := (stk (j + 1))) (y := (mxD (cm (j + 1)) d 30)) hx hb dX2_settleMore_47 ?_
        refine r_iast hx hb hK hP hD hS 3 0 rfl rfl (i := j + 1) (by omega) (by omega) dX2_settleMore_48 (fun H locs hP hD hS => ?_)
        have hP : va_P D vwCl [(h, .inr (3, [.ref a0, .ref a1, .ref a2])), (a0, .inl (t 0, 31, .inl (nF stk))), (a1, .inl (t 0, 31, .inl (nF cm))), (a2, .inl (t 0, 31, .inl (nF (va_up d (j + 1) ((stk (j + 1)) + (mxD (cm (j + 1)) d 30))))))] H := hP
        have hD : va_D A [(h, .inr (3, [.ref a0, .ref a1, .ref a2])), (a0, .inl (t 0, 31, .inl (nF stk))), (a1, .inl (t 0, 31, .inl (nF cm))), (a2, .inl (t 0, 31, .inl (nF (va_up d (j + 1) ((stk (j + 1)) + (mxD (cm (j + 1)) d 30))))))] := hD
        refine lv_iload_n hx hb dX2_settleMore_49 rfl (lv_at hl 1 rfl) ?_
        refine lv_iconst (v := (nI 1)) hx hb dX2_settleMore_50 (by decide) ?_
        refine lv_iload_n hx hb dX2_settleMore_51 rfl (lv_at hl 0 rfl) ?_
        refine lv_ishl hx hb dX2_settleMore_52 ?_
        refine lv_ior hx hb dX2_settleMore_53 ?_
        refine r_topi (or_ct (by omega)) ?_
        refine lv_istore_n (lv' := [(2, .int (nI (S ||| 2 ^ (j + 1)))), (3, .int (nI (j + 1))), (0, .ref h), (1, .int (nI b))]) hx hb dX2_settleMore_54 rfl hl (by decide) rfl (fun ls hl => ?_)
        refine lv_iinc (v := (nI ((j + 1) + 1))) (lv' := [(3, .int (nI ((j + 1) + 1))), (2, .int (nI (S ||| 2 ^ (j + 1)))), (0, .ref h), (1, .int (nI b))]) hx hb dX2_settleMore_55 hl (k := 1) rfl (r_inc1 _) (by decide) rfl (fun ls hl => ?_)
        refine lv_goto (tgt := 4) hx hb dX2_settleMore_58 (by decide) ?_
        have hs1 := hstk (j + 1)
        have e : (S ||| 2 ^ (j + 1), va_up d (j + 1) (stk (j + 1) + mxD (cm (j + 1)) d 30)) = rnd cm stk (b, dp) (j + 1) := by show _ = stp cm stk (rnd cm stk (b, dp) j) (j + 1); rw [← hrn]; show _ = (if _ then _ else _); rw [if_pos ⟨g, hsub⟩]
        have hnew : stk (j + 1) + mxD (cm (j + 1)) d 30 ≤ 1000000 * (K + (j + 1)) := by omega
        refine ih (j + 1, S ||| 2 ^ (j + 1), va_up d (j + 1) (stk (j + 1) + mxD (cm (j + 1)) d 30)) _ _ _ ⟨hP, hD, hS, lv_sub hl [0, 1, 2, 3] rfl, by omega, e, ?_, fun k => ?_, fun k hk => ?_⟩ (by show 30 - (j + 1) < 30 - j; omega)
        · exact Nat.or_lt_two_pow (n := 31) hSb (Nat.pow_lt_pow_right (by decide) (by omega))
        · rw [va_upc]
          split
          · omega
          · exact hdb k
        · rw [va_upc]
          split
          · exact hnew
          · next q =>
            rw [Nat.testBit_or, Nat.testBit_two_pow_of_ne (fun z => q z.symm), Bool.or_false] at hk
            exact Nat.le_trans (hsd k hk) (Nat.mul_le_mul_left _ (by omega))

theorem stp_keep {cm stk : Nat → Nat} {x : Nat × (Nat → Nat)} {f e : Nat} (h : x.1.testBit e = true) : (stp cm stk x f).1.testBit e = true ∧ (stp cm stk x f).2 e = x.2 e := by
  unfold stp
  split
  · next q =>
    refine ⟨by rw [Nat.testBit_or, h, Bool.true_or], va_up_ne _ _ (fun z => ?_)⟩
    rw [z] at h
    rw [h] at q
    exact absurd q.1 (by decide)
  · exact ⟨h, rfl⟩
theorem rnd_keep {cm stk : Nat → Nat} {x : Nat × (Nat → Nat)} {e : Nat} (h : x.1.testBit e = true) : ∀ n, (rnd cm stk x n).1.testBit e = true ∧ (rnd cm stk x n).2 e = x.2 e
  | 0 => ⟨h, rfl⟩
  | n + 1 => by
    have ih := rnd_keep (cm := cm) (stk := stk) h n
    have q := stp_keep (cm := cm) (stk := stk) (f := n + 1) ih.1
    exact ⟨q.1, q.2.trans ih.2⟩
theorem itr_keep {cm stk : Nat → Nat} {x : Nat × (Nat → Nat)} {e n : Nat} (h : (itr cm stk x n).1.testBit e = true) : ∀ k, (itr cm stk x (n + k)).1.testBit e = true ∧ (itr cm stk x (n + k)).2 e = (itr cm stk x n).2 e
  | 0 => ⟨h, rfl⟩
  | k + 1 => by
    have ih := itr_keep h k
    have q := rnd_keep (cm := cm) (stk := stk) ih.1 30
    exact ⟨q.1, q.2.trans ih.2⟩

theorem i_X2_depthFrom_X2 : ∀ w ∈ wsX20, w ∈ wsX2_depthFrom := by decide +kernel
abbrev rm_X2_depthFrom : Room := { frames := 3, cells := 0, slots := 0, locals := 67 }
set_option maxHeartbeats 1000000 in
set_option maxRecDepth 100000 in
theorem c_X2_depthFrom (l : Launch) (D : va_G) (t : Nat → ClassId) (h a0 a1 a2 : Nat) (stk cm dp : Nat → Nat) (en : Nat) (hcm : ∀ k, cm k < 2147483648) (hdp : ∀ k, dp k ≤ 900000000) (hstk : ∀ k, stk k ≤ 1000000) (hen : en ≤ 30) : Mi l yX2_depthFrom wsX2_depthFrom rm_X2_depthFrom D (TY t) [.ref h, .int (nI en)] [(h, .inr (3, [.ref a0, .ref a1, .ref a2])), (a0, .inl (t 0, 31, .inl (nF stk))), (a1, .inl (t 0, 31, .inl (nF cm))), (a2, .inl (t 0, 31, .inl (nF dp)))] (S := Nat → Nat) (fun r u => (∀ k, u k ≤ 900000000) ∧ (((itr cm stk (0, dp) 30).1.testBit en = true ∧ r = nI ((itr cm stk (0, dp) 30).2 en) ∧ (itr cm stk (0, dp) 30).2 en ≤ 900000000) ∨ ((itr cm stk (0, dp) 30).1.testBit en = false ∧ r = (-1)))) (fun u => [(h, .inr (3, [.ref a0, .ref a1, .ref a2])), (a0, .inl (t 0, 31, .inl (nF stk))), (a1, .inl (t 0, 31, .inl (nF cm))), (a2, .inl (t 0, 31, .inl (nF u)))]) := by
  refine start_Mi cX2_depthFrom 4 (some .int) (by decide) rfl (Nat.le_of_ble_eq_true rfl) ?_
  intro p e s m below meth c A ls B hin hP hD hS hA hl
  obtain ⟨hx, hb, hr, hts, hown, hlk, hml, hN, hK⟩ := B
  have hl : lv_has ls 4 [(0, .ref h), (1, .int (nI en))] := hl
  refine lv_iconst (v := (nI 0)) hx hb dX2_depthFrom_0 (by decide) ?_
  refine lv_istore_n (lv' := [(2, .int (nI 0)), (0, .ref h), (1, .int (nI en))]) hx hb dX2_depthFrom_1 rfl hl (by decide) rfl (fun ls hl => ?_)
  refine lv_iconst (v := (nI 0)) hx hb dX2_depthFrom_2 (by decide) ?_
  refine lv_istore_n (lv' := [(3, .int (nI 0)), (2, .int (nI 0)), (0, .ref h), (1, .int (nI en))]) hx hb dX2_depthFrom_3 rfl hl (by decide) rfl (fun ls hl => ?_)
  refine W_loop (σ := Nat × Nat × (Nat → Nat)) (fun x => 30 - x.1) (fun x H locs ls => match x with | (j, S, d) => va_P D vwCl [(h, .inr (3, [.ref a0, .ref a1, .ref a2])), (a0, .inl (t 0, 31, .inl (nF stk))), (a1, .inl (t 0, 31, .inl (nF cm))), (a2, .inl (t 0, 31, .inl (nF d)))] H ∧ va_D A [(h, .inr (3, [.ref a0, .ref a1, .ref a2])), (a0, .inl (t 0, 31, .inl (nF stk))), (a1, .inl (t 0, 31, .inl (nF cm))), (a2, .inl (t 0, 31, .inl (nF d)))] ∧ va_S A s.heap H locs ∧ lv_has ls 4 [(3, .int (nI j)), (2, .int (nI S)), (0, .ref h), (1, .int (nI en))] ∧ j ≤ 30 ∧ (S, d) = itr cm stk (0, dp) j ∧ S < 2147483648 ∧ (∀ k, d k ≤ 900000000) ∧ ∀ g, S.testBit g = true → d g ≤ 1000000 * (30 * j)) ?_ (0, 0, dp) _ _ _ ⟨hP, hD, hS, hl, by decide, rfl, by decide, hdp, fun g hg => by rw [Nat.zero_testBit] at hg; exact absurd hg (by decide)⟩
  rintro ⟨j, S, d⟩ H locs ls ⟨hP, hD, hS, hl, hj, hrn, hSb, hdb, hsd⟩ ih
  refine lv_iload_n hx hb dX2_depthFrom_4 rfl (lv_at hl 0 rfl) ?_
  refine lv_bipush (v := (nI 30)) hx hb dX2_depthFrom_5 (by decide) ?_
  refine r_icmp_ge (x := j) (y := 30) (tgt := 30) hx hb (by omega) (by omega) dX2_depthFrom_7 (by decide) (fun c1 => ?_) (fun c1 => ?_)
  · refine lv_iload_n hx hb dX2_depthFrom_30 rfl (lv_at hl 1 rfl) ?_
    refine lv_iload_n hx hb dX2_depthFrom_31 rfl (lv_at hl 3 rfl) ?_
    refine vp_callSi (va_Run.run (va_runS (As := [.int (nI S), .int (nI en)]) (rest := []) ⟨hx, hb, hml, hown, hts⟩ (c_X2_contains l D t S en hSb (by omega) _) (va_cwS 2 hts gX2_depthFrom_X2_contains rfl rfl rfl (by decide +kernel) ⟨Nat.le_of_ble_eq_true rfl, Nat.le_of_ble_eq_true rfl⟩) (preS hP hD hK hN [] rfl (by decide)) rfl rfl hl.1 rfl (lv_room (Nat.le_of_ble_eq_true rfl)) dX2_depthFrom_32 ⟨Nat.le_of_ble_eq_true rfl, Nat.le_of_ble_eq_true rfl⟩)) (fun r hw => ?_)
    rcases hw with ⟨rfl, g2⟩ | ⟨rfl, g2⟩
    · refine r_if_eq (x := 1) (tgt := 47) hx hb (by omega) dX2_depthFrom_35 (by decide) (fun c => absurd c (by decide)) (fun _ => ?_)
      refine lv_aload_n hx hb dX2_depthFrom_38 rfl (lv_at hl 2 rfl) ?_
      refine va_get (D := D) (ci := 3) (v := .ref a2) (C := RX2) (T := TX2) (N := 3) hx hb hts i_X2_depthFrom_X2 hown hK hP 0 rfl rfl 2 (by decide) (hts (.fieldLink RX2 18 "MemoryMap$Functions" "depths" "[I") (List.mem_of_getElem? (i := 1) rfl)) (fun _ h9 => h9) rfl dX2_depthFrom_39 ?_
      refine lv_iload_n hx hb dX2_depthFrom_42 rfl (lv_at hl 3 rfl) ?_
      refine r_iald hx hb hK hP 3 0 rfl rfl (i := en) (by omega) (by omega) dX2_depthFrom_43 ?_
      have hb_0 := hdb en
      refine lv_goto (tgt := 48) hx hb dX2_depthFrom_44 (by decide) ?_
      have hk := itr_keep (cm := cm) (stk := stk) (x := (0, dp)) (e := en) (n := j) (by rw [← hrn]; exact g2) (30 - j)
      rw [show j + (30 - j) = 30 by omega, ← hrn] at hk
      have hb8 := hdb en
      exact ret_Mi hx hb hr hlk (d) (⟨hdb, Or.inl ⟨hk.1, by rw [hk.2], by rw [hk.2]; exact hb8⟩⟩) hP hD hS (Nat.le_of_ble_eq_true rfl) (Nat.le_of_ble_eq_true rfl) dX2_depthFrom_48
    · refine r_if_eq (x := 0) (tgt := 47) hx hb (by omega) dX2_depthFrom_35 (by decide) (fun _ => ?_) (fun c => absurd c (by decide))
      refine lv_iconst (v := ((-1))) hx hb dX2_depthFrom_47 (by decide) ?_
      exact ret_Mi hx hb hr hlk (d) (⟨hdb, Or.inr ⟨by rw [show (30 : Nat) = j by omega, ← hrn]; exact g2, rfl⟩⟩) hP hD hS (Nat.le_of_ble_eq_true rfl) (Nat.le_of_ble_eq_true rfl) dX2_depthFrom_48
  · refine lv_iload_n hx hb dX2_depthFrom_10 rfl (lv_at hl 1 rfl) ?_
    refine lv_iload_n hx hb dX2_depthFrom_11 rfl (lv_at hl 3 rfl) ?_
    refine vp_callSi (va_Run.run (va_runS (As := [.int (nI S), .int (nI en)]) (rest := []) ⟨hx, hb, hml, hown, hts⟩ (c_X2_contains l D t S en hSb (by omega) _) (va_cwS 2 hts gX2_depthFrom_X2_contains rfl rfl rfl (by decide +kernel) ⟨Nat.le_of_ble_eq_true rfl, Nat.le_of_ble_eq_true rfl⟩) (preS hP hD hK hN [] rfl (by decide)) rfl rfl hl.1 rfl (lv_room (Nat.le_of_ble_eq_true rfl)) dX2_depthFrom_12 ⟨Nat.le_of_ble_eq_true rfl, Nat.le_of_ble_eq_true rfl⟩)) (fun r hw => ?_)
    rcases hw with ⟨rfl, g⟩ | ⟨rfl, g⟩
    · refine r_if_ne (x := 1) (tgt := 30) hx hb (by omega) dX2_depthFrom_15 (by decide) (fun _ => ?_) (fun c => absurd c (by decide))
      refine lv_iload_n hx hb dX2_depthFrom_30 rfl (lv_at hl 1 rfl) ?_
      refine lv_iload_n hx hb dX2_depthFrom_31 rfl (lv_at hl 3 rfl) ?_
      refine vp_callSi (va_Run.run (va_runS (As := [.int (nI S), .int (nI en)]) (rest := []) ⟨hx, hb, hml, hown, hts⟩ (c_X2_contains l D t S en hSb (by omega) _) (va_cwS 2 hts gX2_depthFrom_X2_contains rfl rfl rfl (by decide +kernel) ⟨Nat.le_of_ble_eq_true rfl, Nat.le_of_ble_eq_true rfl⟩) (preS hP hD hK hN [] rfl (by decide)) rfl rfl hl.1 rfl (lv_room (Nat.le_of_ble_eq_true rfl)) dX2_depthFrom_32 ⟨Nat.le_of_ble_eq_true rfl, Nat.le_of_ble_eq_true rfl⟩)) (fun r hw => ?_)
      rcases hw with ⟨rfl, g2⟩ | ⟨rfl, g2⟩
      · refine r_if_eq (x := 1) (tgt := 47) hx hb (by omega) dX2_depthFrom_35 (by decide) (fun c => absurd c (by decide)) (fun _ => ?_)
        refine lv_aload_n hx hb dX2_depthFrom_38 rfl (lv_at hl 2 rfl) ?_
        refine va_get (D := D) (ci := 3) (v := .ref a2) (C := RX2) (T := TX2) (N := 3) hx hb hts i_X2_depthFrom_X2 hown hK hP 0 rfl rfl 2 (by decide) (hts (.fieldLink RX2 18 "MemoryMap$Functions" "depths" "[I") (List.mem_of_getElem? (i := 1) rfl)) (fun _ h9 => h9) rfl dX2_depthFrom_39 ?_
        refine lv_iload_n hx hb dX2_depthFrom_42 rfl (lv_at hl 3 rfl) ?_
        refine r_iald hx hb hK hP 3 0 rfl rfl (i := en) (by omega) (by omega) dX2_depthFrom_43 ?_
        have hb_0 := hdb en
        refine lv_goto (tgt := 48) hx hb dX2_depthFrom_44 (by decide) ?_
        have hk := itr_keep (cm := cm) (stk := stk) (x := (0, dp)) (e := en) (n := j) (by rw [← hrn]; exact g2) (30 - j)
        rw [show j + (30 - j) = 30 by omega, ← hrn] at hk
        have hb8 := hdb en
        exact ret_Mi hx hb hr hlk (d) (⟨hdb, Or.inl ⟨hk.1, by rw [hk.2], by rw [hk.2]; exact hb8⟩⟩) hP hD hS (Nat.le_of_ble_eq_true rfl) (Nat.le_of_ble_eq_true rfl) dX2_depthFrom_48
      · rw [g] at g2; exact absurd g2 (by decide)
    · refine r_if_ne (x := 0) (tgt := 30) hx hb (by omega) dX2_depthFrom_15 (by decide) (fun c => absurd c (by decide)) (fun _ => ?_)
      refine lv_aload_n hx hb dX2_depthFrom_18 rfl (lv_at hl 2 rfl) ?_
      refine lv_iload_n hx hb dX2_depthFrom_19 rfl (lv_at hl 1 rfl) ?_
      refine call_Mi (wr := []) (wn := fun v : Nat × (Nat → Nat) => [(h, .inr (3, [.ref a0, .ref a1, .ref a2])), (a0, .inl (t 0, 31, .inl (nF stk))), (a1, .inl (t 0, 31, .inl (nF cm))), (a2, .inl (t 0, 31, .inl (nF v.2)))]) (va_runV (As := [.int (nI S)]) (rest := []) ⟨hx, hb, hml, hown, hts⟩ (c_X2_settleMore l D t h a0 a1 a2 stk cm d S (30 * j) hcm hdb hstk hSb (by omega) hsd _) (cwV 1 hts gX2_depthFrom_X2_settleMore rfl rfl rfl (by decide +kernel) ⟨Nat.le_of_ble_eq_true rfl, Nat.le_of_ble_eq_true rfl⟩) (preV hP hD hK hN [0, 1, 2, 3] 3 0 rfl (by decide) rfl rfl rfl) rfl rfl hl.1 rfl (lv_room (Nat.le_of_ble_eq_true rfl)) dX2_depthFrom_20 ⟨Nat.le_of_ble_eq_true rfl, Nat.le_of_ble_eq_true rfl⟩) hP hD hS hA [0, 1, 2, 3] [] [0, 1, 2, 3] rfl rfl (by decide) (by decide) (fun _ => rfl) (by decide) (fun r v H locs hw hP hD hS hz => ?_)
      have hP : va_P D vwCl [(h, .inr (3, [.ref a0, .ref a1, .ref a2])), (a0, .inl (t 0, 31, .inl (nF stk))), (a1, .inl (t 0, 31, .inl (nF cm))), (a2, .inl (t 0, 31, .inl (nF v.2)))] H := hP
      have hD : va_D A [(h, .inr (3, [.ref a0, .ref a1, .ref a2])), (a0, .inl (t 0, 31, .inl (nF stk))), (a1, .inl (t 0, 31, .inl (nF cm))), (a2, .inl (t 0, 31, .inl (nF v.2)))] := hD
      obtain ⟨S2, d2⟩ := v
      obtain ⟨rfl, he, h5, h6, h7⟩ := hw
      have hP : va_P D vwCl [(h, .inr (3, [.ref a0, .ref a1, .ref a2])), (a0, .inl (t 0, 31, .inl (nF stk))), (a1, .inl (t 0, 31, .inl (nF cm))), (a2, .inl (t 0, 31, .inl (nF d2)))] H := hP
      have hD : va_D A [(h, .inr (3, [.ref a0, .ref a1, .ref a2])), (a0, .inl (t 0, 31, .inl (nF stk))), (a1, .inl (t 0, 31, .inl (nF cm))), (a2, .inl (t 0, 31, .inl (nF d2)))] := hD
      refine lv_istore_n (lv' := [(2, .int (nI S2)), (3, .int (nI j)), (0, .ref h), (1, .int (nI en))]) hx hb dX2_depthFrom_23 rfl hl (by decide) rfl (fun ls hl => ?_)
      refine lv_iinc (v := (nI (j + 1))) (lv' := [(3, .int (nI (j + 1))), (2, .int (nI S2)), (0, .ref h), (1, .int (nI en))]) hx hb dX2_depthFrom_24 hl (k := 1) rfl (r_inc1 _) (by decide) rfl (fun ls hl => ?_)
      refine lv_goto (tgt := 4) hx hb dX2_depthFrom_27 (by decide) ?_
      exact ih (j + 1, S2, d2) _ _ _ ⟨hP, hD, hS, lv_sub hl [0, 1, 2, 3] rfl, by omega, by rw [he]; show _ = rnd cm stk (itr cm stk (0, dp) j) 30; rw [← hrn], h5, h6, fun g hg => by have := h7 g hg; omega⟩ (by show 30 - (j + 1) < 30 - j; omega)
