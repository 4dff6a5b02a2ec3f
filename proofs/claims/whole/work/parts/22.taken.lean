/-- the least multiple of d from a on -/
def upA (a d : Nat) : Nat := (a + d - 1) / d * d
theorem upA_dvd (a d : Nat) : d ∣ upA a d := Nat.dvd_mul_left _ _
theorem upA_ge {a d : Nat} (h : 1 ≤ d) : a ≤ upA a d := by
  unfold upA
  have h1 := Nat.div_add_mod (a + d - 1) d
  have h2 := Nat.mod_lt (a + d - 1) (show d > 0 by omega)
  rw [Nat.mul_comm] at h1
  omega
theorem upA_lt {a d : Nat} (h : 1 ≤ d) : upA a d < a + d := by
  unfold upA
  have h1 := Nat.div_mul_le_self (a + d - 1) d
  omega
theorem upA_least {a d b : Nat} (h : 1 ≤ d) (hb : d ∣ b) (hab : a ≤ b) : upA a d ≤ b := by
  obtain ⟨k, rfl⟩ := hb
  unfold upA
  have h1 : (a + d - 1) / d ≤ k := by
    rw [Nat.div_le_iff_le_mul_add_pred (by omega)]
    omega
  rw [Nat.mul_comm d k]
  exact Nat.mul_le_mul_right d h1
/-- so many octets from a on are free of the c stretches -/
def Fre (ts te : Nat → Nat) (c a len : Nat) : Prop := ∀ i, i < c → te i ≤ a ∨ a + len ≤ ts i
theorem i_X6_clear_X6 : ∀ w ∈ wsX60, w ∈ wsX6_clear := by decide +kernel
abbrev rm_X6_clear : Room := { frames := 0, cells := 0, slots := 0, locals := 0 }
set_option maxHeartbeats 1000000 in
set_option maxRecDepth 100000 in
theorem c_X6_clear (l : Launch) (D : va_G) (t : Nat → ClassId) (h a0 a1 n : Nat) (ts te : Nat → Nat)  : Mv l yX6_clear wsX6_clear rm_X6_clear D (TY t) [.ref h] [(h, .inr (7, [.ref a0, .ref a1, .int (nI n)])), (a0, .inl (t 0, 40, .inl (nF ts))), (a1, .inl (t 0, 40, .inl (nF te)))] (S := Unit) (fun _ => True) (fun _ => [(h, .inr (7, [.ref a0, .ref a1, .int (nI 0)])), (a0, .inl (t 0, 40, .inl (nF ts))), (a1, .inl (t 0, 40, .inl (nF te)))]) := by
  refine start_Mv cX6_clear 1 none (by decide) rfl (Nat.le_of_ble_eq_true rfl) ?_
  intro p e s m below meth c A ls B hin hP hD hS hA hl
  obtain ⟨hx, hb, hr, hts, hown, hlk, hml, hN, hK⟩ := B
  have hl : lv_has ls 1 [(0, .ref h)] := hl
  refine lv_aload_n hx hb dX6_clear_0 rfl (lv_at hl 0 rfl) ?_
  refine lv_iconst (v := (nI 0)) hx hb dX6_clear_1 (by decide) ?_
  refine va_put (D := D) (ci := 7) (v := .int (nI 0)) (ty := .int) (C := RX6) (T := TX6) (N := 3) hx hb hts i_X6_clear_X6 tyX6 tyX6_ok nmX6 hown hK hP hD hS 0 rfl rfl 2 (by decide) (hts (.fieldLink RX6 18 "MemoryMap$Taken" "count" "I") (List.mem_of_getElem? (i := 1) rfl)) (fun _ h9 => h9) rfl (by decide +kernel) rfl rfl (Nat.le_of_ble_eq_true rfl) dX6_clear_2 (fun H locs hP hD hS => ?_)
  have hP : va_P D vwCl [(h, .inr (7, [.ref a0, .ref a1, .int (nI 0)])), (a0, .inl (t 0, 40, .inl (nF ts))), (a1, .inl (t 0, 40, .inl (nF te)))] H := hP
  have hD : va_D A [(h, .inr (7, [.ref a0, .ref a1, .int (nI 0)])), (a0, .inl (t 0, 40, .inl (nF ts))), (a1, .inl (t 0, 40, .inl (nF te)))] := hD
  exact ret_Mv hx hb hr hlk (()) (trivial) hP hD hS (Nat.le_of_ble_eq_true rfl) (Nat.le_of_ble_eq_true rfl) dX6_clear_5

theorem i_X6_leastFree_X6 : ∀ w ∈ wsX60, w ∈ wsX6_leastFree := by decide +kernel
abbrev rm_X6_leastFree : Room := { frames := 1, cells := 0, slots := 0, locals := 21 }
set_option maxHeartbeats 1000000 in
set_option maxRecDepth 100000 in
theorem c_X6_leastFree (l : Launch) (D : va_G) (t : Nat → ClassId) (h a0 a1 n : Nat) (ts te : Nat → Nat) (fr len al : Nat) (hn : n ≤ 40) (hts1 : ∀ k, ts k ≤ 65536) (hte1 : ∀ k, te k ≤ 65536) (hso : ∀ i j, i < j → j < n → te i ≤ ts j) (hlt : ∀ i, i < n → ts i < te i) (hfr : fr ≤ 65536) (hlen : len ≤ 65536) (hal : 1 ≤ al) (hal2 : al ≤ 65536) : Qi l yX6_leastFree wsX6_leastFree rm_X6_leastFree D (TY t) [.ref h, .int (nI fr), .int (nI len), .int (nI al)] [(h, .inr (7, [.ref a0, .ref a1, .int (nI n)])), (a0, .inl (t 0, 40, .inl (nF ts))), (a1, .inl (t 0, 40, .inl (nF te)))] (fun r => ∃ a, r = nI a ∧ al ∣ a ∧ fr ≤ a ∧ Fre ts te n a len ∧ (∀ b, fr ≤ b → b < a → al ∣ b → ¬ Fre ts te n b len) ∧ a ≤ 200000) := by
  refine start_Qi cX6_leastFree 6 (some .int) (by decide) rfl (Nat.le_of_ble_eq_true rfl) ?_
  intro p e s m below meth c ls B hP hD hl
  obtain ⟨hx, hb, hr, hts, hown, hlk, hml, hN, hK⟩ := B
  have hl : lv_has ls 6 [(0, .ref h), (1, .int (nI fr)), (2, .int (nI len)), (3, .int (nI al))] := hl
  refine lv_iload_n hx hb dX6_leastFree_0 rfl (lv_at hl 1 rfl) ?_
  refine lv_iload_n hx hb dX6_leastFree_1 rfl (lv_at hl 3 rfl) ?_
  refine vp_callSi (va_Run.run (va_runS (As := [.int (nI fr), .int (nI al)]) (rest := []) ⟨hx, hb, hml, hown, hts⟩ (c_X6_alignedUp l D t fr al (by omega) hal (by omega) _) (va_cwS 2 hts gX6_leastFree_X6_alignedUp rfl rfl rfl (by decide +kernel) ⟨Nat.le_of_ble_eq_true rfl, Nat.le_of_ble_eq_true rfl⟩) (preS hP hD hK hN [] rfl (by decide)) rfl rfl hl.1 rfl (lv_room (Nat.le_of_ble_eq_true rfl)) dX6_leastFree_2 ⟨Nat.le_of_ble_eq_true rfl, Nat.le_of_ble_eq_true rfl⟩)) (fun r hw => ?_)
  obtain ⟨z, rfl, hz⟩ : ∃ z, r = nI z ∧ z = upA fr al := ⟨_, hw, rfl⟩
  refine lv_istore (lv' := [(4, .int (nI z)), (0, .ref h), (1, .int (nI fr)), (2, .int (nI len)), (3, .int (nI al))]) hx hb dX6_leastFree_5 hl (by decide) rfl (fun ls hl => ?_)
  refine lv_iconst (v := (nI 0)) hx hb dX6_leastFree_7 (by decide) ?_
  refine lv_istore (lv' := [(5, .int (nI 0)), (4, .int (nI z)), (0, .ref h), (1, .int (nI fr)), (2, .int (nI len)), (3, .int (nI al))]) hx hb dX6_leastFree_8 hl (by decide) rfl (fun ls hl => ?_)
  have hz1 := upA_ge (a := fr) hal
  have hz2 := upA_lt (a := fr) hal
  refine W_loop (σ := Nat × Nat) (fun x => n - x.1) (fun x H locs ls => match x with | (i, z) => H = s.heap ∧ locs = [] ∧ lv_has ls 6 [(5, .int (nI i)), (4, .int (nI z)), (0, .ref h), (1, .int (nI fr)), (2, .int (nI len)), (3, .int (nI al))] ∧ i ≤ n ∧ al ∣ z ∧ fr ≤ z ∧ (∀ j, j < i → te j ≤ z) ∧ (∀ b, fr ≤ b → b < z → al ∣ b → ¬ Fre ts te n b len) ∧ z ≤ 200000) ?_ (0, z) _ _ _ ⟨rfl, rfl, hl, Nat.zero_le _, by rw [hz]; exact upA_dvd _ _, by omega, fun j hj => absurd hj (Nat.not_lt_zero _), fun b h1 h2 h3 => absurd (upA_least hal h3 h1) (by omega), by omega⟩
  clear hz hz1 hz2 hl
  rintro ⟨i, z⟩ _ _ ls ⟨rfl, rfl, hl, hi, hd, hge, hbe, hmin, hzb⟩ ih
  refine lv_iload hx hb dX6_leastFree_10 (lv_at hl 0 rfl) ?_
  refine lv_aload_n hx hb dX6_leastFree_12 rfl (lv_at hl 2 rfl) ?_
  refine va_get (D := D) (ci := 7) (v := .int (nI n)) (C := RX6) (T := TX6) (N := 3) hx hb hts i_X6_leastFree_X6 hown hK hP 0 rfl rfl 2 (by decide) (hts (.fieldLink RX6 18 "MemoryMap$Taken" "count" "I") (List.mem_of_getElem? (i := 1) rfl)) (fun _ h9 => h9) rfl dX6_leastFree_13 ?_
  refine r_icmp_ge (x := i) (y := n) (tgt := 64) hx hb (by omega) (by omega) dX6_leastFree_16 (by decide) (fun c1 => ?_) (fun c1 => ?_)
  · refine lv_iload hx hb dX6_leastFree_64 (lv_at hl 1 rfl) ?_
    exact ret_Qi hx hb hr hlk (⟨z, rfl, hd, hge, fun j hj => Or.inl (hbe j (by omega)), hmin, hzb⟩) dX6_leastFree_66
  · refine lv_aload_n hx hb dX6_leastFree_19 rfl (lv_at hl 2 rfl) ?_
    refine va_get (D := D) (ci := 7) (v := .ref a0) (C := RX6) (T := TX6) (N := 3) hx hb hts i_X6_leastFree_X6 hown hK hP 0 rfl rfl 0 (by decide) (hts (.fieldLink RX6 9 "MemoryMap$Taken" "starts" "[I") (List.mem_of_getElem? (i := 2) rfl)) (fun _ h9 => h9) rfl dX6_leastFree_20 ?_
    refine lv_iload hx hb dX6_leastFree_23 (lv_at hl 0 rfl) ?_
    refine r_iald hx hb hK hP 1 0 rfl rfl (i := i) (by omega) (by omega) dX6_leastFree_25 ?_
    have hb_0 := hts1 i
    refine lv_iload hx hb dX6_leastFree_26 (lv_at hl 1 rfl) ?_
    refine lv_iload_n hx hb dX6_leastFree_28 rfl (lv_at hl 4 rfl) ?_
    refine r_iadd (x := z) (y := len) hx hb dX6_leastFree_29 ?_
    refine r_icmp_ge (x := (ts i)) (y := (z + len)) (tgt := 64) hx hb (by omega) (by omega) dX6_leastFree_30 (by decide) (fun c2 => ?_) (fun c2 => ?_)
    · refine lv_iload hx hb dX6_leastFree_64 (lv_at hl 1 rfl) ?_
      exact ret_Qi hx hb hr hlk (⟨z, rfl, hd, hge, fun j hj => (Nat.lt_or_ge j i).elim (fun q => Or.inl (hbe j q)) (fun q => Or.inr ((Nat.eq_or_lt_of_le q).elim (fun e => e ▸ c2) (fun q2 => by have := hso i j q2 hj; have := hlt i c1; omega))), hmin, hzb⟩) dX6_leastFree_66
    · refine lv_aload_n hx hb dX6_leastFree_33 rfl (lv_at hl 2 rfl) ?_
      refine va_get (D := D) (ci := 7) (v := .ref a1) (C := RX6) (T := TX6) (N := 3) hx hb hts i_X6_leastFree_X6 hown hK hP 0 rfl rfl 1 (by decide) (hts (.fieldLink RX6 15 "MemoryMap$Taken" "ends" "[I") (List.mem_of_getElem? (i := 3) rfl)) (fun _ h9 => h9) rfl dX6_leastFree_34 ?_
      refine lv_iload hx hb dX6_leastFree_37 (lv_at hl 0 rfl) ?_
      refine r_iald hx hb hK hP 2 0 rfl rfl (i := i) (by omega) (by omega) dX6_leastFree_39 ?_
      have hb_1 := hte1 i
      refine lv_iload hx hb dX6_leastFree_40 (lv_at hl 1 rfl) ?_
      refine r_icmp_le (x := (te i)) (y := z) (tgt := 58) hx hb (by omega) (by omega) dX6_leastFree_42 (by decide) (fun c3 => ?_) (fun c3 => ?_)
      · refine lv_iinc (v := (nI (i + 1))) (lv' := [(5, .int (nI (i + 1))), (4, .int (nI z)), (0, .ref h), (1, .int (nI fr)), (2, .int (nI len)), (3, .int (nI al))]) hx hb dX6_leastFree_58 hl (k := 0) rfl (r_inc1 _) (by decide) rfl (fun ls hl => ?_)
        refine lv_goto (tgt := 10) hx hb dX6_leastFree_61 (by decide) ?_
        refine ih (i + 1, z) _ _ _ ⟨rfl, rfl, lv_sub hl [0, 1, 2, 3, 4, 5] rfl, by omega, hd, hge, fun j hj => ?_, hmin, hzb⟩ (by show n - (i + 1) < n - i; omega)
        rcases Nat.lt_succ_iff_lt_or_eq.mp hj with hj | rfl
        · exact hbe j hj
        · exact c3
      · refine lv_aload_n hx hb dX6_leastFree_45 rfl (lv_at hl 2 rfl) ?_
        refine va_get (D := D) (ci := 7) (v := .ref a1) (C := RX6) (T := TX6) (N := 3) hx hb hts i_X6_leastFree_X6 hown hK hP 0 rfl rfl 1 (by decide) (hts (.fieldLink RX6 15 "MemoryMap$Taken" "ends" "[I") (List.mem_of_getElem? (i := 3) rfl)) (fun _ h9 => h9) rfl dX6_leastFree_46 ?_
        refine lv_iload hx hb dX6_leastFree_49 (lv_at hl 0 rfl) ?_
        refine r_iald hx hb hK hP 2 0 rfl rfl (i := i) (by omega) (by omega) dX6_leastFree_51 ?_
        have hb_2 := hte1 i
        refine lv_iload_n hx hb dX6_leastFree_52 rfl (lv_at hl 5 rfl) ?_
        have hteb := hte1 i
        refine vp_callSi (va_Run.run (va_runS (As := [.int (nI (te i)), .int (nI al)]) (rest := []) ⟨hx, hb, hml, hown, hts⟩ (c_X6_alignedUp l D t (te i) al (by omega) hal (by omega) _) (va_cwS 2 hts gX6_leastFree_X6_alignedUp rfl rfl rfl (by decide +kernel) ⟨Nat.le_of_ble_eq_true rfl, Nat.le_of_ble_eq_true rfl⟩) (preS hP hD hK hN [] rfl (by decide)) rfl rfl hl.1 rfl (lv_room (Nat.le_of_ble_eq_true rfl)) dX6_leastFree_53 ⟨Nat.le_of_ble_eq_true rfl, Nat.le_of_ble_eq_true rfl⟩)) (fun r hw => ?_)
        obtain ⟨y, rfl, hy⟩ : ∃ z, r = nI z ∧ z = upA (te i) al := ⟨_, hw, rfl⟩
        have hy1 := upA_ge (a := te i) hal
        have hy2 := upA_lt (a := te i) hal
        refine lv_istore (lv' := [(4, .int (nI y)), (5, .int (nI i)), (0, .ref h), (1, .int (nI fr)), (2, .int (nI len)), (3, .int (nI al))]) hx hb dX6_leastFree_56 hl (by decide) rfl (fun ls hl => ?_)
        refine lv_iinc (v := (nI (i + 1))) (lv' := [(5, .int (nI (i + 1))), (4, .int (nI y)), (0, .ref h), (1, .int (nI fr)), (2, .int (nI len)), (3, .int (nI al))]) hx hb dX6_leastFree_58 hl (k := 1) rfl (r_inc1 _) (by decide) rfl (fun ls hl => ?_)
        refine lv_goto (tgt := 10) hx hb dX6_leastFree_61 (by decide) ?_
        refine ih (i + 1, y) _ _ _ ⟨rfl, rfl, lv_sub hl [0, 1, 2, 3, 4, 5] rfl, by omega, by rw [hy]; exact upA_dvd _ _, by omega, fun j hj => ?_, fun b q1 q2 q3 => ?_, by omega⟩ (by show n - (i + 1) < n - i; omega)
        · rcases Nat.lt_succ_iff_lt_or_eq.mp hj with hj | rfl
          · have := hbe j hj; omega
          · omega
        · rcases Nat.lt_or_ge b z with q | q
          · exact hmin b q1 q q3
          · intro hf
            rcases hf i c1 with f | f
            · have := upA_least hal q3 f; omega
            · omega

theorem i_X6_add_X6 : ∀ w ∈ wsX60, w ∈ wsX6_add := by decide +kernel
abbrev rm_X6_add : Room := { frames := 0, cells := 0, slots := 0, locals := 0 }
set_option maxHeartbeats 1000000 in
set_option maxRecDepth 100000 in
theorem c_X6_add (l : Launch) (D : va_G) (t : Nat → ClassId) (h a0 a1 n : Nat) (ts te : Nat → Nat) (st en : Nat) (hn : n < 40) (hts1 : ∀ k, ts k ≤ 65536) (hst : st ≤ 65536) : Mv l yX6_add wsX6_add rm_X6_add D (TY t) [.ref h, .int (nI st), .int (nI en)] [(h, .inr (7, [.ref a0, .ref a1, .int (nI n)])), (a0, .inl (t 0, 40, .inl (nF ts))), (a1, .inl (t 0, 40, .inl (nF te)))] (S := Nat × (Nat → Nat) × (Nat → Nat)) (fun u => ∃ g1 g2, u = (n + 1, g1, g2) ∧ ∃ p, InsAt ts g1 n p st ∧ InsAt te g2 n p en ∧ (p = 0 ∨ ts (p - 1) ≤ st) ∧ (∀ i, p ≤ i → i < n → st < ts i) ∧ (∀ k, n < k → g1 k = ts k ∧ g2 k = te k)) (fun u => [(h, .inr (7, [.ref a0, .ref a1, .int (nI (u.1))])), (a0, .inl (t 0, 40, .inl (nF u.2.1))), (a1, .inl (t 0, 40, .inl (nF u.2.2)))]) := by
  refine start_Mv cX6_add 4 none (by decide) rfl (Nat.le_of_ble_eq_true rfl) ?_
  intro p e s m below meth c A ls B hin hP hD hS hA hl
  obtain ⟨hx, hb, hr, hts, hown, hlk, hml, hN, hK⟩ := B
  have hl : lv_has ls 4 [(0, .ref h), (1, .int (nI st)), (2, .int (nI en))] := hl
  refine lv_aload_n hx hb dX6_add_0 rfl (lv_at hl 0 rfl) ?_
  refine va_get (D := D) (ci := 7) (v := .int (nI n)) (C := RX6) (T := TX6) (N := 3) hx hb hts i_X6_add_X6 hown hK hP 0 rfl rfl 2 (by decide) (hts (.fieldLink RX6 18 "MemoryMap$Taken" "count" "I") (List.mem_of_getElem? (i := 1) rfl)) (fun _ h9 => h9) rfl dX6_add_1 ?_
  refine lv_bipush (v := (nI 40)) hx hb dX6_add_4 (by decide) ?_
  refine r_icmp_lt (x := n) (y := 40) (tgt := 10) hx hb (by omega) (by omega) dX6_add_6 (by decide) (fun c1 => ?_) (fun c1 => ?_)
  · refine lv_aload_n hx hb dX6_add_10 rfl (lv_at hl 0 rfl) ?_
    refine va_get (D := D) (ci := 7) (v := .int (nI n)) (C := RX6) (T := TX6) (N := 3) hx hb hts i_X6_add_X6 hown hK hP 0 rfl rfl 2 (by decide) (hts (.fieldLink RX6 18 "MemoryMap$Taken" "count" "I") (List.mem_of_getElem? (i := 1) rfl)) (fun _ h9 => h9) rfl dX6_add_11 ?_
    refine lv_istore_n (lv' := [(3, .int (nI n)), (0, .ref h), (1, .int (nI st)), (2, .int (nI en))]) hx hb dX6_add_14 rfl hl (by decide) rfl (fun ls hl => ?_)
    refine W_loop (σ := Nat × (Nat → Nat) × (Nat → Nat)) (fun x => x.1) (fun x H locs ls => match x with | (k, f, g) => va_P D vwCl [(h, .inr (7, [.ref a0, .ref a1, .int (nI n)])), (a0, .inl (t 0, 40, .inl (nF f))), (a1, .inl (t 0, 40, .inl (nF g)))] H ∧ va_D A [(h, .inr (7, [.ref a0, .ref a1, .int (nI n)])), (a0, .inl (t 0, 40, .inl (nF f))), (a1, .inl (t 0, 40, .inl (nF g)))] ∧ va_S A s.heap H locs ∧ lv_has ls 4 [(3, .int (nI k)), (0, .ref h), (1, .int (nI st)), (2, .int (nI en))] ∧ k ≤ n ∧ (∀ i, i < k → f i = ts i ∧ g i = te i) ∧ (∀ i, k < i → i ≤ n → f i = ts (i - 1) ∧ g i = te (i - 1)) ∧ (∀ i, k ≤ i → i < n → st < ts i) ∧ (∀ i, n < i → f i = ts i ∧ g i = te i)) ?_ (n, ts, te) _ _ _ ⟨hP, hD, hS, hl, Nat.le_refl _, fun _ _ => ⟨rfl, rfl⟩, fun i h1 h2 => absurd h1 (by omega), fun i h1 h2 => absurd h1 (by omega), fun _ _ => ⟨rfl, rfl⟩⟩
    rintro ⟨k, f, g⟩ H locs ls ⟨hP, hD, hS, hl, hk, h1, h2, h3, h4⟩ ih
    refine lv_iload_n hx hb dX6_add_15 rfl (lv_at hl 0 rfl) ?_
    refine r_if_le (x := k) (tgt := 65) hx hb (by omega) dX6_add_16 (by decide) (fun c2 => ?_) (fun c2 => ?_)
    · subst c2
      have hl : lv_has ls 4 [(3, .int (nI 0)), (0, .ref h), (1, .int (nI st)), (2, .int (nI en))] := hl
      refine lv_aload_n hx hb dX6_add_65 rfl (lv_at hl 1 rfl) ?_
      refine va_get (D := D) (ci := 7) (v := .ref a0) (C := RX6) (T := TX6) (N := 3) hx hb hts i_X6_add_X6 hown hK hP 0 rfl rfl 0 (by decide) (hts (.fieldLink RX6 9 "MemoryMap$Taken" "starts" "[I") (List.mem_of_getElem? (i := 2) rfl)) (fun _ h9 => h9) rfl dX6_add_66 ?_
      refine lv_iload_n hx hb dX6_add_69 rfl (lv_at hl 0 rfl) ?_
      refine lv_iload_n hx hb dX6_add_70 rfl (lv_at hl 2 rfl) ?_
      refine r_iast hx hb hK hP hD hS 1 0 rfl rfl (i := 0) (by omega) (by omega) dX6_add_71 (fun H locs hP hD hS => ?_)
      have hP : va_P D vwCl [(h, .inr (7, [.ref a0, .ref a1, .int (nI n)])), (a0, .inl (t 0, 40, .inl (nF (va_up f 0 st)))), (a1, .inl (t 0, 40, .inl (nF g)))] H := hP
      have hD : va_D A [(h, .inr (7, [.ref a0, .ref a1, .int (nI n)])), (a0, .inl (t 0, 40, .inl (nF (va_up f 0 st)))), (a1, .inl (t 0, 40, .inl (nF g)))] := hD
      refine lv_aload_n hx hb dX6_add_72 rfl (lv_at hl 1 rfl) ?_
      refine va_get (D := D) (ci := 7) (v := .ref a1) (C := RX6) (T := TX6) (N := 3) hx hb hts i_X6_add_X6 hown hK hP 0 rfl rfl 1 (by decide) (hts (.fieldLink RX6 15 "MemoryMap$Taken" "ends" "[I") (List.mem_of_getElem? (i := 3) rfl)) (fun _ h9 => h9) rfl dX6_add_73 ?_
      refine lv_iload_n hx hb dX6_add_76 rfl (lv_at hl 0 rfl) ?_
      refine lv_iload_n hx hb dX6_add_77 rfl (lv_at hl 3 rfl) ?_
      refine r_iast hx hb hK hP hD hS 2 0 rfl rfl (i := 0) (by omega) (by omega) dX6_add_78 (fun H locs hP hD hS => ?_)
      have hP : va_P D vwCl [(h, .inr (7, [.ref a0, .ref a1, .int (nI n)])), (a0, .inl (t 0, 40, .inl (nF (va_up f 0 st)))), (a1, .inl (t 0, 40, .inl (nF (va_up g 0 en))))] H := hP
      have hD : va_D A [(h, .inr (7, [.ref a0, .ref a1, .int (nI n)])), (a0, .inl (t 0, 40, .inl (nF (va_up f 0 st)))), (a1, .inl (t 0, 40, .inl (nF (va_up g 0 en))))] := hD
      refine lv_aload_n hx hb dX6_add_79 rfl (lv_at hl 1 rfl) ?_
      refine lv_dup hx hb dX6_add_80 rfl ?_
      refine va_get (D := D) (ci := 7) (v := .int (nI n)) (C := RX6) (T := TX6) (N := 3) hx hb hts i_X6_add_X6 hown hK hP 0 rfl rfl 2 (by decide) (hts (.fieldLink RX6 18 "MemoryMap$Taken" "count" "I") (List.mem_of_getElem? (i := 1) rfl)) (fun _ h9 => h9) rfl dX6_add_81 ?_
      refine lv_iconst (v := (nI 1)) hx hb dX6_add_84 (by decide) ?_
      refine r_iadd (x := n) (y := 1) hx hb dX6_add_85 ?_
      refine va_put (D := D) (ci := 7) (v := .int (nI (n + 1))) (ty := .int) (C := RX6) (T := TX6) (N := 3) hx hb hts i_X6_add_X6 tyX6 tyX6_ok nmX6 hown hK hP hD hS 0 rfl rfl 2 (by decide) (hts (.fieldLink RX6 18 "MemoryMap$Taken" "count" "I") (List.mem_of_getElem? (i := 1) rfl)) (fun _ h9 => h9) rfl (by decide +kernel) rfl rfl (Nat.le_of_ble_eq_true rfl) dX6_add_86 (fun H locs hP hD hS => ?_)
      have hP : va_P D vwCl [(h, .inr (7, [.ref a0, .ref a1, .int (nI (n + 1))])), (a0, .inl (t 0, 40, .inl (nF (va_up f 0 st)))), (a1, .inl (t 0, 40, .inl (nF (va_up g 0 en))))] H := hP
      have hD : va_D A [(h, .inr (7, [.ref a0, .ref a1, .int (nI (n + 1))])), (a0, .inl (t 0, 40, .inl (nF (va_up f 0 st)))), (a1, .inl (t 0, 40, .inl (nF (va_up g 0 en))))] := hD
      refine ret_Mv hx hb hr hlk (n + 1, va_up f 0 st, va_up g 0 en) ⟨_, _, rfl, 0, ?_, ?_, Or.inl rfl, h3, fun i q => ?_⟩ hP hD hS (Nat.le_of_ble_eq_true rfl) (Nat.le_of_ble_eq_true rfl) dX6_add_89
      · exact ⟨by omega, fun i hi => by rw [va_upc, if_neg (by omega)]; exact (h1 i hi).1, by rw [va_upc, if_pos rfl], fun i q1 q2 => by rw [va_upc, if_neg (by omega)]; exact (h2 i q1 q2).1⟩
      · exact ⟨by omega, fun i hi => by rw [va_upc, if_neg (by omega)]; exact (h1 i hi).2, by rw [va_upc, if_pos rfl], fun i q1 q2 => by rw [va_upc, if_neg (by omega)]; exact (h2 i q1 q2).2⟩
      · rw [va_upc, va_upc, if_neg (by omega), if_neg (by omega)]; exact h4 i q
    · refine lv_aload_n hx hb dX6_add_19 rfl (lv_at hl 1 rfl) ?_
      refine va_get (D := D) (ci := 7) (v := .ref a0) (C := RX6) (T := TX6) (N := 3) hx hb hts i_X6_add_X6 hown hK hP 0 rfl rfl 0 (by decide) (hts (.fieldLink RX6 9 "MemoryMap$Taken" "starts" "[I") (List.mem_of_getElem? (i := 2) rfl)) (fun _ h9 => h9) rfl dX6_add_20 ?_
      refine lv_iload_n hx hb dX6_add_23 rfl (lv_at hl 0 rfl) ?_
      refine lv_iconst (v := (nI 1)) hx hb dX6_add_24 (by decide) ?_
      refine r_isub (x := k) (y := 1) hx hb (by omega) dX6_add_25 ?_
      refine r_iald hx hb hK hP 1 0 rfl rfl (i := k - 1) (by omega) (by omega) dX6_add_26 ?_
      have hg1 := (h1 (k - 1) (by omega)).1
      have hg1b := (h1 (k - 1) (by omega)).2
      have hg2 := hts1 (k - 1)
      refine lv_iload_n hx hb dX6_add_27 rfl (lv_at hl 2 rfl) ?_
      refine r_icmp_le (x := (f (k - 1))) (y := st) (tgt := 65) hx hb (by omega) (by omega) dX6_add_28 (by decide) (fun c3 => ?_) (fun c3 => ?_)
      · refine lv_aload_n hx hb dX6_add_65 rfl (lv_at hl 1 rfl) ?_
        refine va_get (D := D) (ci := 7) (v := .ref a0) (C := RX6) (T := TX6) (N := 3) hx hb hts i_X6_add_X6 hown hK hP 0 rfl rfl 0 (by decide) (hts (.fieldLink RX6 9 "MemoryMap$Taken" "starts" "[I") (List.mem_of_getElem? (i := 2) rfl)) (fun _ h9 => h9) rfl dX6_add_66 ?_
        refine lv_iload_n hx hb dX6_add_69 rfl (lv_at hl 0 rfl) ?_
        refine lv_iload_n hx hb dX6_add_70 rfl (lv_at hl 2 rfl) ?_
        refine r_iast hx hb hK hP hD hS 1 0 rfl rfl (i := k) (by omega) (by omega) dX6_add_71 (fun H locs hP hD hS => ?_)
        have hP : va_P D vwCl [(h, .inr (7, [.ref a0, .ref a1, .int (nI n)])), (a0, .inl (t 0, 40, .inl (nF (va_up f k st)))), (a1, .inl (t 0, 40, .inl (nF g)))] H := hP
        have hD : va_D A [(h, .inr (7, [.ref a0, .ref a1, .int (nI n)])), (a0, .inl (t 0, 40, .inl (nF (va_up f k st)))), (a1, .inl (t 0, 40, .inl (nF g)))] := hD
        refine lv_aload_n hx hb dX6_add_72 rfl (lv_at hl 1 rfl) ?_
        refine va_get (D := D) (ci := 7) (v := .ref a1) (C := RX6) (T := TX6) (N := 3) hx hb hts i_X6_add_X6 hown hK hP 0 rfl rfl 1 (by decide) (hts (.fieldLink RX6 15 "MemoryMap$Taken" "ends" "[I") (List.mem_of_getElem? (i := 3) rfl)) (fun _ h9 => h9) rfl dX6_add_73 ?_
        refine lv_iload_n hx hb dX6_add_76 rfl (lv_at hl 0 rfl) ?_
        refine lv_iload_n hx hb dX6_add_77 rfl (lv_at hl 3 rfl) ?_
        refine r_iast hx hb hK hP hD hS 2 0 rfl rfl (i := k) (by omega) (by omega) dX6_add_78 (fun H locs hP hD hS => ?_)
        have hP : va_P D vwCl [(h, .inr (7, [.ref a0, .ref a1, .int (nI n)])), (a0, .inl (t 0, 40, .inl (nF (va_up f k st)))), (a1, .inl (t 0, 40, .inl (nF (va_up g k en))))] H := hP
        have hD : va_D A [(h, .inr (7, [.ref a0, .ref a1, .int (nI n)])), (a0, .inl (t 0, 40, .inl (nF (va_up f k st)))), (a1, .inl (t 0, 40, .inl (nF (va_up g k en))))] := hD
        refine lv_aload_n hx hb dX6_add_79 rfl (lv_at hl 1 rfl) ?_
        refine lv_dup hx hb dX6_add_80 rfl ?_
        refine va_get (D := D) (ci := 7) (v := .int (nI n)) (C := RX6) (T := TX6) (N := 3) hx hb hts i_X6_add_X6 hown hK hP 0 rfl rfl 2 (by decide) (hts (.fieldLink RX6 18 "MemoryMap$Taken" "count" "I") (List.mem_of_getElem? (i := 1) rfl)) (fun _ h9 => h9) rfl dX6_add_81 ?_
        refine lv_iconst (v := (nI 1)) hx hb dX6_add_84 (by decide) ?_
        refine r_iadd (x := n) (y := 1) hx hb dX6_add_85 ?_
        refine va_put (D := D) (ci := 7) (v := .int (nI (n + 1))) (ty := .int) (C := RX6) (T := TX6) (N := 3) hx hb hts i_X6_add_X6 tyX6 tyX6_ok nmX6 hown hK hP hD hS 0 rfl rfl 2 (by decide) (hts (.fieldLink RX6 18 "MemoryMap$Taken" "count" "I") (List.mem_of_getElem? (i := 1) rfl)) (fun _ h9 => h9) rfl (by decide +kernel) rfl rfl (Nat.le_of_ble_eq_true rfl) dX6_add_86 (fun H locs hP hD hS => ?_)
        have hP : va_P D vwCl [(h, .inr (7, [.ref a0, .ref a1, .int (nI (n + 1))])), (a0, .inl (t 0, 40, .inl (nF (va_up f k st)))), (a1, .inl (t 0, 40, .inl (nF (va_up g k en))))] H := hP
        have hD : va_D A [(h, .inr (7, [.ref a0, .ref a1, .int (nI (n + 1))])), (a0, .inl (t 0, 40, .inl (nF (va_up f k st)))), (a1, .inl (t 0, 40, .inl (nF (va_up g k en))))] := hD
        refine ret_Mv hx hb hr hlk (n + 1, va_up f k st, va_up g k en) ⟨_, _, rfl, k, ?_, ?_, Or.inr (by rw [← hg1]; exact c3), h3, fun i q => ?_⟩ hP hD hS (Nat.le_of_ble_eq_true rfl) (Nat.le_of_ble_eq_true rfl) dX6_add_89
        · exact ⟨by omega, fun i hi => by rw [va_upc, if_neg (by omega)]; exact (h1 i hi).1, by rw [va_upc, if_pos rfl], fun i q1 q2 => by rw [va_upc, if_neg (by omega)]; exact (h2 i q1 q2).1⟩
        · exact ⟨by omega, fun i hi => by rw [va_upc, if_neg (by omega)]; exact (h1 i hi).2, by rw [va_upc, if_pos rfl], fun i q1 q2 => by rw [va_upc, if_neg (by omega)]; exact (h2 i q1 q2).2⟩
        · rw [va_upc, va_upc, if_neg (by omega), if_neg (by omega)]; exact h4 i q
      · refine lv_aload_n hx hb dX6_add_31 rfl (lv_at hl 1 rfl) ?_
        refine va_get (D := D) (ci := 7) (v := .ref a0) (C := RX6) (T := TX6) (N := 3) hx hb hts i_X6_add_X6 hown hK hP 0 rfl rfl 0 (by decide) (hts (.fieldLink RX6 9 "MemoryMap$Taken" "starts" "[I") (List.mem_of_getElem? (i := 2) rfl)) (fun _ h9 => h9) rfl dX6_add_32 ?_
        refine lv_iload_n hx hb dX6_add_35 rfl (lv_at hl 0 rfl) ?_
        refine lv_aload_n hx hb dX6_add_36 rfl (lv_at hl 1 rfl) ?_
        refine va_get (D := D) (ci := 7) (v := .ref a0) (C := RX6) (T := TX6) (N := 3) hx hb hts i_X6_add_X6 hown hK hP 0 rfl rfl 0 (by decide) (hts (.fieldLink RX6 9 "MemoryMap$Taken" "starts" "[I") (List.mem_of_getElem? (i := 2) rfl)) (fun _ h9 => h9) rfl dX6_add_37 ?_
        refine lv_iload_n hx hb dX6_add_40 rfl (lv_at hl 0 rfl) ?_
        refine lv_iconst (v := (nI 1)) hx hb dX6_add_41 (by decide) ?_
        refine r_isub (x := k) (y := 1) hx hb (by omega) dX6_add_42 ?_
        refine r_iald hx hb hK hP 1 0 rfl rfl (i := k - 1) (by omega) (by omega) dX6_add_43 ?_
        refine r_iast hx hb hK hP hD hS 1 0 rfl rfl (i := k) (by omega) (by omega) dX6_add_44 (fun H locs hP hD hS => ?_)
        have hP : va_P D vwCl [(h, .inr (7, [.ref a0, .ref a1, .int (nI n)])), (a0, .inl (t 0, 40, .inl (nF (va_up f k (f (k - 1)))))), (a1, .inl (t 0, 40, .inl (nF g)))] H := hP
        have hD : va_D A [(h, .inr (7, [.ref a0, .ref a1, .int (nI n)])), (a0, .inl (t 0, 40, .inl (nF (va_up f k (f (k - 1)))))), (a1, .inl (t 0, 40, .inl (nF g)))] := hD
        refine lv_aload_n hx hb dX6_add_45 rfl (lv_at hl 1 rfl) ?_
        refine va_get (D := D) (ci := 7) (v := .ref a1) (C := RX6) (T := TX6) (N := 3) hx hb hts i_X6_add_X6 hown hK hP 0 rfl rfl 1 (by decide) (hts (.fieldLink RX6 15 "MemoryMap$Taken" "ends" "[I") (List.mem_of_getElem? (i := 3) rfl)) (fun _ h9 => h9) rfl dX6_add_46 ?_
        refine lv_iload_n hx hb dX6_add_49 rfl (lv_at hl 0 rfl) ?_
        refine lv_aload_n hx hb dX6_add_50 rfl (lv_at hl 1 rfl) ?_
        refine va_get (D := D) (ci := 7) (v := .ref a1) (C := RX6) (T := TX6) (N := 3) hx hb hts i_X6_add_X6 hown hK hP 0 rfl rfl 1 (by decide) (hts (.fieldLink RX6 15 "MemoryMap$Taken" "ends" "[I") (List.mem_of_getElem? (i := 3) rfl)) (fun _ h9 => h9) rfl dX6_add_51 ?_
        refine lv_iload_n hx hb dX6_add_54 rfl (lv_at hl 0 rfl) ?_
        refine lv_iconst (v := (nI 1)) hx hb dX6_add_55 (by decide) ?_
        refine r_isub (x := k) (y := 1) hx hb (by omega) dX6_add_56 ?_
        refine r_iald hx hb hK hP 2 0 rfl rfl (i := k - 1) (by omega) (by omega) dX6_add_57 ?_
        refine r_iast hx hb hK hP hD hS 2 0 rfl rfl (i := k) (by omega) (by omega) dX6_add_58 (fun H locs hP hD hS => ?_)
        have hP : va_P D vwCl [(h, .inr (7, [.ref a0, .ref a1, .int (nI n)])), (a0, .inl (t 0, 40, .inl (nF (va_up f k (f (k - 1)))))), (a1, .inl (t 0, 40, .inl (nF (va_up g k (g (k - 1))))))] H := hP
        have hD : va_D A [(h, .inr (7, [.ref a0, .ref a1, .int (nI n)])), (a0, .inl (t 0, 40, .inl (nF (va_up f k (f (k - 1)))))), (a1, .inl (t 0, 40, .inl (nF (va_up g k (g (k - 1))))))] := hD
        refine lv_iinc (v := (nI (k - 1))) (lv' := [(3, .int (nI (k - 1))), (0, .ref h), (1, .int (nI st)), (2, .int (nI en))]) hx hb dX6_add_59 hl (k := 0) rfl (r_dec1 (by omega)) (by decide) rfl (fun ls hl => ?_)
        refine lv_goto (tgt := 15) hx hb dX6_add_62 (by decide) ?_
        refine ih (k - 1, va_up f k (f (k - 1)), va_up g k (g (k - 1))) _ _ _ ⟨hP, hD, hS, lv_sub hl [0, 1, 2, 3] rfl, by omega, fun i hi => ?_, fun i q1 q2 => ?_, fun i q1 q2 => ?_, fun i q => ?_⟩ (by show k - 1 < k; omega)
        · rw [va_upc, va_upc, if_neg (by omega), if_neg (by omega)]; exact h1 i (by omega)
        · rw [va_upc, va_upc]
          by_cases e : i = k
          · rw [if_pos e, if_pos e, e]; exact ⟨hg1, hg1b⟩
          · rw [if_neg e, if_neg e]; exact h2 i (by omega) q2
        · rcases Nat.lt_or_ge i k with q | q
          · have e : i = k - 1 := by omega
            rw [e, ← hg1]; exact c3
          · exact h3 i q q2
        · rw [va_upc, va_upc, if_neg (by omega), if_neg (by omega)]; exact h4 i q
  · exact absurd c1 (by omega)
