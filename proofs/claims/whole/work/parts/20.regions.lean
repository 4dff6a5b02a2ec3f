theorem nx_and (a b : Nat) : nI a &&& nI b = nI (a &&& b) := by
  apply Int32.toBitVec_inj.mp
  apply BitVec.eq_of_toNat_eq
  simp [nI, Int32.toBitVec_ofNat', Nat.and_mod_two_pow]
abbrev rm_X7_isWithin : Room := { frames := 0, cells := 0, slots := 0, locals := 0 }
set_option maxHeartbeats 1000000 in
set_option maxRecDepth 100000 in
theorem c_X7_isWithin (l : Launch) (D : va_G) (t : Nat → ClassId) (v lo hi : Int64)  : Qi l yX7_isWithin wsX7_isWithin rm_X7_isWithin D (TY t) [.long v, .long lo, .long hi] [] (fun r => (r = nI 1 ∧ ¬ v < lo ∧ ¬ hi < v) ∨ (r = nI 0 ∧ (v < lo ∨ hi < v))) := by
  refine start_Qi cX7_isWithin 6 (some .boolean) (by decide) rfl (Nat.le_of_ble_eq_true rfl) ?_
  intro p e s m below meth c ls B hP hD hl
  obtain ⟨hx, hb, hr, hts, hown, hlk, hml, hN, hK⟩ := B
  have hl : lv_has ls 6 [(0, .long v), (2, .long lo), (4, .long hi)] := hl
  refine lv_lload_n hx hb dX7_isWithin_0 rfl (lv_at hl 0 rfl) ?_
  refine lv_lload_n hx hb dX7_isWithin_1 rfl (lv_at hl 1 rfl) ?_
  refine r_l_lt (tgt := 17) hx hb dX7_isWithin_2 dX7_isWithin_3 (by decide) (fun c1 => ?_) (fun c1 => ?_)
  · refine lv_iconst (v := (nI 0)) hx hb dX7_isWithin_17 (by decide) ?_
    exact ret_Qz hx hb hr hlk rfl (Or.inr ⟨rfl, Or.inl c1⟩) dX7_isWithin_18
  · refine lv_lload_n hx hb dX7_isWithin_6 rfl (lv_at hl 0 rfl) ?_
    refine lv_lload hx hb dX7_isWithin_7 (lv_at hl 2 rfl) ?_
    refine r_l_gt (tgt := 17) hx hb dX7_isWithin_9 dX7_isWithin_10 (by decide) (fun c2 => ?_) (fun c2 => ?_)
    · refine lv_iconst (v := (nI 0)) hx hb dX7_isWithin_17 (by decide) ?_
      exact ret_Qz hx hb hr hlk rfl (Or.inr ⟨rfl, Or.inr c2⟩) dX7_isWithin_18
    · refine lv_iconst (v := (nI 1)) hx hb dX7_isWithin_13 (by decide) ?_
      refine lv_goto (tgt := 18) hx hb dX7_isWithin_14 (by decide) ?_
      exact ret_Qz hx hb hr hlk rfl (Or.inl ⟨rfl, c1, c2⟩) dX7_isWithin_18

abbrev rm_X6_alignedUp : Room := { frames := 0, cells := 0, slots := 0, locals := 0 }
set_option maxHeartbeats 1000000 in
set_option maxRecDepth 100000 in
theorem c_X6_alignedUp (l : Launch) (D : va_G) (t : Nat → ClassId) (a d : Nat) (ha : a ≤ 1000000) (hd1 : 1 ≤ d) (hd2 : d ≤ 1000000) : Qi l yX6_alignedUp wsX6_alignedUp rm_X6_alignedUp D (TY t) [.int (nI a), .int (nI d)] [] (fun r => r = nI ((a + d - 1) / d * d)) := by
  refine start_Qi cX6_alignedUp 2 (some .int) (by decide) rfl (Nat.le_of_ble_eq_true rfl) ?_
  intro p e s m below meth c ls B hP hD hl
  obtain ⟨hx, hb, hr, hts, hown, hlk, hml, hN, hK⟩ := B
  have hl : lv_has ls 2 [(0, .int (nI a)), (1, .int (nI d))] := hl
  refine lv_iload_n hx hb dX6_alignedUp_0 rfl (lv_at hl 1 rfl) ?_
  refine lv_iconst (v := (nI 1)) hx hb dX6_alignedUp_1 (by decide) ?_
  refine r_icmp_ge (x := d) (y := 1) (tgt := 9) hx hb (by omega) (by omega) dX6_alignedUp_2 (by decide) (fun c1 => ?_) (fun c1 => ?_)
  · refine lv_iload_n hx hb dX6_alignedUp_9 rfl (lv_at hl 0 rfl) ?_
    refine lv_iload_n hx hb dX6_alignedUp_10 rfl (lv_at hl 1 rfl) ?_
    refine r_iadd (x := a) (y := d) hx hb dX6_alignedUp_11 ?_
    refine lv_iconst (v := (nI 1)) hx hb dX6_alignedUp_12 (by decide) ?_
    refine r_isub (x := (a + d)) (y := 1) hx hb (by omega) dX6_alignedUp_13 ?_
    refine lv_iload_n hx hb dX6_alignedUp_14 rfl (lv_at hl 1 rfl) ?_
    refine r_idiv (x := ((a + d) - 1)) (y := d) hx hb (by omega) (by omega) (by omega) dX6_alignedUp_15 ?_
    refine lv_iload_n hx hb dX6_alignedUp_16 rfl (lv_at hl 1 rfl) ?_
    refine r_imul (x := (((a + d) - 1) / d)) (y := d) hx hb dX6_alignedUp_17 ?_
    exact ret_Qi hx hb hr hlk (rfl) dX6_alignedUp_18
  · exact absurd c1 (by omega)

theorem i_X4_allow_X4 : ∀ w ∈ wsX40, w ∈ wsX4_allow := by decide +kernel
abbrev rm_X4_allow : Room := { frames := 0, cells := 0, slots := 0, locals := 0 }
set_option maxHeartbeats 1000000 in
set_option maxRecDepth 100000 in
theorem c_X4_allow (l : Launch) (D : va_G) (t : Nat → ClassId) (h a0 a1 a2 n : Nat) (rs re rr : Nat → Nat) (i k : Nat) (hi : i < 16) (hk : k ≤ 7) : Qi l yX4_allow wsX4_allow rm_X4_allow D (TY t) [.ref h, .int (nI i), .int (nI k)] [(h, .inr (5, [.ref a0, .ref a1, .ref a2, .int (nI n)])), (a0, .inl (t 0, 16, .inl (nF rs))), (a1, .inl (t 0, 16, .inl (nF re))), (a2, .inl (t 0, 16, .inl (nF rr)))] (fun r => (r = nI 1 ∧ rr i &&& k = k) ∨ (r = nI 0 ∧ rr i &&& k ≠ k)) := by
  refine start_Qi cX4_allow 3 (some .boolean) (by decide) rfl (Nat.le_of_ble_eq_true rfl) ?_
  intro p e s m below meth c ls B hP hD hl
  obtain ⟨hx, hb, hr, hts, hown, hlk, hml, hN, hK⟩ := B
  have hl : lv_has ls 3 [(0, .ref h), (1, .int (nI i)), (2, .int (nI k))] := hl
  refine lv_aload_n hx hb dX4_allow_0 rfl (lv_at hl 0 rfl) ?_
  refine va_get (D := D) (ci := 5) (v := .ref a2) (C := RX4) (T := TX4) (N := 4) hx hb hts i_X4_allow_X4 hown hK hP 0 rfl rfl 2 (by decide) (hts (.fieldLink RX4 18 "MemoryMap$Regions" "rights" "[I") (List.mem_of_getElem? (i := 1) rfl)) (fun _ h9 => h9) rfl dX4_allow_1 ?_
  refine lv_iload_n hx hb dX4_allow_4 rfl (lv_at hl 1 rfl) ?_
  refine r_iald hx hb hK hP 3 0 rfl rfl (i := i) (by omega) (by omega) dX4_allow_5 ?_
  refine lv_iload_n hx hb dX4_allow_6 rfl (lv_at hl 2 rfl) ?_
  refine lv_iand hx hb dX4_allow_7 ?_
  refine r_topi (nx_and _ _) ?_
  have hle : rr i &&& k ≤ k := Nat.and_le_right
  refine lv_iload_n hx hb dX4_allow_8 rfl (lv_at hl 2 rfl) ?_
  refine r_icmp_ne (x := (rr i &&& k)) (y := k) (tgt := 16) hx hb (by omega) (by omega) dX4_allow_9 (by decide) (fun c1 => ?_) (fun c1 => ?_)
  · refine lv_iconst (v := (nI 0)) hx hb dX4_allow_16 (by decide) ?_
    exact ret_Qz hx hb hr hlk rfl (Or.inr ⟨rfl, c1⟩) dX4_allow_17
  · refine lv_iconst (v := (nI 1)) hx hb dX4_allow_12 (by decide) ?_
    refine lv_goto (tgt := 17) hx hb dX4_allow_13 (by decide) ?_
    exact ret_Qz hx hb hr hlk rfl (Or.inl ⟨rfl, c1⟩) dX4_allow_17

theorem i_X4_overlap_X4 : ∀ w ∈ wsX40, w ∈ wsX4_overlap := by decide +kernel
abbrev rm_X4_overlap : Room := { frames := 0, cells := 0, slots := 0, locals := 0 }
set_option maxHeartbeats 1000000 in
set_option maxRecDepth 100000 in
theorem c_X4_overlap (l : Launch) (D : va_G) (t : Nat → ClassId) (h a0 a1 a2 n : Nat) (rs re rr : Nat → Nat) (st en : Nat) (hn : n ≤ 16) (hrs : ∀ k, rs k ≤ 65536) (hre : ∀ k, re k ≤ 65536) (hst : st ≤ 65536) (hen : en ≤ 65536) : Qi l yX4_overlap wsX4_overlap rm_X4_overlap D (TY t) [.ref h, .int (nI st), .int (nI en)] [(h, .inr (5, [.ref a0, .ref a1, .ref a2, .int (nI n)])), (a0, .inl (t 0, 16, .inl (nF rs))), (a1, .inl (t 0, 16, .inl (nF re))), (a2, .inl (t 0, 16, .inl (nF rr)))] (fun r => (r = nI 1 ∧ ∃ i, i < n ∧ st < re i ∧ rs i < en) ∨ (r = nI 0 ∧ ∀ i, i < n → ¬ (st < re i ∧ rs i < en))) := by
  refine start_Qi cX4_overlap 4 (some .boolean) (by decide) rfl (Nat.le_of_ble_eq_true rfl) ?_
  intro p e s m below meth c ls B hP hD hl
  obtain ⟨hx, hb, hr, hts, hown, hlk, hml, hN, hK⟩ := B
  have hl : lv_has ls 4 [(0, .ref h), (1, .int (nI st)), (2, .int (nI en))] := hl
  refine lv_iconst (v := (nI 0)) hx hb dX4_overlap_0 (by decide) ?_
  refine lv_istore_n (lv' := [(3, .int (nI 0)), (0, .ref h), (1, .int (nI st)), (2, .int (nI en))]) hx hb dX4_overlap_1 rfl hl (by decide) rfl (fun ls hl => ?_)
  refine W_loop (σ := Nat) (fun i => n - i) (fun i H locs ls => H = s.heap ∧ locs = [] ∧ i ≤ n ∧ (∀ j, j < i → ¬ (st < re j ∧ rs j < en)) ∧ lv_has ls 4 [(3, .int (nI i)), (0, .ref h), (1, .int (nI st)), (2, .int (nI en))]) ?_ 0 _ _ _ ⟨rfl, rfl, Nat.zero_le _, (fun j hj => absurd hj (Nat.not_lt_zero _)), hl⟩
  rintro i _ _ ls ⟨rfl, rfl, hi, hall, hl⟩ ih
  refine lv_iload_n hx hb dX4_overlap_2 rfl (lv_at hl 0 rfl) ?_
  refine lv_aload_n hx hb dX4_overlap_3 rfl (lv_at hl 1 rfl) ?_
  refine va_get (D := D) (ci := 5) (v := .int (nI n)) (C := RX4) (T := TX4) (N := 4) hx hb hts i_X4_overlap_X4 hown hK hP 0 rfl rfl 3 (by decide) (hts (.fieldLink RX4 21 "MemoryMap$Regions" "count" "I") (List.mem_of_getElem? (i := 1) rfl)) (fun _ h9 => h9) rfl dX4_overlap_4 ?_
  refine r_icmp_ge (x := i) (y := n) (tgt := 38) hx hb (by omega) (by omega) dX4_overlap_7 (by decide) (fun c1 => ?_) (fun c1 => ?_)
  · refine lv_iconst (v := (nI 0)) hx hb dX4_overlap_38 (by decide) ?_
    exact ret_Qz hx hb hr hlk rfl (Or.inr ⟨rfl, fun j hj => hall j (by omega)⟩) dX4_overlap_39
  · refine lv_iload_n hx hb dX4_overlap_10 rfl (lv_at hl 2 rfl) ?_
    refine lv_aload_n hx hb dX4_overlap_11 rfl (lv_at hl 1 rfl) ?_
    refine va_get (D := D) (ci := 5) (v := .ref a1) (C := RX4) (T := TX4) (N := 4) hx hb hts i_X4_overlap_X4 hown hK hP 0 rfl rfl 1 (by decide) (hts (.fieldLink RX4 15 "MemoryMap$Regions" "ends" "[I") (List.mem_of_getElem? (i := 2) rfl)) (fun _ h9 => h9) rfl dX4_overlap_12 ?_
    refine lv_iload_n hx hb dX4_overlap_15 rfl (lv_at hl 0 rfl) ?_
    refine r_iald hx hb hK hP 2 0 rfl rfl (i := i) (by omega) (by omega) dX4_overlap_16 ?_
    have hb_0 := hre i
    refine r_icmp_ge (x := st) (y := (re i)) (tgt := 32) hx hb (by omega) (by omega) dX4_overlap_17 (by decide) (fun c2 => ?_) (fun c2 => ?_)
    · refine lv_iinc (v := (nI (i + 1))) (lv' := [(3, .int (nI (i + 1))), (0, .ref h), (1, .int (nI st)), (2, .int (nI en))]) hx hb dX4_overlap_32 hl (k := 0) rfl (r_inc1 _) (by decide) rfl (fun ls hl => ?_)
      refine lv_goto (tgt := 2) hx hb dX4_overlap_35 (by decide) ?_
      refine ih (i + 1) _ _ _ ⟨rfl, rfl, by omega, fun j hj => ?_, lv_sub hl [0, 1, 2, 3] rfl⟩ (by omega)
      rcases Nat.lt_succ_iff_lt_or_eq.mp hj with hj | rfl
      · exact hall j hj
      · exact fun q => absurd q.1 (by omega)
    · refine lv_aload_n hx hb dX4_overlap_20 rfl (lv_at hl 1 rfl) ?_
      refine va_get (D := D) (ci := 5) (v := .ref a0) (C := RX4) (T := TX4) (N := 4) hx hb hts i_X4_overlap_X4 hown hK hP 0 rfl rfl 0 (by decide) (hts (.fieldLink RX4 9 "MemoryMap$Regions" "starts" "[I") (List.mem_of_getElem? (i := 3) rfl)) (fun _ h9 => h9) rfl dX4_overlap_21 ?_
      refine lv_iload_n hx hb dX4_overlap_24 rfl (lv_at hl 0 rfl) ?_
      refine r_iald hx hb hK hP 1 0 rfl rfl (i := i) (by omega) (by omega) dX4_overlap_25 ?_
      have hb_1 := hrs i
      refine lv_iload_n hx hb dX4_overlap_26 rfl (lv_at hl 3 rfl) ?_
      refine r_icmp_ge (x := (rs i)) (y := en) (tgt := 32) hx hb (by omega) (by omega) dX4_overlap_27 (by decide) (fun c3 => ?_) (fun c3 => ?_)
      · refine lv_iinc (v := (nI (i + 1))) (lv' := [(3, .int (nI (i + 1))), (0, .ref h), (1, .int (nI st)), (2, .int (nI en))]) hx hb dX4_overlap_32 hl (k := 0) rfl (r_inc1 _) (by decide) rfl (fun ls hl => ?_)
        refine lv_goto (tgt := 2) hx hb dX4_overlap_35 (by decide) ?_
        refine ih (i + 1) _ _ _ ⟨rfl, rfl, by omega, fun j hj => ?_, lv_sub hl [0, 1, 2, 3] rfl⟩ (by omega)
        rcases Nat.lt_succ_iff_lt_or_eq.mp hj with hj | rfl
        · exact hall j hj
        · exact fun q => absurd q.2 (by omega)
      · refine lv_iconst (v := (nI 1)) hx hb dX4_overlap_30 (by decide) ?_
        exact ret_Qz hx hb hr hlk rfl (Or.inl ⟨rfl, i, c1, c2, c3⟩) dX4_overlap_31

theorem i_X4_add_X4 : ∀ w ∈ wsX40, w ∈ wsX4_add := by decide +kernel
abbrev rm_X4_add : Room := { frames := 0, cells := 0, slots := 0, locals := 0 }
set_option maxHeartbeats 1000000 in
set_option maxRecDepth 100000 in
theorem c_X4_add (l : Launch) (D : va_G) (t : Nat → ClassId) (h a0 a1 a2 n : Nat) (rs re rr : Nat → Nat) (st en ri : Nat) (hn : n ≤ 16) : Mi l yX4_add wsX4_add rm_X4_add D (TY t) [.ref h, .int (nI st), .int (nI en), .int (nI ri)] [(h, .inr (5, [.ref a0, .ref a1, .ref a2, .int (nI n)])), (a0, .inl (t 0, 16, .inl (nF rs))), (a1, .inl (t 0, 16, .inl (nF re))), (a2, .inl (t 0, 16, .inl (nF rr)))] (S := Nat × (Nat → Nat) × (Nat → Nat) × (Nat → Nat)) (fun r u => (16 ≤ n ∧ r = (-4) ∧ u = (n, rs, re, rr)) ∨ (n < 16 ∧ r = nI (n + 1) ∧ u = (n + 1, va_up rs n st, va_up re n en, va_up rr n ri))) (fun u => [(h, .inr (5, [.ref a0, .ref a1, .ref a2, .int (nI (u.1))])), (a0, .inl (t 0, 16, .inl (nF u.2.1))), (a1, .inl (t 0, 16, .inl (nF u.2.2.1))), (a2, .inl (t 0, 16, .inl (nF u.2.2.2)))]) := by
  refine start_Mi cX4_add 4 (some .int) (by decide) rfl (Nat.le_of_ble_eq_true rfl) ?_
  intro p e s m below meth c A ls B hin hP hD hS hA hl
  obtain ⟨hx, hb, hr, hts, hown, hlk, hml, hN, hK⟩ := B
  have hl : lv_has ls 4 [(0, .ref h), (1, .int (nI st)), (2, .int (nI en)), (3, .int (nI ri))] := hl
  refine lv_aload_n hx hb dX4_add_0 rfl (lv_at hl 0 rfl) ?_
  refine va_get (D := D) (ci := 5) (v := .int (nI n)) (C := RX4) (T := TX4) (N := 4) hx hb hts i_X4_add_X4 hown hK hP 0 rfl rfl 3 (by decide) (hts (.fieldLink RX4 21 "MemoryMap$Regions" "count" "I") (List.mem_of_getElem? (i := 1) rfl)) (fun _ h9 => h9) rfl dX4_add_1 ?_
  refine lv_bipush (v := (nI 16)) hx hb dX4_add_4 (by decide) ?_
  refine r_icmp_lt (x := n) (y := 16) (tgt := 12) hx hb (by omega) (by omega) dX4_add_6 (by decide) (fun c1 => ?_) (fun c1 => ?_)
  · refine lv_aload_n hx hb dX4_add_12 rfl (lv_at hl 0 rfl) ?_
    refine va_get (D := D) (ci := 5) (v := .ref a0) (C := RX4) (T := TX4) (N := 4) hx hb hts i_X4_add_X4 hown hK hP 0 rfl rfl 0 (by decide) (hts (.fieldLink RX4 9 "MemoryMap$Regions" "starts" "[I") (List.mem_of_getElem? (i := 2) rfl)) (fun _ h9 => h9) rfl dX4_add_13 ?_
    refine lv_aload_n hx hb dX4_add_16 rfl (lv_at hl 0 rfl) ?_
    refine va_get (D := D) (ci := 5) (v := .int (nI n)) (C := RX4) (T := TX4) (N := 4) hx hb hts i_X4_add_X4 hown hK hP 0 rfl rfl 3 (by decide) (hts (.fieldLink RX4 21 "MemoryMap$Regions" "count" "I") (List.mem_of_getElem? (i := 1) rfl)) (fun _ h9 => h9) rfl dX4_add_17 ?_
    refine lv_iload_n hx hb dX4_add_20 rfl (lv_at hl 1 rfl) ?_
    refine r_iast hx hb hK hP hD hS 1 0 rfl rfl (i := n) (by omega) (by omega) dX4_add_21 (fun H locs hP hD hS => ?_)
    have hP : va_P D vwCl [(h, .inr (5, [.ref a0, .ref a1, .ref a2, .int (nI n)])), (a0, .inl (t 0, 16, .inl (nF (va_up rs n st)))), (a1, .inl (t 0, 16, .inl (nF re))), (a2, .inl (t 0, 16, .inl (nF rr)))] H := hP
    have hD : va_D A [(h, .inr (5, [.ref a0, .ref a1, .ref a2, .int (nI n)])), (a0, .inl (t 0, 16, .inl (nF (va_up rs n st)))), (a1, .inl (t 0, 16, .inl (nF re))), (a2, .inl (t 0, 16, .inl (nF rr)))] := hD
    refine lv_aload_n hx hb dX4_add_22 rfl (lv_at hl 0 rfl) ?_
    refine va_get (D := D) (ci := 5) (v := .ref a1) (C := RX4) (T := TX4) (N := 4) hx hb hts i_X4_add_X4 hown hK hP 0 rfl rfl 1 (by decide) (hts (.fieldLink RX4 15 "MemoryMap$Regions" "ends" "[I") (List.mem_of_getElem? (i := 3) rfl)) (fun _ h9 => h9) rfl dX4_add_23 ?_
    refine lv_aload_n hx hb dX4_add_26 rfl (lv_at hl 0 rfl) ?_
    refine va_get (D := D) (ci := 5) (v := .int (nI n)) (C := RX4) (T := TX4) (N := 4) hx hb hts i_X4_add_X4 hown hK hP 0 rfl rfl 3 (by decide) (hts (.fieldLink RX4 21 "MemoryMap$Regions" "count" "I") (List.mem_of_getElem? (i := 1) rfl)) (fun _ h9 => h9) rfl dX4_add_27 ?_
    refine lv_iload_n hx hb dX4_add_30 rfl (lv_at hl 2 rfl) ?_
    refine r_iast hx hb hK hP hD hS 2 0 rfl rfl (i := n) (by omega) (by omega) dX4_add_31 (fun H locs hP hD hS => ?_)
    have hP : va_P D vwCl [(h, .inr (5, [.ref a0, .ref a1, .ref a2, .int (nI n)])), (a0, .inl (t 0, 16, .inl (nF (va_up rs n st)))), (a1, .inl (t 0, 16, .inl (nF (va_up re n en)))), (a2, .inl (t 0, 16, .inl (nF rr)))] H := hP
    have hD : va_D A [(h, .inr (5, [.ref a0, .ref a1, .ref a2, .int (nI n)])), (a0, .inl (t 0, 16, .inl (nF (va_up rs n st)))), (a1, .inl (t 0, 16, .inl (nF (va_up re n en)))), (a2, .inl (t 0, 16, .inl (nF rr)))] := hD
    refine lv_aload_n hx hb dX4_add_32 rfl (lv_at hl 0 rfl) ?_
    refine va_get (D := D) (ci := 5) (v := .ref a2) (C := RX4) (T := TX4) (N := 4) hx hb hts i_X4_add_X4 hown hK hP 0 rfl rfl 2 (by decide) (hts (.fieldLink RX4 18 "MemoryMap$Regions" "rights" "[I") (List.mem_of_getElem? (i := 4) rfl)) (fun _ h9 => h9) rfl dX4_add_33 ?_
    refine lv_aload_n hx hb dX4_add_36 rfl (lv_at hl 0 rfl) ?_
    refine va_get (D := D) (ci := 5) (v := .int (nI n)) (C := RX4) (T := TX4) (N := 4) hx hb hts i_X4_add_X4 hown hK hP 0 rfl rfl 3 (by decide) (hts (.fieldLink RX4 21 "MemoryMap$Regions" "count" "I") (List.mem_of_getElem? (i := 1) rfl)) (fun _ h9 => h9) rfl dX4_add_37 ?_
    refine lv_iload_n hx hb dX4_add_40 rfl (lv_at hl 3 rfl) ?_
    refine r_iast hx hb hK hP hD hS 3 0 rfl rfl (i := n) (by omega) (by omega) dX4_add_41 (fun H locs hP hD hS => ?_)
    have hP : va_P D vwCl [(h, .inr (5, [.ref a0, .ref a1, .ref a2, .int (nI n)])), (a0, .inl (t 0, 16, .inl (nF (va_up rs n st)))), (a1, .inl (t 0, 16, .inl (nF (va_up re n en)))), (a2, .inl (t 0, 16, .inl (nF (va_up rr n ri))))] H := hP
    have hD : va_D A [(h, .inr (5, [.ref a0, .ref a1, .ref a2, .int (nI n)])), (a0, .inl (t 0, 16, .inl (nF (va_up rs n st)))), (a1, .inl (t 0, 16, .inl (nF (va_up re n en)))), (a2, .inl (t 0, 16, .inl (nF (va_up rr n ri))))] := hD
    refine lv_aload_n hx hb dX4_add_42 rfl (lv_at hl 0 rfl) ?_
    refine lv_dup hx hb dX4_add_43 rfl ?_
    refine va_get (D := D) (ci := 5) (v := .int (nI n)) (C := RX4) (T := TX4) (N := 4) hx hb hts i_X4_add_X4 hown hK hP 0 rfl rfl 3 (by decide) (hts (.fieldLink RX4 21 "MemoryMap$Regions" "count" "I") (List.mem_of_getElem? (i := 1) rfl)) (fun _ h9 => h9) rfl dX4_add_44 ?_
    refine lv_iconst (v := (nI 1)) hx hb dX4_add_47 (by decide) ?_
    refine r_iadd (x := n) (y := 1) hx hb dX4_add_48 ?_
    refine va_put (D := D) (ci := 5) (v := .int (nI (n + 1))) (ty := .int) (C := RX4) (T := TX4) (N := 4) hx hb hts i_X4_add_X4 tyX4 tyX4_ok nmX4 hown hK hP hD hS 0 rfl rfl 3 (by decide) (hts (.fieldLink RX4 21 "MemoryMap$Regions" "count" "I") (List.mem_of_getElem? (i := 1) rfl)) (fun _ h9 => h9) rfl (by decide +kernel) rfl rfl (Nat.le_of_ble_eq_true rfl) dX4_add_49 (fun H locs hP hD hS => ?_)
    have hP : va_P D vwCl [(h, .inr (5, [.ref a0, .ref a1, .ref a2, .int (nI (n + 1))])), (a0, .inl (t 0, 16, .inl (nF (va_up rs n st)))), (a1, .inl (t 0, 16, .inl (nF (va_up re n en)))), (a2, .inl (t 0, 16, .inl (nF (va_up rr n ri))))] H := hP
    have hD : va_D A [(h, .inr (5, [.ref a0, .ref a1, .ref a2, .int (nI (n + 1))])), (a0, .inl (t 0, 16, .inl (nF (va_up rs n st)))), (a1, .inl (t 0, 16, .inl (nF (va_up re n en)))), (a2, .inl (t 0, 16, .inl (nF (va_up rr n ri))))] := hD
    refine lv_aload_n hx hb dX4_add_52 rfl (lv_at hl 0 rfl) ?_
    refine va_get (D := D) (ci := 5) (v := .int (nI (n + 1))) (C := RX4) (T := TX4) (N := 4) hx hb hts i_X4_add_X4 hown hK hP 0 rfl rfl 3 (by decide) (hts (.fieldLink RX4 21 "MemoryMap$Regions" "count" "I") (List.mem_of_getElem? (i := 1) rfl)) (fun _ h9 => h9) rfl dX4_add_53 ?_
    exact ret_Mi hx hb hr hlk ((n + 1, va_up rs n st, va_up re n en, va_up rr n ri)) (Or.inr ⟨c1, rfl, rfl⟩) hP hD hS (Nat.le_of_ble_eq_true rfl) (Nat.le_of_ble_eq_true rfl) dX4_add_56
  · refine lv_bipush (v := ((-4))) hx hb dX4_add_9 (by decide) ?_
    exact ret_Mi hx hb hr hlk ((n, rs, re, rr)) (Or.inl ⟨c1, rfl, rfl⟩) hP hD hS (Nat.le_of_ble_eq_true rfl) (Nat.le_of_ble_eq_true rfl) dX4_add_11
