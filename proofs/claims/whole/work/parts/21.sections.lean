/-- g2 is g with v put in at place p of n -/
def InsAt (g g2 : Nat → Nat) (n p v : Nat) : Prop := p ≤ n ∧ (∀ i, i < p → g2 i = g i) ∧ g2 p = v ∧ ∀ i, p < i → i ≤ n → g2 i = g (i - 1)
theorem va_upc {g : Nat → Nat} {k v i : Nat} : va_up g k v i = if i = k then v else g i := rfl
theorem i_X4_init_X4 : ∀ w ∈ wsX40, w ∈ wsX4_init := by decide +kernel
abbrev rm_X4_init : Room := { frames := 1, cells := 3, slots := 48, locals := 12 }
set_option maxHeartbeats 1000000 in
set_option maxRecDepth 100000 in
theorem c_X4_init (l : Launch) (D : va_G) (t : Nat → ClassId) (h : Nat)  : Mv l yX4_init wsX4_init rm_X4_init D (TY t) [.ref h] [(h, .inr (5, [.null, .null, .null, .int (nI 0)]))] (S := Nat × Nat × Nat) (fun _ => True) (fun u => [(h, .inr (5, [.ref u.1, .ref u.2.1, .ref u.2.2, .int (nI 0)])), (u.1, .inl (t 0, 16, .inl (nF (fun _ => 0)))), (u.2.1, .inl (t 0, 16, .inl (nF (fun _ => 0)))), (u.2.2, .inl (t 0, 16, .inl (nF (fun _ => 0))))]) := by
  refine start_Mv cX4_init 1 none (by decide) rfl (Nat.le_of_ble_eq_true rfl) ?_
  intro p e s m below meth c A ls B hin hP hD hS hA hl
  obtain ⟨hx, hb, hr, hts, hown, hlk, hml, hN, hK⟩ := B
  have hl : lv_has ls 1 [(0, .ref h)] := hl
  refine lv_aload_n hx hb dX4_init_0 rfl (lv_at hl 0 rfl) ?_
  refine W.objInit hx hb hown (hts (.methodLink RX4 3 objectInit) (List.mem_of_getElem? (i := 1) rfl)) (hts (.instanceMethod objectInit) (List.mem_of_getElem? (i := 2) rfl)) (hts (.code objectInit ⟨#[0xb1]⟩ 1 none) (List.mem_of_getElem? (i := 3) rfl)) rfl (by rw [hml]; exact hl.1) rfl dX4_init_1 (Nat.le_of_ble_eq_true rfl) (Nat.le_of_ble_eq_true rfl) ?_
  refine W.eq (g2 := F0 m 4 ls []) rfl ?_
  refine lv_aload_n hx hb dX4_init_4 rfl (lv_at hl 0 rfl) ?_
  refine lv_bipush (v := (nI 16)) hx hb dX4_init_5 (by decide) ?_
  refine r_newI hx hb (hts (.arrayClass .int) (List.mem_of_getElem? (i := 4) rfl)) hK hP hD hS hA 0 rfl (Nat.le_of_ble_eq_true rfl) (Nat.le_of_ble_eq_true rfl) (Nat.le_of_ble_eq_true rfl) dX4_init_7 (fun q_1 H hP hD hS => ?_)
  have hP : va_P D vwCl [(h, .inr (5, [.null, .null, .null, .int (nI 0)])), (q_1, .inl (t 0, 16, .inl (nF (fun _ => 0))))] H := hP
  have hD : va_D A [(h, .inr (5, [.null, .null, .null, .int (nI 0)])), (q_1, .inl (t 0, 16, .inl (nF (fun _ => 0))))] := hD
  refine va_putF (D := D) (ci := 5) (v := .ref q_1) (ty := .array .int) (C := RX4) (T := TX4) (N := 4) hx hb hts i_X4_init_X4 tyX4 tyX4_ok nmX4 hown hK hP hD hS 0 rfl rfl 0 (by decide) (hts (.fieldLink RX4 9 "MemoryMap$Regions" "starts" "[I") (List.mem_of_getElem? (i := 5) rfl)) (fun _ h9 => h9) rfl hin rfl (by decide +kernel) rfl rfl (Nat.le_of_ble_eq_true rfl) dX4_init_9 (fun H locs hP hD hS => ?_)
  have hP : va_P D vwCl [(h, .inr (5, [.ref q_1, .null, .null, .int (nI 0)])), (q_1, .inl (t 0, 16, .inl (nF (fun _ => 0))))] H := hP
  have hD : va_D A [(h, .inr (5, [.ref q_1, .null, .null, .int (nI 0)])), (q_1, .inl (t 0, 16, .inl (nF (fun _ => 0))))] := hD
  refine lv_aload_n hx hb dX4_init_12 rfl (lv_at hl 0 rfl) ?_
  refine lv_bipush (v := (nI 16)) hx hb dX4_init_13 (by decide) ?_
  refine r_newI hx hb (hts (.arrayClass .int) (List.mem_of_getElem? (i := 4) rfl)) hK hP hD hS hA 0 rfl (Nat.le_of_ble_eq_true rfl) (Nat.le_of_ble_eq_true rfl) (Nat.le_of_ble_eq_true rfl) dX4_init_15 (fun q_2 H hP hD hS => ?_)
  have hP : va_P D vwCl [(h, .inr (5, [.ref q_1, .null, .null, .int (nI 0)])), (q_1, .inl (t 0, 16, .inl (nF (fun _ => 0)))), (q_2, .inl (t 0, 16, .inl (nF (fun _ => 0))))] H := hP
  have hD : va_D A [(h, .inr (5, [.ref q_1, .null, .null, .int (nI 0)])), (q_1, .inl (t 0, 16, .inl (nF (fun _ => 0)))), (q_2, .inl (t 0, 16, .inl (nF (fun _ => 0))))] := hD
  refine va_putF (D := D) (ci := 5) (v := .ref q_2) (ty := .array .int) (C := RX4) (T := TX4) (N := 4) hx hb hts i_X4_init_X4 tyX4 tyX4_ok nmX4 hown hK hP hD hS 0 rfl rfl 1 (by decide) (hts (.fieldLink RX4 15 "MemoryMap$Regions" "ends" "[I") (List.mem_of_getElem? (i := 6) rfl)) (fun _ h9 => h9) rfl hin rfl (by decide +kernel) rfl rfl (Nat.le_of_ble_eq_true rfl) dX4_init_17 (fun H locs hP hD hS => ?_)
  have hP : va_P D vwCl [(h, .inr (5, [.ref q_1, .ref q_2, .null, .int (nI 0)])), (q_1, .inl (t 0, 16, .inl (nF (fun _ => 0)))), (q_2, .inl (t 0, 16, .inl (nF (fun _ => 0))))] H := hP
  have hD : va_D A [(h, .inr (5, [.ref q_1, .ref q_2, .null, .int (nI 0)])), (q_1, .inl (t 0, 16, .inl (nF (fun _ => 0)))), (q_2, .inl (t 0, 16, .inl (nF (fun _ => 0))))] := hD
  refine lv_aload_n hx hb dX4_init_20 rfl (lv_at hl 0 rfl) ?_
  refine lv_bipush (v := (nI 16)) hx hb dX4_init_21 (by decide) ?_
  refine r_newI hx hb (hts (.arrayClass .int) (List.mem_of_getElem? (i := 4) rfl)) hK hP hD hS hA 0 rfl (Nat.le_of_ble_eq_true rfl) (Nat.le_of_ble_eq_true rfl) (Nat.le_of_ble_eq_true rfl) dX4_init_23 (fun q_3 H hP hD hS => ?_)
  have hP : va_P D vwCl [(h, .inr (5, [.ref q_1, .ref q_2, .null, .int (nI 0)])), (q_1, .inl (t 0, 16, .inl (nF (fun _ => 0)))), (q_2, .inl (t 0, 16, .inl (nF (fun _ => 0)))), (q_3, .inl (t 0, 16, .inl (nF (fun _ => 0))))] H := hP
  have hD : va_D A [(h, .inr (5, [.ref q_1, .ref q_2, .null, .int (nI 0)])), (q_1, .inl (t 0, 16, .inl (nF (fun _ => 0)))), (q_2, .inl (t 0, 16, .inl (nF (fun _ => 0)))), (q_3, .inl (t 0, 16, .inl (nF (fun _ => 0))))] := hD
  refine va_putF (D := D) (ci := 5) (v := .ref q_3) (ty := .array .int) (C := RX4) (T := TX4) (N := 4) hx hb hts i_X4_init_X4 tyX4 tyX4_ok nmX4 hown hK hP hD hS 0 rfl rfl 2 (by decide) (hts (.fieldLink RX4 18 "MemoryMap$Regions" "rights" "[I") (List.mem_of_getElem? (i := 7) rfl)) (fun _ h9 => h9) rfl hin rfl (by decide +kernel) rfl rfl (Nat.le_of_ble_eq_true rfl) dX4_init_25 (fun H locs hP hD hS => ?_)
  have hP : va_P D vwCl [(h, .inr (5, [.ref q_1, .ref q_2, .ref q_3, .int (nI 0)])), (q_1, .inl (t 0, 16, .inl (nF (fun _ => 0)))), (q_2, .inl (t 0, 16, .inl (nF (fun _ => 0)))), (q_3, .inl (t 0, 16, .inl (nF (fun _ => 0))))] H := hP
  have hD : va_D A [(h, .inr (5, [.ref q_1, .ref q_2, .ref q_3, .int (nI 0)])), (q_1, .inl (t 0, 16, .inl (nF (fun _ => 0)))), (q_2, .inl (t 0, 16, .inl (nF (fun _ => 0)))), (q_3, .inl (t 0, 16, .inl (nF (fun _ => 0))))] := hD
  exact ret_Mv hx hb hr hlk ((q_1, q_2, q_3)) (trivial) hP hD hS (Nat.le_of_ble_eq_true rfl) (Nat.le_of_ble_eq_true rfl) dX4_init_28

theorem i_X5_init_X5 : ∀ w ∈ wsX50, w ∈ wsX5_init := by decide +kernel
abbrev rm_X5_init : Room := { frames := 1, cells := 4, slots := 160, locals := 12 }
set_option maxHeartbeats 1000000 in
set_option maxRecDepth 100000 in
theorem c_X5_init (l : Launch) (D : va_G) (t : Nat → ClassId) (h : Nat)  : Mv l yX5_init wsX5_init rm_X5_init D (TY t) [.ref h] [(h, .inr (6, [.null, .null, .null, .null, .int (nI 0)]))] (S := Nat × Nat × Nat × Nat) (fun _ => True) (fun u => [(h, .inr (6, [.ref u.1, .ref u.2.1, .ref u.2.2.1, .ref u.2.2.2, .int (nI 0)])), (u.1, .inl (t 0, 40, .inl (nF (fun _ => 0)))), (u.2.1, .inl (t 0, 40, .inl (nF (fun _ => 0)))), (u.2.2.1, .inl (t 0, 40, .inl (nF (fun _ => 0)))), (u.2.2.2, .inl (t 0, 40, .inl (nF (fun _ => 0))))]) := by
  refine start_Mv cX5_init 1 none (by decide) rfl (Nat.le_of_ble_eq_true rfl) ?_
  intro p e s m below meth c A ls B hin hP hD hS hA hl
  obtain ⟨hx, hb, hr, hts, hown, hlk, hml, hN, hK⟩ := B
  have hl : lv_has ls 1 [(0, .ref h)] := hl
  refine lv_aload_n hx hb dX5_init_0 rfl (lv_at hl 0 rfl) ?_
  refine W.objInit hx hb hown (hts (.methodLink RX5 3 objectInit) (List.mem_of_getElem? (i := 1) rfl)) (hts (.instanceMethod objectInit) (List.mem_of_getElem? (i := 2) rfl)) (hts (.code objectInit ⟨#[0xb1]⟩ 1 none) (List.mem_of_getElem? (i := 3) rfl)) rfl (by rw [hml]; exact hl.1) rfl dX5_init_1 (Nat.le_of_ble_eq_true rfl) (Nat.le_of_ble_eq_true rfl) ?_
  refine W.eq (g2 := F0 m 4 ls []) rfl ?_
  refine lv_aload_n hx hb dX5_init_4 rfl (lv_at hl 0 rfl) ?_
  refine lv_bipush (v := (nI 40)) hx hb dX5_init_5 (by decide) ?_
  refine r_newI hx hb (hts (.arrayClass .int) (List.mem_of_getElem? (i := 4) rfl)) hK hP hD hS hA 0 rfl (Nat.le_of_ble_eq_true rfl) (Nat.le_of_ble_eq_true rfl) (Nat.le_of_ble_eq_true rfl) dX5_init_7 (fun q_1 H hP hD hS => ?_)
  have hP : va_P D vwCl [(h, .inr (6, [.null, .null, .null, .null, .int (nI 0)])), (q_1, .inl (t 0, 40, .inl (nF (fun _ => 0))))] H := hP
  have hD : va_D A [(h, .inr (6, [.null, .null, .null, .null, .int (nI 0)])), (q_1, .inl (t 0, 40, .inl (nF (fun _ => 0))))] := hD
  refine va_putF (D := D) (ci := 6) (v := .ref q_1) (ty := .array .int) (C := RX5) (T := TX5) (N := 5) hx hb hts i_X5_init_X5 tyX5 tyX5_ok nmX5 hown hK hP hD hS 0 rfl rfl 0 (by decide) (hts (.fieldLink RX5 9 "MemoryMap$Sections" "lengths" "[I") (List.mem_of_getElem? (i := 5) rfl)) (fun _ h9 => h9) rfl hin rfl (by decide +kernel) rfl rfl (Nat.le_of_ble_eq_true rfl) dX5_init_9 (fun H locs hP hD hS => ?_)
  have hP : va_P D vwCl [(h, .inr (6, [.ref q_1, .null, .null, .null, .int (nI 0)])), (q_1, .inl (t 0, 40, .inl (nF (fun _ => 0))))] H := hP
  have hD : va_D A [(h, .inr (6, [.ref q_1, .null, .null, .null, .int (nI 0)])), (q_1, .inl (t 0, 40, .inl (nF (fun _ => 0))))] := hD
  refine lv_aload_n hx hb dX5_init_12 rfl (lv_at hl 0 rfl) ?_
  refine lv_bipush (v := (nI 40)) hx hb dX5_init_13 (by decide) ?_
  refine r_newI hx hb (hts (.arrayClass .int) (List.mem_of_getElem? (i := 4) rfl)) hK hP hD hS hA 0 rfl (Nat.le_of_ble_eq_true rfl) (Nat.le_of_ble_eq_true rfl) (Nat.le_of_ble_eq_true rfl) dX5_init_15 (fun q_2 H hP hD hS => ?_)
  have hP : va_P D vwCl [(h, .inr (6, [.ref q_1, .null, .null, .null, .int (nI 0)])), (q_1, .inl (t 0, 40, .inl (nF (fun _ => 0)))), (q_2, .inl (t 0, 40, .inl (nF (fun _ => 0))))] H := hP
  have hD : va_D A [(h, .inr (6, [.ref q_1, .null, .null, .null, .int (nI 0)])), (q_1, .inl (t 0, 40, .inl (nF (fun _ => 0)))), (q_2, .inl (t 0, 40, .inl (nF (fun _ => 0))))] := hD
  refine va_putF (D := D) (ci := 6) (v := .ref q_2) (ty := .array .int) (C := RX5) (T := TX5) (N := 5) hx hb hts i_X5_init_X5 tyX5 tyX5_ok nmX5 hown hK hP hD hS 0 rfl rfl 1 (by decide) (hts (.fieldLink RX5 15 "MemoryMap$Sections" "aligns" "[I") (List.mem_of_getElem? (i := 6) rfl)) (fun _ h9 => h9) rfl hin rfl (by decide +kernel) rfl rfl (Nat.le_of_ble_eq_true rfl) dX5_init_17 (fun H locs hP hD hS => ?_)
  have hP : va_P D vwCl [(h, .inr (6, [.ref q_1, .ref q_2, .null, .null, .int (nI 0)])), (q_1, .inl (t 0, 40, .inl (nF (fun _ => 0)))), (q_2, .inl (t 0, 40, .inl (nF (fun _ => 0))))] H := hP
  have hD : va_D A [(h, .inr (6, [.ref q_1, .ref q_2, .null, .null, .int (nI 0)])), (q_1, .inl (t 0, 40, .inl (nF (fun _ => 0)))), (q_2, .inl (t 0, 40, .inl (nF (fun _ => 0))))] := hD
  refine lv_aload_n hx hb dX5_init_20 rfl (lv_at hl 0 rfl) ?_
  refine lv_bipush (v := (nI 40)) hx hb dX5_init_21 (by decide) ?_
  refine r_newI hx hb (hts (.arrayClass .int) (List.mem_of_getElem? (i := 4) rfl)) hK hP hD hS hA 0 rfl (Nat.le_of_ble_eq_true rfl) (Nat.le_of_ble_eq_true rfl) (Nat.le_of_ble_eq_true rfl) dX5_init_23 (fun q_3 H hP hD hS => ?_)
  have hP : va_P D vwCl [(h, .inr (6, [.ref q_1, .ref q_2, .null, .null, .int (nI 0)])), (q_1, .inl (t 0, 40, .inl (nF (fun _ => 0)))), (q_2, .inl (t 0, 40, .inl (nF (fun _ => 0)))), (q_3, .inl (t 0, 40, .inl (nF (fun _ => 0))))] H := hP
  have hD : va_D A [(h, .inr (6, [.ref q_1, .ref q_2, .null, .null, .int (nI 0)])), (q_1, .inl (t 0, 40, .inl (nF (fun _ => 0)))), (q_2, .inl (t 0, 40, .inl (nF (fun _ => 0)))), (q_3, .inl (t 0, 40, .inl (nF (fun _ => 0))))] := hD
  refine va_putF (D := D) (ci := 6) (v := .ref q_3) (ty := .array .int) (C := RX5) (T := TX5) (N := 5) hx hb hts i_X5_init_X5 tyX5 tyX5_ok nmX5 hown hK hP hD hS 0 rfl rfl 2 (by decide) (hts (.fieldLink RX5 18 "MemoryMap$Sections" "kinds" "[I") (List.mem_of_getElem? (i := 7) rfl)) (fun _ h9 => h9) rfl hin rfl (by decide +kernel) rfl rfl (Nat.le_of_ble_eq_true rfl) dX5_init_25 (fun H locs hP hD hS => ?_)
  have hP : va_P D vwCl [(h, .inr (6, [.ref q_1, .ref q_2, .ref q_3, .null, .int (nI 0)])), (q_1, .inl (t 0, 40, .inl (nF (fun _ => 0)))), (q_2, .inl (t 0, 40, .inl (nF (fun _ => 0)))), (q_3, .inl (t 0, 40, .inl (nF (fun _ => 0))))] H := hP
  have hD : va_D A [(h, .inr (6, [.ref q_1, .ref q_2, .ref q_3, .null, .int (nI 0)])), (q_1, .inl (t 0, 40, .inl (nF (fun _ => 0)))), (q_2, .inl (t 0, 40, .inl (nF (fun _ => 0)))), (q_3, .inl (t 0, 40, .inl (nF (fun _ => 0))))] := hD
  refine lv_aload_n hx hb dX5_init_28 rfl (lv_at hl 0 rfl) ?_
  refine lv_bipush (v := (nI 40)) hx hb dX5_init_29 (by decide) ?_
  refine r_newI hx hb (hts (.arrayClass .int) (List.mem_of_getElem? (i := 4) rfl)) hK hP hD hS hA 0 rfl (Nat.le_of_ble_eq_true rfl) (Nat.le_of_ble_eq_true rfl) (Nat.le_of_ble_eq_true rfl) dX5_init_31 (fun q_4 H hP hD hS => ?_)
  have hP : va_P D vwCl [(h, .inr (6, [.ref q_1, .ref q_2, .ref q_3, .null, .int (nI 0)])), (q_1, .inl (t 0, 40, .inl (nF (fun _ => 0)))), (q_2, .inl (t 0, 40, .inl (nF (fun _ => 0)))), (q_3, .inl (t 0, 40, .inl (nF (fun _ => 0)))), (q_4, .inl (t 0, 40, .inl (nF (fun _ => 0))))] H := hP
  have hD : va_D A [(h, .inr (6, [.ref q_1, .ref q_2, .ref q_3, .null, .int (nI 0)])), (q_1, .inl (t 0, 40, .inl (nF (fun _ => 0)))), (q_2, .inl (t 0, 40, .inl (nF (fun _ => 0)))), (q_3, .inl (t 0, 40, .inl (nF (fun _ => 0)))), (q_4, .inl (t 0, 40, .inl (nF (fun _ => 0))))] := hD
  refine va_putF (D := D) (ci := 6) (v := .ref q_4) (ty := .array .int) (C := RX5) (T := TX5) (N := 5) hx hb hts i_X5_init_X5 tyX5 tyX5_ok nmX5 hown hK hP hD hS 0 rfl rfl 3 (by decide) (hts (.fieldLink RX5 21 "MemoryMap$Sections" "greatestFirst" "[I") (List.mem_of_getElem? (i := 8) rfl)) (fun _ h9 => h9) rfl hin rfl (by decide +kernel) rfl rfl (Nat.le_of_ble_eq_true rfl) dX5_init_33 (fun H locs hP hD hS => ?_)
  have hP : va_P D vwCl [(h, .inr (6, [.ref q_1, .ref q_2, .ref q_3, .ref q_4, .int (nI 0)])), (q_1, .inl (t 0, 40, .inl (nF (fun _ => 0)))), (q_2, .inl (t 0, 40, .inl (nF (fun _ => 0)))), (q_3, .inl (t 0, 40, .inl (nF (fun _ => 0)))), (q_4, .inl (t 0, 40, .inl (nF (fun _ => 0))))] H := hP
  have hD : va_D A [(h, .inr (6, [.ref q_1, .ref q_2, .ref q_3, .ref q_4, .int (nI 0)])), (q_1, .inl (t 0, 40, .inl (nF (fun _ => 0)))), (q_2, .inl (t 0, 40, .inl (nF (fun _ => 0)))), (q_3, .inl (t 0, 40, .inl (nF (fun _ => 0)))), (q_4, .inl (t 0, 40, .inl (nF (fun _ => 0))))] := hD
  exact ret_Mv hx hb hr hlk ((q_1, q_2, q_3, q_4)) (trivial) hP hD hS (Nat.le_of_ble_eq_true rfl) (Nat.le_of_ble_eq_true rfl) dX5_init_36

theorem i_X6_init_X6 : ∀ w ∈ wsX60, w ∈ wsX6_init := by decide +kernel
abbrev rm_X6_init : Room := { frames := 1, cells := 2, slots := 80, locals := 12 }
set_option maxHeartbeats 1000000 in
set_option maxRecDepth 100000 in
theorem c_X6_init (l : Launch) (D : va_G) (t : Nat → ClassId) (h : Nat)  : Mv l yX6_init wsX6_init rm_X6_init D (TY t) [.ref h] [(h, .inr (7, [.null, .null, .int (nI 0)]))] (S := Nat × Nat) (fun _ => True) (fun u => [(h, .inr (7, [.ref u.1, .ref u.2, .int (nI 0)])), (u.1, .inl (t 0, 40, .inl (nF (fun _ => 0)))), (u.2, .inl (t 0, 40, .inl (nF (fun _ => 0))))]) := by
  refine start_Mv cX6_init 1 none (by decide) rfl (Nat.le_of_ble_eq_true rfl) ?_
  intro p e s m below meth c A ls B hin hP hD hS hA hl
  obtain ⟨hx, hb, hr, hts, hown, hlk, hml, hN, hK⟩ := B
  have hl : lv_has ls 1 [(0, .ref h)] := hl
  refine lv_aload_n hx hb dX6_init_0 rfl (lv_at hl 0 rfl) ?_
  refine W.objInit hx hb hown (hts (.methodLink RX6 3 objectInit) (List.mem_of_getElem? (i := 1) rfl)) (hts (.instanceMethod objectInit) (List.mem_of_getElem? (i := 2) rfl)) (hts (.code objectInit ⟨#[0xb1]⟩ 1 none) (List.mem_of_getElem? (i := 3) rfl)) rfl (by rw [hml]; exact hl.1) rfl dX6_init_1 (Nat.le_of_ble_eq_true rfl) (Nat.le_of_ble_eq_true rfl) ?_
  refine W.eq (g2 := F0 m 4 ls []) rfl ?_
  refine lv_aload_n hx hb dX6_init_4 rfl (lv_at hl 0 rfl) ?_
  refine lv_bipush (v := (nI 40)) hx hb dX6_init_5 (by decide) ?_
  refine r_newI hx hb (hts (.arrayClass .int) (List.mem_of_getElem? (i := 4) rfl)) hK hP hD hS hA 0 rfl (Nat.le_of_ble_eq_true rfl) (Nat.le_of_ble_eq_true rfl) (Nat.le_of_ble_eq_true rfl) dX6_init_7 (fun q_1 H hP hD hS => ?_)
  have hP : va_P D vwCl [(h, .inr (7, [.null, .null, .int (nI 0)])), (q_1, .inl (t 0, 40, .inl (nF (fun _ => 0))))] H := hP
  have hD : va_D A [(h, .inr (7, [.null, .null, .int (nI 0)])), (q_1, .inl (t 0, 40, .inl (nF (fun _ => 0))))] := hD
  refine va_putF (D := D) (ci := 7) (v := .ref q_1) (ty := .array .int) (C := RX6) (T := TX6) (N := 3) hx hb hts i_X6_init_X6 tyX6 tyX6_ok nmX6 hown hK hP hD hS 0 rfl rfl 0 (by decide) (hts (.fieldLink RX6 9 "MemoryMap$Taken" "starts" "[I") (List.mem_of_getElem? (i := 5) rfl)) (fun _ h9 => h9) rfl hin rfl (by decide +kernel) rfl rfl (Nat.le_of_ble_eq_true rfl) dX6_init_9 (fun H locs hP hD hS => ?_)
  have hP : va_P D vwCl [(h, .inr (7, [.ref q_1, .null, .int (nI 0)])), (q_1, .inl (t 0, 40, .inl (nF (fun _ => 0))))] H := hP
  have hD : va_D A [(h, .inr (7, [.ref q_1, .null, .int (nI 0)])), (q_1, .inl (t 0, 40, .inl (nF (fun _ => 0))))] := hD
  refine lv_aload_n hx hb dX6_init_12 rfl (lv_at hl 0 rfl) ?_
  refine lv_bipush (v := (nI 40)) hx hb dX6_init_13 (by decide) ?_
  refine r_newI hx hb (hts (.arrayClass .int) (List.mem_of_getElem? (i := 4) rfl)) hK hP hD hS hA 0 rfl (Nat.le_of_ble_eq_true rfl) (Nat.le_of_ble_eq_true rfl) (Nat.le_of_ble_eq_true rfl) dX6_init_15 (fun q_2 H hP hD hS => ?_)
  have hP : va_P D vwCl [(h, .inr (7, [.ref q_1, .null, .int (nI 0)])), (q_1, .inl (t 0, 40, .inl (nF (fun _ => 0)))), (q_2, .inl (t 0, 40, .inl (nF (fun _ => 0))))] H := hP
  have hD : va_D A [(h, .inr (7, [.ref q_1, .null, .int (nI 0)])), (q_1, .inl (t 0, 40, .inl (nF (fun _ => 0)))), (q_2, .inl (t 0, 40, .inl (nF (fun _ => 0))))] := hD
  refine va_putF (D := D) (ci := 7) (v := .ref q_2) (ty := .array .int) (C := RX6) (T := TX6) (N := 3) hx hb hts i_X6_init_X6 tyX6 tyX6_ok nmX6 hown hK hP hD hS 0 rfl rfl 1 (by decide) (hts (.fieldLink RX6 15 "MemoryMap$Taken" "ends" "[I") (List.mem_of_getElem? (i := 6) rfl)) (fun _ h9 => h9) rfl hin rfl (by decide +kernel) rfl rfl (Nat.le_of_ble_eq_true rfl) dX6_init_17 (fun H locs hP hD hS => ?_)
  have hP : va_P D vwCl [(h, .inr (7, [.ref q_1, .ref q_2, .int (nI 0)])), (q_1, .inl (t 0, 40, .inl (nF (fun _ => 0)))), (q_2, .inl (t 0, 40, .inl (nF (fun _ => 0))))] H := hP
  have hD : va_D A [(h, .inr (7, [.ref q_1, .ref q_2, .int (nI 0)])), (q_1, .inl (t 0, 40, .inl (nF (fun _ => 0)))), (q_2, .inl (t 0, 40, .inl (nF (fun _ => 0))))] := hD
  exact ret_Mv hx hb hr hlk ((q_1, q_2)) (trivial) hP hD hS (Nat.le_of_ble_eq_true rfl) (Nat.le_of_ble_eq_true rfl) dX6_init_20

theorem i_X5_enterInOrder_X5 : ∀ w ∈ wsX50, w ∈ wsX5_enterInOrder := by decide +kernel
abbrev rm_X5_enterInOrder : Room := { frames := 0, cells := 0, slots := 0, locals := 0 }
set_option maxHeartbeats 1000000 in
set_option maxRecDepth 100000 in
theorem c_X5_enterInOrder (l : Launch) (D : va_G) (t : Nat → ClassId) (h a0 a1 a2 a3 n : Nat) (sl sa sk gf : Nat → Nat) (hn : n < 40) (hsl : ∀ k, sl k ≤ 65536) (hgf : ∀ k, k < n → gf k < n) : Mv l yX5_enterInOrder wsX5_enterInOrder rm_X5_enterInOrder D (TY t) [.ref h, .int (nI n)] [(h, .inr (6, [.ref a0, .ref a1, .ref a2, .ref a3, .int (nI n)])), (a0, .inl (t 0, 40, .inl (nF sl))), (a1, .inl (t 0, 40, .inl (nF sa))), (a2, .inl (t 0, 40, .inl (nF sk))), (a3, .inl (t 0, 40, .inl (nF gf)))] (S := Nat → Nat) (fun u : Nat → Nat => ∃ p, InsAt gf u n p n ∧ (p = 0 ∨ sl n ≤ sl (gf (p - 1))) ∧ ∀ i, p ≤ i → i < n → sl (gf i) < sl n) (fun u => [(h, .inr (6, [.ref a0, .ref a1, .ref a2, .ref a3, .int (nI n)])), (a0, .inl (t 0, 40, .inl (nF sl))), (a1, .inl (t 0, 40, .inl (nF sa))), (a2, .inl (t 0, 40, .inl (nF sk))), (a3, .inl (t 0, 40, .inl (nF u)))]) := by
  refine start_Mv cX5_enterInOrder 3 none (by decide) rfl (Nat.le_of_ble_eq_true rfl) ?_
  intro p e s m below meth c A ls B hin hP hD hS hA hl
  obtain ⟨hx, hb, hr, hts, hown, hlk, hml, hN, hK⟩ := B
  have hl : lv_has ls 3 [(0, .ref h), (1, .int (nI n))] := hl
  refine lv_iload_n hx hb dX5_enterInOrder_0 rfl (lv_at hl 1 rfl) ?_
  refine lv_istore_n (lv' := [(2, .int (nI n)), (0, .ref h), (1, .int (nI n))]) hx hb dX5_enterInOrder_1 rfl hl (by decide) rfl (fun ls hl => ?_)
  refine W_loop (σ := Nat × (Nat → Nat)) (fun x => x.1) (fun x H locs ls => match x with | (k, g) => va_P D vwCl [(h, .inr (6, [.ref a0, .ref a1, .ref a2, .ref a3, .int (nI n)])), (a0, .inl (t 0, 40, .inl (nF sl))), (a1, .inl (t 0, 40, .inl (nF sa))), (a2, .inl (t 0, 40, .inl (nF sk))), (a3, .inl (t 0, 40, .inl (nF g)))] H ∧ va_D A [(h, .inr (6, [.ref a0, .ref a1, .ref a2, .ref a3, .int (nI n)])), (a0, .inl (t 0, 40, .inl (nF sl))), (a1, .inl (t 0, 40, .inl (nF sa))), (a2, .inl (t 0, 40, .inl (nF sk))), (a3, .inl (t 0, 40, .inl (nF g)))] ∧ va_S A s.heap H locs ∧ lv_has ls 3 [(2, .int (nI k)), (0, .ref h), (1, .int (nI n))] ∧ k ≤ n ∧ (∀ i, i < k → g i = gf i) ∧ (∀ i, k < i → i ≤ n → g i = gf (i - 1)) ∧ (∀ i, k ≤ i → i < n → sl (gf i) < sl n)) ?_ (n, gf) _ _ _ ⟨hP, hD, hS, hl, Nat.le_refl _, fun _ _ => rfl, fun i h1 h2 => absurd h1 (by omega), fun i h1 h2 => absurd h1 (by omega)⟩
  rintro ⟨k, g⟩ H locs ls ⟨hP, hD, hS, hl, hk, h1, h2, h3⟩ ih
  refine lv_iload_n hx hb dX5_enterInOrder_2 rfl (lv_at hl 0 rfl) ?_
  refine r_if_le (x := k) (tgt := 48) hx hb (by omega) dX5_enterInOrder_3 (by decide) (fun c1 => ?_) (fun c1 => ?_)
  · subst c1
    have hl : lv_has ls 3 [(2, .int (nI 0)), (0, .ref h), (1, .int (nI n))] := hl
    refine lv_aload_n hx hb dX5_enterInOrder_48 rfl (lv_at hl 1 rfl) ?_
    refine va_get (D := D) (ci := 6) (v := .ref a3) (C := RX5) (T := TX5) (N := 5) hx hb hts i_X5_enterInOrder_X5 hown hK hP 0 rfl rfl 3 (by decide) (hts (.fieldLink RX5 21 "MemoryMap$Sections" "greatestFirst" "[I") (List.mem_of_getElem? (i := 2) rfl)) (fun _ h9 => h9) rfl dX5_enterInOrder_49 ?_
    refine lv_iload_n hx hb dX5_enterInOrder_52 rfl (lv_at hl 0 rfl) ?_
    refine lv_iload_n hx hb dX5_enterInOrder_53 rfl (lv_at hl 2 rfl) ?_
    refine r_iast hx hb hK hP hD hS 4 0 rfl rfl (i := 0) (by omega) (by omega) dX5_enterInOrder_54 (fun H locs hP hD hS => ?_)
    have hP : va_P D vwCl [(h, .inr (6, [.ref a0, .ref a1, .ref a2, .ref a3, .int (nI n)])), (a0, .inl (t 0, 40, .inl (nF sl))), (a1, .inl (t 0, 40, .inl (nF sa))), (a2, .inl (t 0, 40, .inl (nF sk))), (a3, .inl (t 0, 40, .inl (nF (va_up g 0 n))))] H := hP
    have hD : va_D A [(h, .inr (6, [.ref a0, .ref a1, .ref a2, .ref a3, .int (nI n)])), (a0, .inl (t 0, 40, .inl (nF sl))), (a1, .inl (t 0, 40, .inl (nF sa))), (a2, .inl (t 0, 40, .inl (nF sk))), (a3, .inl (t 0, 40, .inl (nF (va_up g 0 n))))] := hD
    exact ret_Mv hx hb hr hlk (va_up g 0 n) (⟨0, ⟨Nat.zero_le _, fun i hi => absurd hi (Nat.not_lt_zero _), by rw [va_upc, if_pos rfl], fun i q1 q2 => by rw [va_upc, if_neg (by omega)]; exact h2 i q1 q2⟩, Or.inl rfl, fun i q1 q2 => h3 i q1 q2⟩) hP hD hS (Nat.le_of_ble_eq_true rfl) (Nat.le_of_ble_eq_true rfl) dX5_enterInOrder_55
  · refine lv_aload_n hx hb dX5_enterInOrder_6 rfl (lv_at hl 1 rfl) ?_
    refine va_get (D := D) (ci := 6) (v := .ref a0) (C := RX5) (T := TX5) (N := 5) hx hb hts i_X5_enterInOrder_X5 hown hK hP 0 rfl rfl 0 (by decide) (hts (.fieldLink RX5 9 "MemoryMap$Sections" "lengths" "[I") (List.mem_of_getElem? (i := 1) rfl)) (fun _ h9 => h9) rfl dX5_enterInOrder_7 ?_
    refine lv_aload_n hx hb dX5_enterInOrder_10 rfl (lv_at hl 1 rfl) ?_
    refine va_get (D := D) (ci := 6) (v := .ref a3) (C := RX5) (T := TX5) (N := 5) hx hb hts i_X5_enterInOrder_X5 hown hK hP 0 rfl rfl 3 (by decide) (hts (.fieldLink RX5 21 "MemoryMap$Sections" "greatestFirst" "[I") (List.mem_of_getElem? (i := 2) rfl)) (fun _ h9 => h9) rfl dX5_enterInOrder_11 ?_
    refine lv_iload_n hx hb dX5_enterInOrder_14 rfl (lv_at hl 0 rfl) ?_
    refine lv_iconst (v := (nI 1)) hx hb dX5_enterInOrder_15 (by decide) ?_
    refine r_isub (x := k) (y := 1) hx hb (by omega) dX5_enterInOrder_16 ?_
    refine r_iald hx hb hK hP 4 0 rfl rfl (i := k - 1) (by omega) (by omega) dX5_enterInOrder_17 ?_
    have hg1 : g (k - 1) = gf (k - 1) := h1 _ (by omega)
    have hg2 := hgf (k - 1) (by omega)
    have hg3 : g (k - 1) < 40 := by omega
    refine r_iald hx hb hK hP 1 0 rfl rfl (i := g (k - 1)) (by omega) (by omega) dX5_enterInOrder_18 ?_
    have hb_0 := hsl (g (k - 1))
    refine lv_aload_n hx hb dX5_enterInOrder_19 rfl (lv_at hl 1 rfl) ?_
    refine va_get (D := D) (ci := 6) (v := .ref a0) (C := RX5) (T := TX5) (N := 5) hx hb hts i_X5_enterInOrder_X5 hown hK hP 0 rfl rfl 0 (by decide) (hts (.fieldLink RX5 9 "MemoryMap$Sections" "lengths" "[I") (List.mem_of_getElem? (i := 1) rfl)) (fun _ h9 => h9) rfl dX5_enterInOrder_20 ?_
    refine lv_iload_n hx hb dX5_enterInOrder_23 rfl (lv_at hl 2 rfl) ?_
    refine r_iald hx hb hK hP 1 0 rfl rfl (i := n) (by omega) (by omega) dX5_enterInOrder_24 ?_
    have hb_1 := hsl n
    refine r_icmp_ge (x := (sl (g (k - 1)))) (y := (sl n)) (tgt := 48) hx hb (by omega) (by omega) dX5_enterInOrder_25 (by decide) (fun c2 => ?_) (fun c2 => ?_)
    · refine lv_aload_n hx hb dX5_enterInOrder_48 rfl (lv_at hl 1 rfl) ?_
      refine va_get (D := D) (ci := 6) (v := .ref a3) (C := RX5) (T := TX5) (N := 5) hx hb hts i_X5_enterInOrder_X5 hown hK hP 0 rfl rfl 3 (by decide) (hts (.fieldLink RX5 21 "MemoryMap$Sections" "greatestFirst" "[I") (List.mem_of_getElem? (i := 2) rfl)) (fun _ h9 => h9) rfl dX5_enterInOrder_49 ?_
      refine lv_iload_n hx hb dX5_enterInOrder_52 rfl (lv_at hl 0 rfl) ?_
      refine lv_iload_n hx hb dX5_enterInOrder_53 rfl (lv_at hl 2 rfl) ?_
      refine r_iast hx hb hK hP hD hS 4 0 rfl rfl (i := k) (by omega) (by omega) dX5_enterInOrder_54 (fun H locs hP hD hS => ?_)
      have hP : va_P D vwCl [(h, .inr (6, [.ref a0, .ref a1, .ref a2, .ref a3, .int (nI n)])), (a0, .inl (t 0, 40, .inl (nF sl))), (a1, .inl (t 0, 40, .inl (nF sa))), (a2, .inl (t 0, 40, .inl (nF sk))), (a3, .inl (t 0, 40, .inl (nF (va_up g k n))))] H := hP
      have hD : va_D A [(h, .inr (6, [.ref a0, .ref a1, .ref a2, .ref a3, .int (nI n)])), (a0, .inl (t 0, 40, .inl (nF sl))), (a1, .inl (t 0, 40, .inl (nF sa))), (a2, .inl (t 0, 40, .inl (nF sk))), (a3, .inl (t 0, 40, .inl (nF (va_up g k n))))] := hD
      exact ret_Mv hx hb hr hlk (va_up g k n) (⟨k, ⟨hk, fun i hi => by rw [va_upc, if_neg (by omega)]; exact h1 i hi, by rw [va_upc, if_pos rfl], fun i q1 q2 => by rw [va_upc, if_neg (by omega)]; exact h2 i q1 q2⟩, Or.inr (by rw [← hg1]; exact c2), h3⟩) hP hD hS (Nat.le_of_ble_eq_true rfl) (Nat.le_of_ble_eq_true rfl) dX5_enterInOrder_55
    · refine lv_aload_n hx hb dX5_enterInOrder_28 rfl (lv_at hl 1 rfl) ?_
      refine va_get (D := D) (ci := 6) (v := .ref a3) (C := RX5) (T := TX5) (N := 5) hx hb hts i_X5_enterInOrder_X5 hown hK hP 0 rfl rfl 3 (by decide) (hts (.fieldLink RX5 21 "MemoryMap$Sections" "greatestFirst" "[I") (List.mem_of_getElem? (i := 2) rfl)) (fun _ h9 => h9) rfl dX5_enterInOrder_29 ?_
      refine lv_iload_n hx hb dX5_enterInOrder_32 rfl (lv_at hl 0 rfl) ?_
      refine lv_aload_n hx hb dX5_enterInOrder_33 rfl (lv_at hl 1 rfl) ?_
      refine va_get (D := D) (ci := 6) (v := .ref a3) (C := RX5) (T := TX5) (N := 5) hx hb hts i_X5_enterInOrder_X5 hown hK hP 0 rfl rfl 3 (by decide) (hts (.fieldLink RX5 21 "MemoryMap$Sections" "greatestFirst" "[I") (List.mem_of_getElem? (i := 2) rfl)) (fun _ h9 => h9) rfl dX5_enterInOrder_34 ?_
      refine lv_iload_n hx hb dX5_enterInOrder_37 rfl (lv_at hl 0 rfl) ?_
      refine lv_iconst (v := (nI 1)) hx hb dX5_enterInOrder_38 (by decide) ?_
      refine r_isub (x := k) (y := 1) hx hb (by omega) dX5_enterInOrder_39 ?_
      refine r_iald hx hb hK hP 4 0 rfl rfl (i := k - 1) (by omega) (by omega) dX5_enterInOrder_40 ?_
      refine r_iast hx hb hK hP hD hS 4 0 rfl rfl (i := k) (by omega) (by omega) dX5_enterInOrder_41 (fun H locs hP hD hS => ?_)
      have hP : va_P D vwCl [(h, .inr (6, [.ref a0, .ref a1, .ref a2, .ref a3, .int (nI n)])), (a0, .inl (t 0, 40, .inl (nF sl))), (a1, .inl (t 0, 40, .inl (nF sa))), (a2, .inl (t 0, 40, .inl (nF sk))), (a3, .inl (t 0, 40, .inl (nF (va_up g k (g (k - 1))))))] H := hP
      have hD : va_D A [(h, .inr (6, [.ref a0, .ref a1, .ref a2, .ref a3, .int (nI n)])), (a0, .inl (t 0, 40, .inl (nF sl))), (a1, .inl (t 0, 40, .inl (nF sa))), (a2, .inl (t 0, 40, .inl (nF sk))), (a3, .inl (t 0, 40, .inl (nF (va_up g k (g (k - 1))))))] := hD
      refine lv_iinc (v := (nI (k - 1))) (lv' := [(2, .int (nI (k - 1))), (0, .ref h), (1, .int (nI n))]) hx hb dX5_enterInOrder_42 hl (k := 0) rfl (r_dec1 (by omega)) (by decide) rfl (fun ls hl => ?_)
      refine lv_goto (tgt := 2) hx hb dX5_enterInOrder_45 (by decide) ?_
      refine ih (k - 1, va_up g k (g (k - 1))) _ _ _ ⟨hP, hD, hS, lv_sub hl [0, 1, 2] rfl, by omega, fun i hi => ?_, fun i q1 q2 => ?_, fun i q1 q2 => ?_⟩ (by show k - 1 < k; omega)
      · rw [va_upc, if_neg (by omega)]; exact h1 i (by omega)
      · rw [va_upc]
        split
        · next e => rw [e]; exact hg1
        · exact h2 i (by omega) q2
      · rcases Nat.lt_or_ge i k with q | q
        · have e : i = k - 1 := by omega
          rw [e, ← hg1]; exact c2
        · exact h3 i q q2

theorem i_X5_add_X5 : ∀ w ∈ wsX50, w ∈ wsX5_add := by decide +kernel
abbrev rm_X5_add : Room := { frames := 1, cells := 0, slots := 0, locals := 22 }
set_option maxHeartbeats 1000000 in
set_option maxRecDepth 100000 in
theorem c_X5_add (l : Launch) (D : va_G) (t : Nat → ClassId) (h a0 a1 a2 a3 n : Nat) (sl sa sk gf : Nat → Nat) (ln al ki : Nat) (hn : n ≤ 40) (hsl : ∀ k, sl k ≤ 65536) (hln : ln ≤ 65536) (hgf : ∀ k, k < n → gf k < n) : Mi l yX5_add wsX5_add rm_X5_add D (TY t) [.ref h, .int (nI ln), .int (nI al), .int (nI ki)] [(h, .inr (6, [.ref a0, .ref a1, .ref a2, .ref a3, .int (nI n)])), (a0, .inl (t 0, 40, .inl (nF sl))), (a1, .inl (t 0, 40, .inl (nF sa))), (a2, .inl (t 0, 40, .inl (nF sk))), (a3, .inl (t 0, 40, .inl (nF gf)))] (S := Nat × (Nat → Nat) × (Nat → Nat) × (Nat → Nat) × (Nat → Nat)) (fun r u => (40 ≤ n ∧ r = (-4) ∧ u = (n, sl, sa, sk, gf)) ∨ (n < 40 ∧ r = nI (n + 1) ∧ ∃ g, u = (n + 1, va_up sl n ln, va_up sa n al, va_up sk n ki, g) ∧ ∃ p, InsAt gf g n p n ∧ (p = 0 ∨ ln ≤ sl (gf (p - 1))) ∧ ∀ i, p ≤ i → i < n → sl (gf i) < ln)) (fun u => [(h, .inr (6, [.ref a0, .ref a1, .ref a2, .ref a3, .int (nI (u.1))])), (a0, .inl (t 0, 40, .inl (nF u.2.1))), (a1, .inl (t 0, 40, .inl (nF u.2.2.1))), (a2, .inl (t 0, 40, .inl (nF u.2.2.2.1))), (a3, .inl (t 0, 40, .inl (nF u.2.2.2.2)))]) := by
  refine start_Mi cX5_add 4 (some .int) (by decide) rfl (Nat.le_of_ble_eq_true rfl) ?_
  intro p e s m below meth c A ls B hin hP hD hS hA hl
  obtain ⟨hx, hb, hr, hts, hown, hlk, hml, hN, hK⟩ := B
  have hl : lv_has ls 4 [(0, .ref h), (1, .int (nI ln)), (2, .int (nI al)), (3, .int (nI ki))] := hl
  refine lv_aload_n hx hb dX5_add_0 rfl (lv_at hl 0 rfl) ?_
  refine va_get (D := D) (ci := 6) (v := .int (nI n)) (C := RX5) (T := TX5) (N := 5) hx hb hts i_X5_add_X5 hown hK hP 0 rfl rfl 4 (by decide) (hts (.fieldLink RX5 24 "MemoryMap$Sections" "count" "I") (List.mem_of_getElem? (i := 1) rfl)) (fun _ h9 => h9) rfl dX5_add_1 ?_
  refine lv_bipush (v := (nI 40)) hx hb dX5_add_4 (by decide) ?_
  refine r_icmp_lt (x := n) (y := 40) (tgt := 12) hx hb (by omega) (by omega) dX5_add_6 (by decide) (fun c1 => ?_) (fun c1 => ?_)
  · refine lv_aload_n hx hb dX5_add_12 rfl (lv_at hl 0 rfl) ?_
    refine va_get (D := D) (ci := 6) (v := .ref a0) (C := RX5) (T := TX5) (N := 5) hx hb hts i_X5_add_X5 hown hK hP 0 rfl rfl 0 (by decide) (hts (.fieldLink RX5 9 "MemoryMap$Sections" "lengths" "[I") (List.mem_of_getElem? (i := 2) rfl)) (fun _ h9 => h9) rfl dX5_add_13 ?_
    refine lv_aload_n hx hb dX5_add_16 rfl (lv_at hl 0 rfl) ?_
    refine va_get (D := D) (ci := 6) (v := .int (nI n)) (C := RX5) (T := TX5) (N := 5) hx hb hts i_X5_add_X5 hown hK hP 0 rfl rfl 4 (by decide) (hts (.fieldLink RX5 24 "MemoryMap$Sections" "count" "I") (List.mem_of_getElem? (i := 1) rfl)) (fun _ h9 => h9) rfl dX5_add_17 ?_
    refine lv_iload_n hx hb dX5_add_20 rfl (lv_at hl 1 rfl) ?_
    refine r_iast hx hb hK hP hD hS 1 0 rfl rfl (i := n) (by omega) (by omega) dX5_add_21 (fun H locs hP hD hS => ?_)
    have hP : va_P D vwCl [(h, .inr (6, [.ref a0, .ref a1, .ref a2, .ref a3, .int (nI n)])), (a0, .inl (t 0, 40, .inl (nF (va_up sl n ln)))), (a1, .inl (t 0, 40, .inl (nF sa))), (a2, .inl (t 0, 40, .inl (nF sk))), (a3, .inl (t 0, 40, .inl (nF gf)))] H := hP
    have hD : va_D A [(h, .inr (6, [.ref a0, .ref a1, .ref a2, .ref a3, .int (nI n)])), (a0, .inl (t 0, 40, .inl (nF (va_up sl n ln)))), (a1, .inl (t 0, 40, .inl (nF sa))), (a2, .inl (t 0, 40, .inl (nF sk))), (a3, .inl (t 0, 40, .inl (nF gf)))] := hD
    refine lv_aload_n hx hb dX5_add_22 rfl (lv_at hl 0 rfl) ?_
    refine va_get (D := D) (ci := 6) (v := .ref a1) (C := RX5) (T := TX5) (N := 5) hx hb hts i_X5_add_X5 hown hK hP 0 rfl rfl 1 (by decide) (hts (.fieldLink RX5 15 "MemoryMap$Sections" "aligns" "[I") (List.mem_of_getElem? (i := 3) rfl)) (fun _ h9 => h9) rfl dX5_add_23 ?_
    refine lv_aload_n hx hb dX5_add_26 rfl (lv_at hl 0 rfl) ?_
    refine va_get (D := D) (ci := 6) (v := .int (nI n)) (C := RX5) (T := TX5) (N := 5) hx hb hts i_X5_add_X5 hown hK hP 0 rfl rfl 4 (by decide) (hts (.fieldLink RX5 24 "MemoryMap$Sections" "count" "I") (List.mem_of_getElem? (i := 1) rfl)) (fun _ h9 => h9) rfl dX5_add_27 ?_
    refine lv_iload_n hx hb dX5_add_30 rfl (lv_at hl 2 rfl) ?_
    refine r_iast hx hb hK hP hD hS 2 0 rfl rfl (i := n) (by omega) (by omega) dX5_add_31 (fun H locs hP hD hS => ?_)
    have hP : va_P D vwCl [(h, .inr (6, [.ref a0, .ref a1, .ref a2, .ref a3, .int (nI n)])), (a0, .inl (t 0, 40, .inl (nF (va_up sl n ln)))), (a1, .inl (t 0, 40, .inl (nF (va_up sa n al)))), (a2, .inl (t 0, 40, .inl (nF sk))), (a3, .inl (t 0, 40, .inl (nF gf)))] H := hP
    have hD : va_D A [(h, .inr (6, [.ref a0, .ref a1, .ref a2, .ref a3, .int (nI n)])), (a0, .inl (t 0, 40, .inl (nF (va_up sl n ln)))), (a1, .inl (t 0, 40, .inl (nF (va_up sa n al)))), (a2, .inl (t 0, 40, .inl (nF sk))), (a3, .inl (t 0, 40, .inl (nF gf)))] := hD
    refine lv_aload_n hx hb dX5_add_32 rfl (lv_at hl 0 rfl) ?_
    refine va_get (D := D) (ci := 6) (v := .ref a2) (C := RX5) (T := TX5) (N := 5) hx hb hts i_X5_add_X5 hown hK hP 0 rfl rfl 2 (by decide) (hts (.fieldLink RX5 18 "MemoryMap$Sections" "kinds" "[I") (List.mem_of_getElem? (i := 4) rfl)) (fun _ h9 => h9) rfl dX5_add_33 ?_
    refine lv_aload_n hx hb dX5_add_36 rfl (lv_at hl 0 rfl) ?_
    refine va_get (D := D) (ci := 6) (v := .int (nI n)) (C := RX5) (T := TX5) (N := 5) hx hb hts i_X5_add_X5 hown hK hP 0 rfl rfl 4 (by decide) (hts (.fieldLink RX5 24 "MemoryMap$Sections" "count" "I") (List.mem_of_getElem? (i := 1) rfl)) (fun _ h9 => h9) rfl dX5_add_37 ?_
    refine lv_iload_n hx hb dX5_add_40 rfl (lv_at hl 3 rfl) ?_
    refine r_iast hx hb hK hP hD hS 3 0 rfl rfl (i := n) (by omega) (by omega) dX5_add_41 (fun H locs hP hD hS => ?_)
    have hP : va_P D vwCl [(h, .inr (6, [.ref a0, .ref a1, .ref a2, .ref a3, .int (nI n)])), (a0, .inl (t 0, 40, .inl (nF (va_up sl n ln)))), (a1, .inl (t 0, 40, .inl (nF (va_up sa n al)))), (a2, .inl (t 0, 40, .inl (nF (va_up sk n ki)))), (a3, .inl (t 0, 40, .inl (nF gf)))] H := hP
    have hD : va_D A [(h, .inr (6, [.ref a0, .ref a1, .ref a2, .ref a3, .int (nI n)])), (a0, .inl (t 0, 40, .inl (nF (va_up sl n ln)))), (a1, .inl (t 0, 40, .inl (nF (va_up sa n al)))), (a2, .inl (t 0, 40, .inl (nF (va_up sk n ki)))), (a3, .inl (t 0, 40, .inl (nF gf)))] := hD
    refine lv_aload_n hx hb dX5_add_42 rfl (lv_at hl 0 rfl) ?_
    refine lv_aload_n hx hb dX5_add_43 rfl (lv_at hl 0 rfl) ?_
    refine va_get (D := D) (ci := 6) (v := .int (nI n)) (C := RX5) (T := TX5) (N := 5) hx hb hts i_X5_add_X5 hown hK hP 0 rfl rfl 4 (by decide) (hts (.fieldLink RX5 24 "MemoryMap$Sections" "count" "I") (List.mem_of_getElem? (i := 1) rfl)) (fun _ h9 => h9) rfl dX5_add_44 ?_
    have hsl2 : ∀ k, va_up sl n ln k ≤ 65536 := fun k => by rw [va_upc]; split; exact hln; exact hsl k
    refine call_Mv (wr := []) (wn := fun g : Nat → Nat => [(h, .inr (6, [.ref a0, .ref a1, .ref a2, .ref a3, .int (nI n)])), (a0, .inl (t 0, 40, .inl (nF (va_up sl n ln)))), (a1, .inl (t 0, 40, .inl (nF (va_up sa n al)))), (a2, .inl (t 0, 40, .inl (nF (va_up sk n ki)))), (a3, .inl (t 0, 40, .inl (nF g)))]) (va_runV (As := [.int (nI n)]) (rest := []) ⟨hx, hb, hml, hown, hts⟩ (c_X5_enterInOrder l D t h a0 a1 a2 a3 n (va_up sl n ln) (va_up sa n al) (va_up sk n ki) gf c1 hsl2 hgf _) (cwV 1 hts gX5_add_X5_enterInOrder rfl rfl rfl (by decide +kernel) ⟨Nat.le_of_ble_eq_true rfl, Nat.le_of_ble_eq_true rfl⟩) (preV hP hD hK hN [0, 1, 2, 3, 4] 6 0 rfl (by decide) rfl rfl rfl) rfl rfl hl.1 rfl (lv_room (Nat.le_of_ble_eq_true rfl)) dX5_add_47 ⟨Nat.le_of_ble_eq_true rfl, Nat.le_of_ble_eq_true rfl⟩) hP hD hS hA [0, 1, 2, 3, 4] [] [0, 1, 2, 3, 4] rfl rfl (by decide) (by decide) (fun _ => rfl) (by decide) (fun g H locs hw hP hD hS hz => ?_)
    have hP : va_P D vwCl [(h, .inr (6, [.ref a0, .ref a1, .ref a2, .ref a3, .int (nI n)])), (a0, .inl (t 0, 40, .inl (nF (va_up sl n ln)))), (a1, .inl (t 0, 40, .inl (nF (va_up sa n al)))), (a2, .inl (t 0, 40, .inl (nF (va_up sk n ki)))), (a3, .inl (t 0, 40, .inl (nF g)))] H := hP
    have hD : va_D A [(h, .inr (6, [.ref a0, .ref a1, .ref a2, .ref a3, .int (nI n)])), (a0, .inl (t 0, 40, .inl (nF (va_up sl n ln)))), (a1, .inl (t 0, 40, .inl (nF (va_up sa n al)))), (a2, .inl (t 0, 40, .inl (nF (va_up sk n ki)))), (a3, .inl (t 0, 40, .inl (nF g)))] := hD
    refine lv_aload_n hx hb dX5_add_50 rfl (lv_at hl 0 rfl) ?_
    refine lv_dup hx hb dX5_add_51 rfl ?_
    refine va_get (D := D) (ci := 6) (v := .int (nI n)) (C := RX5) (T := TX5) (N := 5) hx hb hts i_X5_add_X5 hown hK hP 0 rfl rfl 4 (by decide) (hts (.fieldLink RX5 24 "MemoryMap$Sections" "count" "I") (List.mem_of_getElem? (i := 1) rfl)) (fun _ h9 => h9) rfl dX5_add_52 ?_
    refine lv_iconst (v := (nI 1)) hx hb dX5_add_55 (by decide) ?_
    refine r_iadd (x := n) (y := 1) hx hb dX5_add_56 ?_
    refine va_put (D := D) (ci := 6) (v := .int (nI (n + 1))) (ty := .int) (C := RX5) (T := TX5) (N := 5) hx hb hts i_X5_add_X5 tyX5 tyX5_ok nmX5 hown hK hP hD hS 0 rfl rfl 4 (by decide) (hts (.fieldLink RX5 24 "MemoryMap$Sections" "count" "I") (List.mem_of_getElem? (i := 1) rfl)) (fun _ h9 => h9) rfl (by decide +kernel) rfl rfl (Nat.le_of_ble_eq_true rfl) dX5_add_57 (fun H locs hP hD hS => ?_)
    have hP : va_P D vwCl [(h, .inr (6, [.ref a0, .ref a1, .ref a2, .ref a3, .int (nI (n + 1))])), (a0, .inl (t 0, 40, .inl (nF (va_up sl n ln)))), (a1, .inl (t 0, 40, .inl (nF (va_up sa n al)))), (a2, .inl (t 0, 40, .inl (nF (va_up sk n ki)))), (a3, .inl (t 0, 40, .inl (nF g)))] H := hP
    have hD : va_D A [(h, .inr (6, [.ref a0, .ref a1, .ref a2, .ref a3, .int (nI (n + 1))])), (a0, .inl (t 0, 40, .inl (nF (va_up sl n ln)))), (a1, .inl (t 0, 40, .inl (nF (va_up sa n al)))), (a2, .inl (t 0, 40, .inl (nF (va_up sk n ki)))), (a3, .inl (t 0, 40, .inl (nF g)))] := hD
    refine lv_aload_n hx hb dX5_add_60 rfl (lv_at hl 0 rfl) ?_
    refine va_get (D := D) (ci := 6) (v := .int (nI (n + 1))) (C := RX5) (T := TX5) (N := 5) hx hb hts i_X5_add_X5 hown hK hP 0 rfl rfl 4 (by decide) (hts (.fieldLink RX5 24 "MemoryMap$Sections" "count" "I") (List.mem_of_getElem? (i := 1) rfl)) (fun _ h9 => h9) rfl dX5_add_61 ?_
    obtain ⟨p, hp, hp1, hp2⟩ := hw
    have e0 : va_up sl n ln n = ln := va_up_self _ _ _
    have e1 : ∀ i, i < n → va_up sl n ln (gf i) = sl (gf i) := fun i hi => va_up_ne _ _ (Nat.ne_of_lt (hgf i hi))
    rw [e0] at hp1 hp2
    exact ret_Mi hx hb hr hlk ((n + 1, va_up sl n ln, va_up sa n al, va_up sk n ki, g)) (Or.inr ⟨c1, rfl, g, rfl, p, hp, (Nat.eq_zero_or_pos p).imp id (fun z => hp1.elim (fun q => absurd q (by omega)) (fun q => by rw [e1 _ (by have := hp.1; omega)] at q; exact q)), fun i q1 q2 => by have q := hp2 i q1 q2; rw [e1 i q2] at q; exact q⟩) hP hD hS (Nat.le_of_ble_eq_true rfl) (Nat.le_of_ble_eq_true rfl) dX5_add_64
  · refine lv_bipush (v := ((-4))) hx hb dX5_add_9 (by decide) ?_
    exact ret_Mi hx hb hr hlk ((n, sl, sa, sk, gf)) (Or.inl ⟨c1, rfl, rfl⟩) hP hD hS (Nat.le_of_ble_eq_true rfl) (Nat.le_of_ble_eq_true rfl) dX5_add_11
