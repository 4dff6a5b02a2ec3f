theorem rngS {x : Int64} {sz : Nat} (hz : sz ≤ 65536) (h1 : ¬ x < lN 0) (h2 : x < lN sz) : ∃ k, k < sz ∧ x = lN k := by
  rw [Int64.lt_iff_toInt_lt, lN_toInt (by decide)] at h1
  rw [Int64.lt_iff_toInt_lt, lN_toInt (by omega)] at h2
  refine ⟨x.toInt.toNat, by omega, ?_⟩
  apply Int64.toInt_inj.mp
  rw [lN_toInt (by omega)]
  omega
theorem rngS' {x : Int64} {sz : Nat} (hz : sz ≤ 65536) (h : x < lN 0 ∨ ¬ x < lN sz) : ∀ k, k < sz → x ≠ lN k := by
  rintro k hk rfl
  rcases h with h | h
  · exact absurd ((pk_lLT (by omega) (by decide)).mp h) (by omega)
  · exact h ((pk_lLT (by omega) (by omega)).mpr hk)
/-- the depths as the model has them: -1 for what is not settled -/
def DeI (de : Nat → Int64) (S : Nat) (d : Nat → Nat) : Prop := ∀ g, 1 ≤ g → g ≤ 30 → de g = if S.testBit g then lN (d g) else (-1)
def CaI (ca : Nat → Int32) (cm : Nat → Nat) : Prop := ∀ f g, 1 ≤ f → f ≤ 30 → 1 ≤ g → g ≤ 30 → (ca (31 * f + g) = 0 ↔ (cm f).testBit g = false)
theorem mx_le {k : Nat} {d : Nat → Nat} (hd : ∀ g, d g ≤ 900000000) (n : Nat) : mxD k d n ≤ 900000000 := mxD_le n (fun g _ _ _ => hd g)
theorem m1_lt : (-1 : Int64) < lN 0 := by decide
theorem i_X8_cell_X8 : ∀ w ∈ wsX80, w ∈ wsX8_cell := by decide +kernel
abbrev rm_X8_cell : Room := { frames := 0, cells := 0, slots := 0, locals := 0 }
set_option maxHeartbeats 1000000 in
set_option maxRecDepth 100000 in
theorem c_X8_cell (l : Launch) (D : va_G) (t : Nat → ClassId) (bd : Nat → Nat) (th sz nr ns pd np nb : Nat) (fs es ri ln al ki km st oc : Nat → Nat) (tk ce pl tl kp ca cp su : Nat → Int32) (de : Nat → Int64) (x : Int64) (hsz : sz ≤ 65536) (hce : ∀ k, (ce k).toInt8.toInt32 = ce k) : Mi l yX8_cell wsX8_cell rm_X8_cell D (TY t) [.ref (bd 0), .long x] [((bd 0), .inr (9, [.int (nI th), .int (nI sz), .ref (bd 1), .ref (bd 2), .ref (bd 3), .int (nI nr), .ref (bd 4), .ref (bd 5), .ref (bd 6), .int (nI ns), .ref (bd 7), .ref (bd 8), .ref (bd 9), .ref (bd 10), .int (nI pd), .int (nI np), .ref (bd 11), .ref (bd 12), .ref (bd 13), .ref (bd 14), .ref (bd 15), .ref (bd 16), .ref (bd 17), .ref (bd 18), .int (nI nb)])), ((bd 1), .inl (t 0, 17, .inl (nF fs))), ((bd 2), .inl (t 0, 17, .inl (nF es))), ((bd 3), .inl (t 0, 17, .inl (nF ri))), ((bd 4), .inl (t 0, 41, .inl (nF ln))), ((bd 5), .inl (t 0, 41, .inl (nF al))), ((bd 6), .inl (t 0, 41, .inl (nF ki))), ((bd 7), .inl (t 1, 65536, .inl tk)), ((bd 8), .inl (t 1, 65536, .inl ce)), ((bd 9), .inl (t 0, 41, .inl pl)), ((bd 10), .inl (t 0, 41, .inl tl)), ((bd 11), .inl (t 0, 2091, .inl kp)), ((bd 12), .inl (t 0, 51, .inl (nF km))), ((bd 13), .inl (t 2, 31, .inr (.inl (lF st)))), ((bd 14), .inl (t 3, 961, .inl ca)), ((bd 15), .inl (t 2, 31, .inr (.inl de))), ((bd 16), .inl (t 0, 21, .inl (nF oc))), ((bd 17), .inl (t 1, 1344, .inl cp)), ((bd 18), .inl (t 0, 42, .inl su))] (S := Nat) (fun z u => ((∀ k, k < sz → x ≠ lN k) ∧ z = nI 0 ∧ u = 1) ∨ ∃ k, k < sz ∧ x = lN k ∧ z = ce k ∧ u = 0) (fun u => [((bd 0), .inr (9, [.int (nI u), .int (nI sz), .ref (bd 1), .ref (bd 2), .ref (bd 3), .int (nI nr), .ref (bd 4), .ref (bd 5), .ref (bd 6), .int (nI ns), .ref (bd 7), .ref (bd 8), .ref (bd 9), .ref (bd 10), .int (nI pd), .int (nI np), .ref (bd 11), .ref (bd 12), .ref (bd 13), .ref (bd 14), .ref (bd 15), .ref (bd 16), .ref (bd 17), .ref (bd 18), .int (nI nb)])), ((bd 1), .inl (t 0, 17, .inl (nF fs))), ((bd 2), .inl (t 0, 17, .inl (nF es))), ((bd 3), .inl (t 0, 17, .inl (nF ri))), ((bd 4), .inl (t 0, 41, .inl (nF ln))), ((bd 5), .inl (t 0, 41, .inl (nF al))), ((bd 6), .inl (t 0, 41, .inl (nF ki))), ((bd 7), .inl (t 1, 65536, .inl tk)), ((bd 8), .inl (t 1, 65536, .inl ce)), ((bd 9), .inl (t 0, 41, .inl pl)), ((bd 10), .inl (t 0, 41, .inl tl)), ((bd 11), .inl (t 0, 2091, .inl kp)), ((bd 12), .inl (t 0, 51, .inl (nF km))), ((bd 13), .inl (t 2, 31, .inr (.inl (lF st)))), ((bd 14), .inl (t 3, 961, .inl ca)), ((bd 15), .inl (t 2, 31, .inr (.inl de))), ((bd 16), .inl (t 0, 21, .inl (nF oc))), ((bd 17), .inl (t 1, 1344, .inl cp)), ((bd 18), .inl (t 0, 42, .inl su))]) := by
  refine start_Mi cX8_cell 3 (some .byte) (by decide) rfl (Nat.le_of_ble_eq_true rfl) ?_
  intro p e s m below meth c A ls B hin hP hD hS hA hl
  obtain ⟨hx, hb, hr, hts, hown, hlk, hml, hN, hK⟩ := B
  have hl : lv_has ls 3 [(0, .ref (bd 0)), (1, .long x)] := hl
  refine lv_aload_n hx hb dX8_cell_0 rfl (lv_at hl 0 rfl) ?_
  refine lv_lload_n hx hb dX8_cell_1 rfl (lv_at hl 1 rfl) ?_
  refine lv_lconst (v := (lN (0))) hx hb dX8_cell_2 (by decide) ?_
  refine r_l_lt (tgt := 17) hx hb dX8_cell_3 dX8_cell_4 (by decide) (fun c1 => ?_) (fun c1 => ?_)
  · refine lv_iconst (v := (nI 1)) hx hb dX8_cell_17 (by decide) ?_
    refine lv_goto (tgt := 22) hx hb dX8_cell_18 (by decide) ?_
    refine va_put (D := D) (ci := 9) (v := .int (nI 1)) (ty := .int) (C := RX8) (T := TX8) (N := 25) hx hb hts i_X8_cell_X8 tyX8 tyX8_ok nmX8 hown hK hP hD hS 0 rfl rfl 0 (by decide) (hts (.fieldLink RX8 74 "MemoryMapModel" "thrown" "I") (List.mem_of_getElem? (i := 2) rfl)) (fun _ h9 => h9) rfl (by decide +kernel) rfl rfl (Nat.le_of_ble_eq_true rfl) dX8_cell_22 (fun H locs hP hD hS => ?_)
    have hP : va_P D vwCl [((bd 0), .inr (9, [.int (nI 1), .int (nI sz), .ref (bd 1), .ref (bd 2), .ref (bd 3), .int (nI nr), .ref (bd 4), .ref (bd 5), .ref (bd 6), .int (nI ns), .ref (bd 7), .ref (bd 8), .ref (bd 9), .ref (bd 10), .int (nI pd), .int (nI np), .ref (bd 11), .ref (bd 12), .ref (bd 13), .ref (bd 14), .ref (bd 15), .ref (bd 16), .ref (bd 17), .ref (bd 18), .int (nI nb)])), ((bd 1), .inl (t 0, 17, .inl (nF fs))), ((bd 2), .inl (t 0, 17, .inl (nF es))), ((bd 3), .inl (t 0, 17, .inl (nF ri))), ((bd 4), .inl (t 0, 41, .inl (nF ln))), ((bd 5), .inl (t 0, 41, .inl (nF al))), ((bd 6), .inl (t 0, 41, .inl (nF ki))), ((bd 7), .inl (t 1, 65536, .inl tk)), ((bd 8), .inl (t 1, 65536, .inl ce)), ((bd 9), .inl (t 0, 41, .inl pl)), ((bd 10), .inl (t 0, 41, .inl tl)), ((bd 11), .inl (t 0, 2091, .inl kp)), ((bd 12), .inl (t 0, 51, .inl (nF km))), ((bd 13), .inl (t 2, 31, .inr (.inl (lF st)))), ((bd 14), .inl (t 3, 961, .inl ca)), ((bd 15), .inl (t 2, 31, .inr (.inl de))), ((bd 16), .inl (t 0, 21, .inl (nF oc))), ((bd 17), .inl (t 1, 1344, .inl cp)), ((bd 18), .inl (t 0, 42, .inl su))] H := hP
    have hD : va_D A [((bd 0), .inr (9, [.int (nI 1), .int (nI sz), .ref (bd 1), .ref (bd 2), .ref (bd 3), .int (nI nr), .ref (bd 4), .ref (bd 5), .ref (bd 6), .int (nI ns), .ref (bd 7), .ref (bd 8), .ref (bd 9), .ref (bd 10), .int (nI pd), .int (nI np), .ref (bd 11), .ref (bd 12), .ref (bd 13), .ref (bd 14), .ref (bd 15), .ref (bd 16), .ref (bd 17), .ref (bd 18), .int (nI nb)])), ((bd 1), .inl (t 0, 17, .inl (nF fs))), ((bd 2), .inl (t 0, 17, .inl (nF es))), ((bd 3), .inl (t 0, 17, .inl (nF ri))), ((bd 4), .inl (t 0, 41, .inl (nF ln))), ((bd 5), .inl (t 0, 41, .inl (nF al))), ((bd 6), .inl (t 0, 41, .inl (nF ki))), ((bd 7), .inl (t 1, 65536, .inl tk)), ((bd 8), .inl (t 1, 65536, .inl ce)), ((bd 9), .inl (t 0, 41, .inl pl)), ((bd 10), .inl (t 0, 41, .inl tl)), ((bd 11), .inl (t 0, 2091, .inl kp)), ((bd 12), .inl (t 0, 51, .inl (nF km))), ((bd 13), .inl (t 2, 31, .inr (.inl (lF st)))), ((bd 14), .inl (t 3, 961, .inl ca)), ((bd 15), .inl (t 2, 31, .inr (.inl de))), ((bd 16), .inl (t 0, 21, .inl (nF oc))), ((bd 17), .inl (t 1, 1344, .inl cp)), ((bd 18), .inl (t 0, 42, .inl su))] := hD
    refine lv_aload_n hx hb dX8_cell_25 rfl (lv_at hl 0 rfl) ?_
    refine va_get (D := D) (ci := 9) (v := .int (nI 1)) (C := RX8) (T := TX8) (N := 25) hx hb hts i_X8_cell_X8 hown hK hP 0 rfl rfl 0 (by decide) (hts (.fieldLink RX8 74 "MemoryMapModel" "thrown" "I") (List.mem_of_getElem? (i := 2) rfl)) (fun _ h9 => h9) rfl dX8_cell_26 ?_
    refine r_if_le (x := 1) (tgt := 36) hx hb (by omega) dX8_cell_29 (by decide) (fun c => absurd c (by decide)) (fun _ => ?_)
    refine lv_iconst (v := (nI 0)) hx hb dX8_cell_32 (by decide) ?_
    refine lv_goto (tgt := 43) hx hb dX8_cell_33 (by decide) ?_
    exact ret_Mz hx hb hr hlk rfl (1) (Or.inl ⟨rngS' hsz (Or.inl c1), rfl, rfl⟩) hP hD hS (Nat.le_of_ble_eq_true rfl) (Nat.le_of_ble_eq_true rfl) dX8_cell_43
  · refine lv_lload_n hx hb dX8_cell_7 rfl (lv_at hl 1 rfl) ?_
    refine lv_aload_n hx hb dX8_cell_8 rfl (lv_at hl 0 rfl) ?_
    refine va_get (D := D) (ci := 9) (v := .int (nI sz)) (C := RX8) (T := TX8) (N := 25) hx hb hts i_X8_cell_X8 hown hK hP 0 rfl rfl 1 (by decide) (hts (.fieldLink RX8 70 "MemoryMapModel" "size" "I") (List.mem_of_getElem? (i := 1) rfl)) (fun _ h9 => h9) rfl dX8_cell_9 ?_
    refine lv_i2l (v := (lN (sz))) hx hb dX8_cell_12 (nI_l (by omega)) ?_
    refine r_l_lt (tgt := 21) hx hb dX8_cell_13 dX8_cell_14 (by decide) (fun c2 => ?_) (fun c2 => ?_)
    · obtain ⟨k, hk, rfl⟩ := rngS hsz c1 c2
      have hl : lv_has ls 3 [(0, .ref (bd 0)), (1, .long (lN (k)))] := hl
      refine lv_iconst (v := (nI 0)) hx hb dX8_cell_21 (by decide) ?_
      refine va_put (D := D) (ci := 9) (v := .int (nI 0)) (ty := .int) (C := RX8) (T := TX8) (N := 25) hx hb hts i_X8_cell_X8 tyX8 tyX8_ok nmX8 hown hK hP hD hS 0 rfl rfl 0 (by decide) (hts (.fieldLink RX8 74 "MemoryMapModel" "thrown" "I") (List.mem_of_getElem? (i := 2) rfl)) (fun _ h9 => h9) rfl (by decide +kernel) rfl rfl (Nat.le_of_ble_eq_true rfl) dX8_cell_22 (fun H locs hP hD hS => ?_)
      have hP : va_P D vwCl [((bd 0), .inr (9, [.int (nI 0), .int (nI sz), .ref (bd 1), .ref (bd 2), .ref (bd 3), .int (nI nr), .ref (bd 4), .ref (bd 5), .ref (bd 6), .int (nI ns), .ref (bd 7), .ref (bd 8), .ref (bd 9), .ref (bd 10), .int (nI pd), .int (nI np), .ref (bd 11), .ref (bd 12), .ref (bd 13), .ref (bd 14), .ref (bd 15), .ref (bd 16), .ref (bd 17), .ref (bd 18), .int (nI nb)])), ((bd 1), .inl (t 0, 17, .inl (nF fs))), ((bd 2), .inl (t 0, 17, .inl (nF es))), ((bd 3), .inl (t 0, 17, .inl (nF ri))), ((bd 4), .inl (t 0, 41, .inl (nF ln))), ((bd 5), .inl (t 0, 41, .inl (nF al))), ((bd 6), .inl (t 0, 41, .inl (nF ki))), ((bd 7), .inl (t 1, 65536, .inl tk)), ((bd 8), .inl (t 1, 65536, .inl ce)), ((bd 9), .inl (t 0, 41, .inl pl)), ((bd 10), .inl (t 0, 41, .inl tl)), ((bd 11), .inl (t 0, 2091, .inl kp)), ((bd 12), .inl (t 0, 51, .inl (nF km))), ((bd 13), .inl (t 2, 31, .inr (.inl (lF st)))), ((bd 14), .inl (t 3, 961, .inl ca)), ((bd 15), .inl (t 2, 31, .inr (.inl de))), ((bd 16), .inl (t 0, 21, .inl (nF oc))), ((bd 17), .inl (t 1, 1344, .inl cp)), ((bd 18), .inl (t 0, 42, .inl su))] H := hP
      have hD : va_D A [((bd 0), .inr (9, [.int (nI 0), .int (nI sz), .ref (bd 1), .ref (bd 2), .ref (bd 3), .int (nI nr), .ref (bd 4), .ref (bd 5), .ref (bd 6), .int (nI ns), .ref (bd 7), .ref (bd 8), .ref (bd 9), .ref (bd 10), .int (nI pd), .int (nI np), .ref (bd 11), .ref (bd 12), .ref (bd 13), .ref (bd 14), .ref (bd 15), .ref (bd 16), .ref (bd 17), .ref (bd 18), .int (nI nb)])), ((bd 1), .inl (t 0, 17, .inl (nF fs))), ((bd 2), .inl (t 0, 17, .inl (nF es))), ((bd 3), .inl (t 0, 17, .inl (nF ri))), ((bd 4), .inl (t 0, 41, .inl (nF ln))), ((bd 5), .inl (t 0, 41, .inl (nF al))), ((bd 6), .inl (t 0, 41, .inl (nF ki))), ((bd 7), .inl (t 1, 65536, .inl tk)), ((bd 8), .inl (t 1, 65536, .inl ce)), ((bd 9), .inl (t 0, 41, .inl pl)), ((bd 10), .inl (t 0, 41, .inl tl)), ((bd 11), .inl (t 0, 2091, .inl kp)), ((bd 12), .inl (t 0, 51, .inl (nF km))), ((bd 13), .inl (t 2, 31, .inr (.inl (lF st)))), ((bd 14), .inl (t 3, 961, .inl ca)), ((bd 15), .inl (t 2, 31, .inr (.inl de))), ((bd 16), .inl (t 0, 21, .inl (nF oc))), ((bd 17), .inl (t 1, 1344, .inl cp)), ((bd 18), .inl (t 0, 42, .inl su))] := hD
      refine lv_aload_n hx hb dX8_cell_25 rfl (lv_at hl 0 rfl) ?_
      refine va_get (D := D) (ci := 9) (v := .int (nI 0)) (C := RX8) (T := TX8) (N := 25) hx hb hts i_X8_cell_X8 hown hK hP 0 rfl rfl 0 (by decide) (hts (.fieldLink RX8 74 "MemoryMapModel" "thrown" "I") (List.mem_of_getElem? (i := 2) rfl)) (fun _ h9 => h9) rfl dX8_cell_26 ?_
      refine r_if_le (x := 0) (tgt := 36) hx hb (by omega) dX8_cell_29 (by decide) (fun _ => ?_) (fun c => absurd c (by decide))
      refine lv_aload_n hx hb dX8_cell_36 rfl (lv_at hl 0 rfl) ?_
      refine va_get (D := D) (ci := 9) (v := .ref (bd 8)) (C := RX8) (T := TX8) (N := 25) hx hb hts i_X8_cell_X8 hown hK hP 0 rfl rfl 11 (by decide) (hts (.fieldLink RX8 33 "MemoryMapModel" "cells" "[B") (List.mem_of_getElem? (i := 3) rfl)) (fun _ h9 => h9) rfl dX8_cell_37 ?_
      refine lv_lload_n hx hb dX8_cell_40 rfl (lv_at hl 1 rfl) ?_
      refine lv_l2i (v := (nI k)) hx hb dX8_cell_41 (lN_i _) ?_
      refine r_baldI hx hb hK hP 8 1 rfl rfl (i := k) (by omega) (by omega) dX8_cell_42 ?_
      exact ret_Mz hx hb hr hlk (nar_b (hce k)) (0) (Or.inr ⟨k, hk, rfl, rfl, rfl⟩) hP hD hS (Nat.le_of_ble_eq_true rfl) (Nat.le_of_ble_eq_true rfl) dX8_cell_43
    · refine lv_iconst (v := (nI 1)) hx hb dX8_cell_17 (by decide) ?_
      refine lv_goto (tgt := 22) hx hb dX8_cell_18 (by decide) ?_
      refine va_put (D := D) (ci := 9) (v := .int (nI 1)) (ty := .int) (C := RX8) (T := TX8) (N := 25) hx hb hts i_X8_cell_X8 tyX8 tyX8_ok nmX8 hown hK hP hD hS 0 rfl rfl 0 (by decide) (hts (.fieldLink RX8 74 "MemoryMapModel" "thrown" "I") (List.mem_of_getElem? (i := 2) rfl)) (fun _ h9 => h9) rfl (by decide +kernel) rfl rfl (Nat.le_of_ble_eq_true rfl) dX8_cell_22 (fun H locs hP hD hS => ?_)
      have hP : va_P D vwCl [((bd 0), .inr (9, [.int (nI 1), .int (nI sz), .ref (bd 1), .ref (bd 2), .ref (bd 3), .int (nI nr), .ref (bd 4), .ref (bd 5), .ref (bd 6), .int (nI ns), .ref (bd 7), .ref (bd 8), .ref (bd 9), .ref (bd 10), .int (nI pd), .int (nI np), .ref (bd 11), .ref (bd 12), .ref (bd 13), .ref (bd 14), .ref (bd 15), .ref (bd 16), .ref (bd 17), .ref (bd 18), .int (nI nb)])), ((bd 1), .inl (t 0, 17, .inl (nF fs))), ((bd 2), .inl (t 0, 17, .inl (nF es))), ((bd 3), .inl (t 0, 17, .inl (nF ri))), ((bd 4), .inl (t 0, 41, .inl (nF ln))), ((bd 5), .inl (t 0, 41, .inl (nF al))), ((bd 6), .inl (t 0, 41, .inl (nF ki))), ((bd 7), .inl (t 1, 65536, .inl tk)), ((bd 8), .inl (t 1, 65536, .inl ce)), ((bd 9), .inl (t 0, 41, .inl pl)), ((bd 10), .inl (t 0, 41, .inl tl)), ((bd 11), .inl (t 0, 2091, .inl kp)), ((bd 12), .inl (t 0, 51, .inl (nF km))), ((bd 13), .inl (t 2, 31, .inr (.inl (lF st)))), ((bd 14), .inl (t 3, 961, .inl ca)), ((bd 15), .inl (t 2, 31, .inr (.inl de))), ((bd 16), .inl (t 0, 21, .inl (nF oc))), ((bd 17), .inl (t 1, 1344, .inl cp)), ((bd 18), .inl (t 0, 42, .inl su))] H := hP
      have hD : va_D A [((bd 0), .inr (9, [.int (nI 1), .int (nI sz), .ref (bd 1), .ref (bd 2), .ref (bd 3), .int (nI nr), .ref (bd 4), .ref (bd 5), .ref (bd 6), .int (nI ns), .ref (bd 7), .ref (bd 8), .ref (bd 9), .ref (bd 10), .int (nI pd), .int (nI np), .ref (bd 11), .ref (bd 12), .ref (bd 13), .ref (bd 14), .ref (bd 15), .ref (bd 16), .ref (bd 17), .ref (bd 18), .int (nI nb)])), ((bd 1), .inl (t 0, 17, .inl (nF fs))), ((bd 2), .inl (t 0, 17, .inl (nF es))), ((bd 3), .inl (t 0, 17, .inl (nF ri))), ((bd 4), .inl (t 0, 41, .inl (nF ln))), ((bd 5), .inl (t 0, 41, .inl (nF al))), ((bd 6), .inl (t 0, 41, .inl (nF ki))), ((bd 7), .inl (t 1, 65536, .inl tk)), ((bd 8), .inl (t 1, 65536, .inl ce)), ((bd 9), .inl (t 0, 41, .inl pl)), ((bd 10), .inl (t 0, 41, .inl tl)), ((bd 11), .inl (t 0, 2091, .inl kp)), ((bd 12), .inl (t 0, 51, .inl (nF km))), ((bd 13), .inl (t 2, 31, .inr (.inl (lF st)))), ((bd 14), .inl (t 3, 961, .inl ca)), ((bd 15), .inl (t 2, 31, .inr (.inl de))), ((bd 16), .inl (t 0, 21, .inl (nF oc))), ((bd 17), .inl (t 1, 1344, .inl cp)), ((bd 18), .inl (t 0, 42, .inl su))] := hD
      refine lv_aload_n hx hb dX8_cell_25 rfl (lv_at hl 0 rfl) ?_
      refine va_get (D := D) (ci := 9) (v := .int (nI 1)) (C := RX8) (T := TX8) (N := 25) hx hb hts i_X8_cell_X8 hown hK hP 0 rfl rfl 0 (by decide) (hts (.fieldLink RX8 74 "MemoryMapModel" "thrown" "I") (List.mem_of_getElem? (i := 2) rfl)) (fun _ h9 => h9) rfl dX8_cell_26 ?_
      refine r_if_le (x := 1) (tgt := 36) hx hb (by omega) dX8_cell_29 (by decide) (fun c => absurd c (by decide)) (fun _ => ?_)
      refine lv_iconst (v := (nI 0)) hx hb dX8_cell_32 (by decide) ?_
      refine lv_goto (tgt := 43) hx hb dX8_cell_33 (by decide) ?_
      exact ret_Mz hx hb hr hlk rfl (1) (Or.inl ⟨rngS' hsz (Or.inr c2), rfl, rfl⟩) hP hD hS (Nat.le_of_ble_eq_true rfl) (Nat.le_of_ble_eq_true rfl) dX8_cell_43

theorem i_X8_call_X8 : ∀ w ∈ wsX80, w ∈ wsX8_call := by decide +kernel
abbrev rm_X8_call : Room := { frames := 0, cells := 0, slots := 0, locals := 0 }
set_option maxHeartbeats 1000000 in
set_option maxRecDepth 100000 in
theorem c_X8_call (l : Launch) (D : va_G) (t : Nat → ClassId) (bd : Nat → Nat) (th sz nr ns pd np nb : Nat) (fs es ri ln al ki km st oc : Nat → Nat) (tk ce pl tl kp ca cp su : Nat → Int32) (de : Nat → Int64) (x y : Int32) (z : Int64)  : Mi l yX8_call wsX8_call rm_X8_call D (TY t) [.ref (bd 0), .int x, .int y, .long z] [((bd 0), .inr (9, [.int (nI th), .int (nI sz), .ref (bd 1), .ref (bd 2), .ref (bd 3), .int (nI nr), .ref (bd 4), .ref (bd 5), .ref (bd 6), .int (nI ns), .ref (bd 7), .ref (bd 8), .ref (bd 9), .ref (bd 10), .int (nI pd), .int (nI np), .ref (bd 11), .ref (bd 12), .ref (bd 13), .ref (bd 14), .ref (bd 15), .ref (bd 16), .ref (bd 17), .ref (bd 18), .int (nI nb)])), ((bd 1), .inl (t 0, 17, .inl (nF fs))), ((bd 2), .inl (t 0, 17, .inl (nF es))), ((bd 3), .inl (t 0, 17, .inl (nF ri))), ((bd 4), .inl (t 0, 41, .inl (nF ln))), ((bd 5), .inl (t 0, 41, .inl (nF al))), ((bd 6), .inl (t 0, 41, .inl (nF ki))), ((bd 7), .inl (t 1, 65536, .inl tk)), ((bd 8), .inl (t 1, 65536, .inl ce)), ((bd 9), .inl (t 0, 41, .inl pl)), ((bd 10), .inl (t 0, 41, .inl tl)), ((bd 11), .inl (t 0, 2091, .inl kp)), ((bd 12), .inl (t 0, 51, .inl (nF km))), ((bd 13), .inl (t 2, 31, .inr (.inl (lF st)))), ((bd 14), .inl (t 3, 961, .inl ca)), ((bd 15), .inl (t 2, 31, .inr (.inl de))), ((bd 16), .inl (t 0, 21, .inl (nF oc))), ((bd 17), .inl (t 1, 1344, .inl cp)), ((bd 18), .inl (t 0, 42, .inl su))] (S := (Nat → Nat) × (Nat → Int32)) (fun v u => (((∀ k, 1 ≤ k → k ≤ 30 → x ≠ nI k) ∨ (∀ k, k ≤ 30 → y ≠ nI k)) ∧ v = (-1) ∧ u = (st, ca)) ∨ ∃ f g, 1 ≤ f ∧ f ≤ 30 ∧ x = nI f ∧ g ≤ 30 ∧ y = nI g ∧ (((∀ k, k ≤ 1000000 → z ≠ lN k) ∧ v = (-2) ∧ u = (st, ca)) ∨ ∃ k, k ≤ 1000000 ∧ z = lN k ∧ u = (va_up st f k, if g = 0 then ca else upd ca (31 * f + g) (nI 1)) ∧ v = nI (cnR (fun m => u.2 (31 * f + m)) 30))) (fun u => [((bd 0), .inr (9, [.int (nI 0), .int (nI sz), .ref (bd 1), .ref (bd 2), .ref (bd 3), .int (nI nr), .ref (bd 4), .ref (bd 5), .ref (bd 6), .int (nI ns), .ref (bd 7), .ref (bd 8), .ref (bd 9), .ref (bd 10), .int (nI pd), .int (nI np), .ref (bd 11), .ref (bd 12), .ref (bd 13), .ref (bd 14), .ref (bd 15), .ref (bd 16), .ref (bd 17), .ref (bd 18), .int (nI nb)])), ((bd 1), .inl (t 0, 17, .inl (nF fs))), ((bd 2), .inl (t 0, 17, .inl (nF es))), ((bd 3), .inl (t 0, 17, .inl (nF ri))), ((bd 4), .inl (t 0, 41, .inl (nF ln))), ((bd 5), .inl (t 0, 41, .inl (nF al))), ((bd 6), .inl (t 0, 41, .inl (nF ki))), ((bd 7), .inl (t 1, 65536, .inl tk)), ((bd 8), .inl (t 1, 65536, .inl ce)), ((bd 9), .inl (t 0, 41, .inl pl)), ((bd 10), .inl (t 0, 41, .inl tl)), ((bd 11), .inl (t 0, 2091, .inl kp)), ((bd 12), .inl (t 0, 51, .inl (nF km))), ((bd 13), .inl (t 2, 31, .inr (.inl (lF u.1)))), ((bd 14), .inl (t 3, 961, .inl u.2)), ((bd 15), .inl (t 2, 31, .inr (.inl de))), ((bd 16), .inl (t 0, 21, .inl (nF oc))), ((bd 17), .inl (t 1, 1344, .inl cp)), ((bd 18), .inl (t 0, 42, .inl su))]) := by
  refine start_Mi cX8_call 7 (some .int) (by decide) rfl (Nat.le_of_ble_eq_true rfl) ?_
  intro p e s m below meth c A ls B hin hP hD hS hA hl
  obtain ⟨hx, hb, hr, hts, hown, hlk, hml, hN, hK⟩ := B
  have hl : lv_has ls 7 [(0, .ref (bd 0)), (1, .int x), (2, .int y), (3, .long z)] := hl
  refine lv_aload_n hx hb dX8_call_0 rfl (lv_at hl 0 rfl) ?_
  refine lv_iconst (v := (nI 0)) hx hb dX8_call_1 (by decide) ?_
  refine va_put (D := D) (ci := 9) (v := .int (nI 0)) (ty := .int) (C := RX8) (T := TX8) (N := 25) hx hb hts i_X8_call_X8 tyX8 tyX8_ok nmX8 hown hK hP hD hS 0 rfl rfl 0 (by decide) (hts (.fieldLink RX8 74 "MemoryMapModel" "thrown" "I") (List.mem_of_getElem? (i := 1) rfl)) (fun _ h9 => h9) rfl (by decide +kernel) rfl rfl (Nat.le_of_ble_eq_true rfl) dX8_call_2 (fun H locs hP hD hS => ?_)
  have hP : va_P D vwCl [((bd 0), .inr (9, [.int (nI 0), .int (nI sz), .ref (bd 1), .ref (bd 2), .ref (bd 3), .int (nI nr), .ref (bd 4), .ref (bd 5), .ref (bd 6), .int (nI ns), .ref (bd 7), .ref (bd 8), .ref (bd 9), .ref (bd 10), .int (nI pd), .int (nI np), .ref (bd 11), .ref (bd 12), .ref (bd 13), .ref (bd 14), .ref (bd 15), .ref (bd 16), .ref (bd 17), .ref (bd 18), .int (nI nb)])), ((bd 1), .inl (t 0, 17, .inl (nF fs))), ((bd 2), .inl (t 0, 17, .inl (nF es))), ((bd 3), .inl (t 0, 17, .inl (nF ri))), ((bd 4), .inl (t 0, 41, .inl (nF ln))), ((bd 5), .inl (t 0, 41, .inl (nF al))), ((bd 6), .inl (t 0, 41, .inl (nF ki))), ((bd 7), .inl (t 1, 65536, .inl tk)), ((bd 8), .inl (t 1, 65536, .inl ce)), ((bd 9), .inl (t 0, 41, .inl pl)), ((bd 10), .inl (t 0, 41, .inl tl)), ((bd 11), .inl (t 0, 2091, .inl kp)), ((bd 12), .inl (t 0, 51, .inl (nF km))), ((bd 13), .inl (t 2, 31, .inr (.inl (lF st)))), ((bd 14), .inl (t 3, 961, .inl ca)), ((bd 15), .inl (t 2, 31, .inr (.inl de))), ((bd 16), .inl (t 0, 21, .inl (nF oc))), ((bd 17), .inl (t 1, 1344, .inl cp)), ((bd 18), .inl (t 0, 42, .inl su))] H := hP
  have hD : va_D A [((bd 0), .inr (9, [.int (nI 0), .int (nI sz), .ref (bd 1), .ref (bd 2), .ref (bd 3), .int (nI nr), .ref (bd 4), .ref (bd 5), .ref (bd 6), .int (nI ns), .ref (bd 7), .ref (bd 8), .ref (bd 9), .ref (bd 10), .int (nI pd), .int (nI np), .ref (bd 11), .ref (bd 12), .ref (bd 13), .ref (bd 14), .ref (bd 15), .ref (bd 16), .ref (bd 17), .ref (bd 18), .int (nI nb)])), ((bd 1), .inl (t 0, 17, .inl (nF fs))), ((bd 2), .inl (t 0, 17, .inl (nF es))), ((bd 3), .inl (t 0, 17, .inl (nF ri))), ((bd 4), .inl (t 0, 41, .inl (nF ln))), ((bd 5), .inl (t 0, 41, .inl (nF al))), ((bd 6), .inl (t 0, 41, .inl (nF ki))), ((bd 7), .inl (t 1, 65536, .inl tk)), ((bd 8), .inl (t 1, 65536, .inl ce)), ((bd 9), .inl (t 0, 41, .inl pl)), ((bd 10), .inl (t 0, 41, .inl tl)), ((bd 11), .inl (t 0, 2091, .inl kp)), ((bd 12), .inl (t 0, 51, .inl (nF km))), ((bd 13), .inl (t 2, 31, .inr (.inl (lF st)))), ((bd 14), .inl (t 3, 961, .inl ca)), ((bd 15), .inl (t 2, 31, .inr (.inl de))), ((bd 16), .inl (t 0, 21, .inl (nF oc))), ((bd 17), .inl (t 1, 1344, .inl cp)), ((bd 18), .inl (t 0, 42, .inl su))] := hD
  refine lv_iload_n hx hb dX8_call_5 rfl (lv_at hl 1 rfl) ?_
  refine lv_iconst (v := (nI 1)) hx hb dX8_call_6 (by decide) ?_
  refine lv_icmp_lt (tgt := 26) hx hb dX8_call_7 (by decide) (fun c1 => ?_) (fun c1 => ?_)
  · refine lv_iconst (v := ((-1))) hx hb dX8_call_26 (by decide) ?_
    exact ret_Mi hx hb hr hlk ((st, ca)) (Or.inl ⟨Or.inl (fun k h1 h2 e => absurd (e ▸ c1) (nI_nlt h1 (by omega))), rfl, rfl⟩) hP hD hS (Nat.le_of_ble_eq_true rfl) (Nat.le_of_ble_eq_true rfl) dX8_call_27
  · refine lv_iload_n hx hb dX8_call_10 rfl (lv_at hl 1 rfl) ?_
    refine lv_bipush (v := (nI 30)) hx hb dX8_call_11 (by decide) ?_
    refine lv_icmp_gt (tgt := 26) hx hb dX8_call_13 (by decide) (fun c2 => ?_) (fun c2 => ?_)
    · refine lv_iconst (v := ((-1))) hx hb dX8_call_26 (by decide) ?_
      exact ret_Mi hx hb hr hlk ((st, ca)) (Or.inl ⟨Or.inl (fun k h1 h2 e => absurd (e ▸ c2) (nI_nlt h2 (by omega))), rfl, rfl⟩) hP hD hS (Nat.le_of_ble_eq_true rfl) (Nat.le_of_ble_eq_true rfl) dX8_call_27
    · refine lv_iload_n hx hb dX8_call_16 rfl (lv_at hl 2 rfl) ?_
      refine lv_if_lt (tgt := 26) hx hb dX8_call_17 (by decide) (fun c3 => ?_) (fun c3 => ?_)
      · refine lv_iconst (v := ((-1))) hx hb dX8_call_26 (by decide) ?_
        exact ret_Mi hx hb hr hlk ((st, ca)) (Or.inl ⟨Or.inr (rng0' (by omega) (Or.inl c3)), rfl, rfl⟩) hP hD hS (Nat.le_of_ble_eq_true rfl) (Nat.le_of_ble_eq_true rfl) dX8_call_27
      · refine lv_iload_n hx hb dX8_call_20 rfl (lv_at hl 2 rfl) ?_
        refine lv_bipush (v := (nI 30)) hx hb dX8_call_21 (by decide) ?_
        refine lv_icmp_le (tgt := 28) hx hb dX8_call_23 (by decide) (fun c4 => ?_) (fun c4 => ?_)
        · obtain ⟨g, q4, rfl⟩ := rng0 (by omega) c3 c4
          obtain ⟨f, q1, q2, rfl⟩ := rngJ (hi := 30) (by omega) (by omega) c1 (Int32.not_lt.mp c2)
          have hl : lv_has ls 7 [(0, .ref (bd 0)), (1, .int (nI f)), (2, .int (nI g)), (3, .long z)] := hl
          refine lv_lload_n hx hb dX8_call_28 rfl (lv_at hl 3 rfl) ?_
          refine lv_lconst (v := (lN (0))) hx hb dX8_call_29 (by decide) ?_
          refine r_l_lt (tgt := 42) hx hb dX8_call_30 dX8_call_31 (by decide) (fun c5 => ?_) (fun c5 => ?_)
          · refine lv_bipush (v := ((-2))) hx hb dX8_call_42 (by decide) ?_
            exact ret_Mi hx hb hr hlk ((st, ca)) (Or.inr ⟨f, g, q1, q2, rfl, q4, rfl, Or.inl ⟨fun k hk => rngL' (lo := 0) (hi := 1000000) (by omega) (by omega) (Or.inl c5) k (Nat.zero_le _) hk, rfl, rfl⟩⟩) hP hD hS (Nat.le_of_ble_eq_true rfl) (Nat.le_of_ble_eq_true rfl) dX8_call_44
          · refine lv_lload_n hx hb dX8_call_34 rfl (lv_at hl 3 rfl) ?_
            refine lv_ldc2 (v := (lN (1000000))) hx hb hown (hts (.constantLong RX8 111 (1000000)) (List.mem_of_getElem? (i := 2) rfl)) dX8_call_35 ?_
            refine r_l_le (tgt := 45) hx hb dX8_call_38 dX8_call_39 (by decide) (fun c6 => ?_) (fun c6 => ?_)
            · obtain ⟨k, -, q6, rfl⟩ := rngL (lo := 0) (hi := 1000000) (by omega) (by omega) c5 (Int64.not_lt.mpr c6)
              have hl : lv_has ls 7 [(0, .ref (bd 0)), (1, .int (nI f)), (2, .int (nI g)), (3, .long (lN (k)))] := hl
              refine lv_aload_n hx hb dX8_call_45 rfl (lv_at hl 0 rfl) ?_
              refine va_get (D := D) (ci := 9) (v := .ref (bd 13)) (C := RX8) (T := TX8) (N := 25) hx hb hts i_X8_call_X8 hown hK hP 0 rfl rfl 18 (by decide) (hts (.fieldLink RX8 48 "MemoryMapModel" "stacks" "[J") (List.mem_of_getElem? (i := 3) rfl)) (fun _ h9 => h9) rfl dX8_call_46 ?_
              refine lv_iload_n hx hb dX8_call_49 rfl (lv_at hl 1 rfl) ?_
              refine lv_lload_n hx hb dX8_call_50 rfl (lv_at hl 3 rfl) ?_
              refine r_last hx hb hK hP hD hS 13 2 rfl rfl (i := f) (by omega) (by omega) dX8_call_51 (fun H locs hP hD hS => ?_)
              have hP : va_P D vwCl [((bd 0), .inr (9, [.int (nI 0), .int (nI sz), .ref (bd 1), .ref (bd 2), .ref (bd 3), .int (nI nr), .ref (bd 4), .ref (bd 5), .ref (bd 6), .int (nI ns), .ref (bd 7), .ref (bd 8), .ref (bd 9), .ref (bd 10), .int (nI pd), .int (nI np), .ref (bd 11), .ref (bd 12), .ref (bd 13), .ref (bd 14), .ref (bd 15), .ref (bd 16), .ref (bd 17), .ref (bd 18), .int (nI nb)])), ((bd 1), .inl (t 0, 17, .inl (nF fs))), ((bd 2), .inl (t 0, 17, .inl (nF es))), ((bd 3), .inl (t 0, 17, .inl (nF ri))), ((bd 4), .inl (t 0, 41, .inl (nF ln))), ((bd 5), .inl (t 0, 41, .inl (nF al))), ((bd 6), .inl (t 0, 41, .inl (nF ki))), ((bd 7), .inl (t 1, 65536, .inl tk)), ((bd 8), .inl (t 1, 65536, .inl ce)), ((bd 9), .inl (t 0, 41, .inl pl)), ((bd 10), .inl (t 0, 41, .inl tl)), ((bd 11), .inl (t 0, 2091, .inl kp)), ((bd 12), .inl (t 0, 51, .inl (nF km))), ((bd 13), .inl (t 2, 31, .inr (.inl (lF (va_up st f k))))), ((bd 14), .inl (t 3, 961, .inl ca)), ((bd 15), .inl (t 2, 31, .inr (.inl de))), ((bd 16), .inl (t 0, 21, .inl (nF oc))), ((bd 17), .inl (t 1, 1344, .inl cp)), ((bd 18), .inl (t 0, 42, .inl su))] H := hP
              have hD : va_D A [((bd 0), .inr (9, [.int (nI 0), .int (nI sz), .ref (bd 1), .ref (bd 2), .ref (bd 3), .int (nI nr), .ref (bd 4), .ref (bd 5), .ref (bd 6), .int (nI ns), .ref (bd 7), .ref (bd 8), .ref (bd 9), .ref (bd 10), .int (nI pd), .int (nI np), .ref (bd 11), .ref (bd 12), .ref (bd 13), .ref (bd 14), .ref (bd 15), .ref (bd 16), .ref (bd 17), .ref (bd 18), .int (nI nb)])), ((bd 1), .inl (t 0, 17, .inl (nF fs))), ((bd 2), .inl (t 0, 17, .inl (nF es))), ((bd 3), .inl (t 0, 17, .inl (nF ri))), ((bd 4), .inl (t 0, 41, .inl (nF ln))), ((bd 5), .inl (t 0, 41, .inl (nF al))), ((bd 6), .inl (t 0, 41, .inl (nF ki))), ((bd 7), .inl (t 1, 65536, .inl tk)), ((bd 8), .inl (t 1, 65536, .inl ce)), ((bd 9), .inl (t 0, 41, .inl pl)), ((bd 10), .inl (t 0, 41, .inl tl)), ((bd 11), .inl (t 0, 2091, .inl kp)), ((bd 12), .inl (t 0, 51, .inl (nF km))), ((bd 13), .inl (t 2, 31, .inr (.inl (lF (va_up st f k))))), ((bd 14), .inl (t 3, 961, .inl ca)), ((bd 15), .inl (t 2, 31, .inr (.inl de))), ((bd 16), .inl (t 0, 21, .inl (nF oc))), ((bd 17), .inl (t 1, 1344, .inl cp)), ((bd 18), .inl (t 0, 42, .inl su))] := hD
              refine lv_iload_n hx hb dX8_call_52 rfl (lv_at hl 2 rfl) ?_
              refine r_if_le (x := g) (tgt := 68) hx hb (by omega) dX8_call_53 (by decide) (fun d1 => ?_) (fun d1 => ?_)
              · refine lv_iconst (v := (nI 0)) hx hb dX8_call_68 (by decide) ?_
                refine lv_istore (lv' := [(5, .int (nI 0)), (0, .ref (bd 0)), (1, .int (nI f)), (2, .int (nI g)), (3, .long (lN (k)))]) hx hb dX8_call_69 hl (by decide) rfl (fun ls hl => ?_)
                refine lv_iconst (v := (nI 1)) hx hb dX8_call_71 (by decide) ?_
                refine lv_istore (lv' := [(6, .int (nI 1)), (5, .int (nI 0)), (0, .ref (bd 0)), (1, .int (nI f)), (2, .int (nI g)), (3, .long (lN (k)))]) hx hb dX8_call_72 hl (by decide) rfl (fun ls hl => ?_)
                have hP : va_P D vwCl [((bd 0), .inr (9, [.int (nI 0), .int (nI sz), .ref (bd 1), .ref (bd 2), .ref (bd 3), .int (nI nr), .ref (bd 4), .ref (bd 5), .ref (bd 6), .int (nI ns), .ref (bd 7), .ref (bd 8), .ref (bd 9), .ref (bd 10), .int (nI pd), .int (nI np), .ref (bd 11), .ref (bd 12), .ref (bd 13), .ref (bd 14), .ref (bd 15), .ref (bd 16), .ref (bd 17), .ref (bd 18), .int (nI nb)])), ((bd 1), .inl (t 0, 17, .inl (nF fs))), ((bd 2), .inl (t 0, 17, .inl (nF es))), ((bd 3), .inl (t 0, 17, .inl (nF ri))), ((bd 4), .inl (t 0, 41, .inl (nF ln))), ((bd 5), .inl (t 0, 41, .inl (nF al))), ((bd 6), .inl (t 0, 41, .inl (nF ki))), ((bd 7), .inl (t 1, 65536, .inl tk)), ((bd 8), .inl (t 1, 65536, .inl ce)), ((bd 9), .inl (t 0, 41, .inl pl)), ((bd 10), .inl (t 0, 41, .inl tl)), ((bd 11), .inl (t 0, 2091, .inl kp)), ((bd 12), .inl (t 0, 51, .inl (nF km))), ((bd 13), .inl (t 2, 31, .inr (.inl (lF (va_up st f k))))), ((bd 14), .inl (t 3, 961, .inl ca)), ((bd 15), .inl (t 2, 31, .inr (.inl de))), ((bd 16), .inl (t 0, 21, .inl (nF oc))), ((bd 17), .inl (t 1, 1344, .inl cp)), ((bd 18), .inl (t 0, 42, .inl su))] H := hP
                have hD : va_D A [((bd 0), .inr (9, [.int (nI 0), .int (nI sz), .ref (bd 1), .ref (bd 2), .ref (bd 3), .int (nI nr), .ref (bd 4), .ref (bd 5), .ref (bd 6), .int (nI ns), .ref (bd 7), .ref (bd 8), .ref (bd 9), .ref (bd 10), .int (nI pd), .int (nI np), .ref (bd 11), .ref (bd 12), .ref (bd 13), .ref (bd 14), .ref (bd 15), .ref (bd 16), .ref (bd 17), .ref (bd 18), .int (nI nb)])), ((bd 1), .inl (t 0, 17, .inl (nF fs))), ((bd 2), .inl (t 0, 17, .inl (nF es))), ((bd 3), .inl (t 0, 17, .inl (nF ri))), ((bd 4), .inl (t 0, 41, .inl (nF ln))), ((bd 5), .inl (t 0, 41, .inl (nF al))), ((bd 6), .inl (t 0, 41, .inl (nF ki))), ((bd 7), .inl (t 1, 65536, .inl tk)), ((bd 8), .inl (t 1, 65536, .inl ce)), ((bd 9), .inl (t 0, 41, .inl pl)), ((bd 10), .inl (t 0, 41, .inl tl)), ((bd 11), .inl (t 0, 2091, .inl kp)), ((bd 12), .inl (t 0, 51, .inl (nF km))), ((bd 13), .inl (t 2, 31, .inr (.inl (lF (va_up st f k))))), ((bd 14), .inl (t 3, 961, .inl ca)), ((bd 15), .inl (t 2, 31, .inr (.inl de))), ((bd 16), .inl (t 0, 21, .inl (nF oc))), ((bd 17), .inl (t 1, 1344, .inl cp)), ((bd 18), .inl (t 0, 42, .inl su))] := hD
                refine W_loop (σ := Nat) (fun j => 30 - j) (fun j H locs ls => va_P D vwCl [((bd 0), .inr (9, [.int (nI 0), .int (nI sz), .ref (bd 1), .ref (bd 2), .ref (bd 3), .int (nI nr), .ref (bd 4), .ref (bd 5), .ref (bd 6), .int (nI ns), .ref (bd 7), .ref (bd 8), .ref (bd 9), .ref (bd 10), .int (nI pd), .int (nI np), .ref (bd 11), .ref (bd 12), .ref (bd 13), .ref (bd 14), .ref (bd 15), .ref (bd 16), .ref (bd 17), .ref (bd 18), .int (nI nb)])), ((bd 1), .inl (t 0, 17, .inl (nF fs))), ((bd 2), .inl (t 0, 17, .inl (nF es))), ((bd 3), .inl (t 0, 17, .inl (nF ri))), ((bd 4), .inl (t 0, 41, .inl (nF ln))), ((bd 5), .inl (t 0, 41, .inl (nF al))), ((bd 6), .inl (t 0, 41, .inl (nF ki))), ((bd 7), .inl (t 1, 65536, .inl tk)), ((bd 8), .inl (t 1, 65536, .inl ce)), ((bd 9), .inl (t 0, 41, .inl pl)), ((bd 10), .inl (t 0, 41, .inl tl)), ((bd 11), .inl (t 0, 2091, .inl kp)), ((bd 12), .inl (t 0, 51, .inl (nF km))), ((bd 13), .inl (t 2, 31, .inr (.inl (lF (va_up st f k))))), ((bd 14), .inl (t 3, 961, .inl ca)), ((bd 15), .inl (t 2, 31, .inr (.inl de))), ((bd 16), .inl (t 0, 21, .inl (nF oc))), ((bd 17), .inl (t 1, 1344, .inl cp)), ((bd 18), .inl (t 0, 42, .inl su))] H ∧ va_D A [((bd 0), .inr (9, [.int (nI 0), .int (nI sz), .ref (bd 1), .ref (bd 2), .ref (bd 3), .int (nI nr), .ref (bd 4), .ref (bd 5), .ref (bd 6), .int (nI ns), .ref (bd 7), .ref (bd 8), .ref (bd 9), .ref (bd 10), .int (nI pd), .int (nI np), .ref (bd 11), .ref (bd 12), .ref (bd 13), .ref (bd 14), .ref (bd 15), .ref (bd 16), .ref (bd 17), .ref (bd 18), .int (nI nb)])), ((bd 1), .inl (t 0, 17, .inl (nF fs))), ((bd 2), .inl (t 0, 17, .inl (nF es))), ((bd 3), .inl (t 0, 17, .inl (nF ri))), ((bd 4), .inl (t 0, 41, .inl (nF ln))), ((bd 5), .inl (t 0, 41, .inl (nF al))), ((bd 6), .inl (t 0, 41, .inl (nF ki))), ((bd 7), .inl (t 1, 65536, .inl tk)), ((bd 8), .inl (t 1, 65536, .inl ce)), ((bd 9), .inl (t 0, 41, .inl pl)), ((bd 10), .inl (t 0, 41, .inl tl)), ((bd 11), .inl (t 0, 2091, .inl kp)), ((bd 12), .inl (t 0, 51, .inl (nF km))), ((bd 13), .inl (t 2, 31, .inr (.inl (lF (va_up st f k))))), ((bd 14), .inl (t 3, 961, .inl ca)), ((bd 15), .inl (t 2, 31, .inr (.inl de))), ((bd 16), .inl (t 0, 21, .inl (nF oc))), ((bd 17), .inl (t 1, 1344, .inl cp)), ((bd 18), .inl (t 0, 42, .inl su))] ∧ va_S A s.heap H locs ∧ lv_has ls 7 [(6, .int (nI (j + 1))), (5, .int (nI (cnR (fun m => ca (31 * f + m)) j))), (0, .ref (bd 0)), (1, .int (nI f)), (2, .int (nI g)), (3, .long (lN (k)))] ∧ j ≤ 30) ?_ 0 _ _ _ ⟨hP, hD, hS, hl, by decide⟩
                clear hP hD hS hl
                rintro j H locs ls ⟨hP, hD, hS, hl, hj⟩ ih
                have hm := cnR_le (fun m => ca (31 * f + m)) j
                refine lv_iload hx hb dX8_call_74 (lv_at hl 0 rfl) ?_
                refine lv_bipush (v := (nI 30)) hx hb dX8_call_76 (by decide) ?_
                refine r_icmp_gt (x := (j + 1)) (y := 30) (tgt := 113) hx hb (by omega) (by omega) dX8_call_78 (by decide) (fun e1 => ?_) (fun e1 => ?_)
                · refine lv_iload hx hb dX8_call_113 (lv_at hl 1 rfl) ?_
                  have e : j = 30 := by omega
                  exact ret_Mi hx hb hr hlk ((va_up st f k, ca)) (Or.inr ⟨f, g, q1, q2, rfl, q4, rfl, Or.inr ⟨k, q6, rfl, by rw [if_pos d1], by rw [e]⟩⟩) hP hD hS (Nat.le_of_ble_eq_true rfl) (Nat.le_of_ble_eq_true rfl) dX8_call_115
                · refine lv_aload_n hx hb dX8_call_81 rfl (lv_at hl 2 rfl) ?_
                  refine va_get (D := D) (ci := 9) (v := .ref (bd 14)) (C := RX8) (T := TX8) (N := 25) hx hb hts i_X8_call_X8 hown hK hP 0 rfl rfl 19 (by decide) (hts (.fieldLink RX8 52 "MemoryMapModel" "calls" "[Z") (List.mem_of_getElem? (i := 4) rfl)) (fun _ h9 => h9) rfl dX8_call_82 ?_
                  refine lv_bipush (v := (nI 31)) hx hb dX8_call_85 (by decide) ?_
                  refine lv_iload_n hx hb dX8_call_87 rfl (lv_at hl 3 rfl) ?_
                  refine r_imul (x := 31) (y := f) hx hb dX8_call_88 ?_
                  refine lv_iload hx hb dX8_call_89 (lv_at hl 0 rfl) ?_
                  refine r_iadd (x := (31 * f)) (y := (j + 1)) hx hb dX8_call_91 ?_
                  refine r_zaldI hx hb hK hP 14 3 rfl rfl (i := (31 * f) + (j + 1)) (by omega) (by omega) dX8_call_92 ?_
                  refine lv_if_eq (tgt := 103) hx hb dX8_call_93 (by decide) (fun e2 => ?_) (fun e2 => ?_)
                  · refine lv_iload hx hb dX8_call_103 (lv_at hl 1 rfl) ?_
                    refine lv_istore (lv' := [(5, .int (nI (cnR (fun m => ca (31 * f + m)) j))), (6, .int (nI (j + 1))), (0, .ref (bd 0)), (1, .int (nI f)), (2, .int (nI g)), (3, .long (lN (k)))]) hx hb dX8_call_105 hl (by decide) rfl (fun ls hl => ?_)
                    refine lv_iinc (v := (nI ((j + 1) + 1))) (lv' := [(6, .int (nI ((j + 1) + 1))), (5, .int (nI (cnR (fun m => ca (31 * f + m)) j))), (0, .ref (bd 0)), (1, .int (nI f)), (2, .int (nI g)), (3, .long (lN (k)))]) hx hb dX8_call_107 hl (k := 1) rfl (r_inc1 _) (by decide) rfl (fun ls hl => ?_)
                    refine lv_goto (tgt := 74) hx hb dX8_call_110 (by decide) ?_
                    have e : cnR (fun m => ca (31 * f + m)) (j + 1) = cnR (fun m => ca (31 * f + m)) j := by show _ + (if _ then _ else _) = _; rw [if_pos e2]; rfl
                    exact ih (j + 1) _ _ _ ⟨hP, hD, hS, by rw [e]; exact lv_sub hl [0, 1, 2, 3, 4, 5] rfl, by omega⟩ (by omega)
                  · refine lv_iload hx hb dX8_call_96 (lv_at hl 1 rfl) ?_
                    refine lv_iconst (v := (nI 1)) hx hb dX8_call_98 (by decide) ?_
                    refine r_iadd (x := (cnR (fun m => ca (31 * f + m)) j)) (y := 1) hx hb dX8_call_99 ?_
                    refine lv_goto (tgt := 105) hx hb dX8_call_100 (by decide) ?_
                    refine lv_istore (lv' := [(5, .int (nI ((cnR (fun m => ca (31 * f + m)) j) + 1))), (6, .int (nI (j + 1))), (0, .ref (bd 0)), (1, .int (nI f)), (2, .int (nI g)), (3, .long (lN (k)))]) hx hb dX8_call_105 hl (by decide) rfl (fun ls hl => ?_)
                    refine lv_iinc (v := (nI ((j + 1) + 1))) (lv' := [(6, .int (nI ((j + 1) + 1))), (5, .int (nI ((cnR (fun m => ca (31 * f + m)) j) + 1))), (0, .ref (bd 0)), (1, .int (nI f)), (2, .int (nI g)), (3, .long (lN (k)))]) hx hb dX8_call_107 hl (k := 1) rfl (r_inc1 _) (by decide) rfl (fun ls hl => ?_)
                    refine lv_goto (tgt := 74) hx hb dX8_call_110 (by decide) ?_
                    have e : cnR (fun m => ca (31 * f + m)) (j + 1) = cnR (fun m => ca (31 * f + m)) j + 1 := by show _ + (if _ then _ else _) = _; rw [if_neg e2]
                    exact ih (j + 1) _ _ _ ⟨hP, hD, hS, by rw [e]; exact lv_sub hl [0, 1, 2, 3, 4, 5] rfl, by omega⟩ (by omega)
              · refine lv_aload_n hx hb dX8_call_56 rfl (lv_at hl 0 rfl) ?_
                refine va_get (D := D) (ci := 9) (v := .ref (bd 14)) (C := RX8) (T := TX8) (N := 25) hx hb hts i_X8_call_X8 hown hK hP 0 rfl rfl 19 (by decide) (hts (.fieldLink RX8 52 "MemoryMapModel" "calls" "[Z") (List.mem_of_getElem? (i := 4) rfl)) (fun _ h9 => h9) rfl dX8_call_57 ?_
                refine lv_bipush (v := (nI 31)) hx hb dX8_call_60 (by decide) ?_
                refine lv_iload_n hx hb dX8_call_62 rfl (lv_at hl 1 rfl) ?_
                refine r_imul (x := 31) (y := f) hx hb dX8_call_63 ?_
                refine lv_iload_n hx hb dX8_call_64 rfl (lv_at hl 2 rfl) ?_
                refine r_iadd (x := (31 * f)) (y := g) hx hb dX8_call_65 ?_
                refine lv_iconst (v := (nI 1)) hx hb dX8_call_66 (by decide) ?_
                refine r_zastI hx hb hK hP hD hS 14 3 rfl rfl (i := (31 * f) + g) (by omega) (by omega) dX8_call_67 (fun H locs hP hD hS => ?_)
                have hP : va_P D vwCl [((bd 0), .inr (9, [.int (nI 0), .int (nI sz), .ref (bd 1), .ref (bd 2), .ref (bd 3), .int (nI nr), .ref (bd 4), .ref (bd 5), .ref (bd 6), .int (nI ns), .ref (bd 7), .ref (bd 8), .ref (bd 9), .ref (bd 10), .int (nI pd), .int (nI np), .ref (bd 11), .ref (bd 12), .ref (bd 13), .ref (bd 14), .ref (bd 15), .ref (bd 16), .ref (bd 17), .ref (bd 18), .int (nI nb)])), ((bd 1), .inl (t 0, 17, .inl (nF fs))), ((bd 2), .inl (t 0, 17, .inl (nF es))), ((bd 3), .inl (t 0, 17, .inl (nF ri))), ((bd 4), .inl (t 0, 41, .inl (nF ln))), ((bd 5), .inl (t 0, 41, .inl (nF al))), ((bd 6), .inl (t 0, 41, .inl (nF ki))), ((bd 7), .inl (t 1, 65536, .inl tk)), ((bd 8), .inl (t 1, 65536, .inl ce)), ((bd 9), .inl (t 0, 41, .inl pl)), ((bd 10), .inl (t 0, 41, .inl tl)), ((bd 11), .inl (t 0, 2091, .inl kp)), ((bd 12), .inl (t 0, 51, .inl (nF km))), ((bd 13), .inl (t 2, 31, .inr (.inl (lF (va_up st f k))))), ((bd 14), .inl (t 3, 961, .inl (upd ca ((31 * f) + g) (vp_nar .boolean ((nI 1)))))), ((bd 15), .inl (t 2, 31, .inr (.inl de))), ((bd 16), .inl (t 0, 21, .inl (nF oc))), ((bd 17), .inl (t 1, 1344, .inl cp)), ((bd 18), .inl (t 0, 42, .inl su))] H := hP
                have hD : va_D A [((bd 0), .inr (9, [.int (nI 0), .int (nI sz), .ref (bd 1), .ref (bd 2), .ref (bd 3), .int (nI nr), .ref (bd 4), .ref (bd 5), .ref (bd 6), .int (nI ns), .ref (bd 7), .ref (bd 8), .ref (bd 9), .ref (bd 10), .int (nI pd), .int (nI np), .ref (bd 11), .ref (bd 12), .ref (bd 13), .ref (bd 14), .ref (bd 15), .ref (bd 16), .ref (bd 17), .ref (bd 18), .int (nI nb)])), ((bd 1), .inl (t 0, 17, .inl (nF fs))), ((bd 2), .inl (t 0, 17, .inl (nF es))), ((bd 3), .inl (t 0, 17, .inl (nF ri))), ((bd 4), .inl (t 0, 41, .inl (nF ln))), ((bd 5), .inl (t 0, 41, .inl (nF al))), ((bd 6), .inl (t 0, 41, .inl (nF ki))), ((bd 7), .inl (t 1, 65536, .inl tk)), ((bd 8), .inl (t 1, 65536, .inl ce)), ((bd 9), .inl (t 0, 41, .inl pl)), ((bd 10), .inl (t 0, 41, .inl tl)), ((bd 11), .inl (t 0, 2091, .inl kp)), ((bd 12), .inl (t 0, 51, .inl (nF km))), ((bd 13), .inl (t 2, 31, .inr (.inl (lF (va_up st f k))))), ((bd 14), .inl (t 3, 961, .inl (upd ca ((31 * f) + g) (vp_nar .boolean ((nI 1)))))), ((bd 15), .inl (t 2, 31, .inr (.inl de))), ((bd 16), .inl (t 0, 21, .inl (nF oc))), ((bd 17), .inl (t 1, 1344, .inl cp)), ((bd 18), .inl (t 0, 42, .inl su))] := hD
                rw [nar_z1] at hP hD
                refine lv_iconst (v := (nI 0)) hx hb dX8_call_68 (by decide) ?_
                refine lv_istore (lv' := [(5, .int (nI 0)), (0, .ref (bd 0)), (1, .int (nI f)), (2, .int (nI g)), (3, .long (lN (k)))]) hx hb dX8_call_69 hl (by decide) rfl (fun ls hl => ?_)
                refine lv_iconst (v := (nI 1)) hx hb dX8_call_71 (by decide) ?_
                refine lv_istore (lv' := [(6, .int (nI 1)), (5, .int (nI 0)), (0, .ref (bd 0)), (1, .int (nI f)), (2, .int (nI g)), (3, .long (lN (k)))]) hx hb dX8_call_72 hl (by decide) rfl (fun ls hl => ?_)
                have hP : va_P D vwCl [((bd 0), .inr (9, [.int (nI 0), .int (nI sz), .ref (bd 1), .ref (bd 2), .ref (bd 3), .int (nI nr), .ref (bd 4), .ref (bd 5), .ref (bd 6), .int (nI ns), .ref (bd 7), .ref (bd 8), .ref (bd 9), .ref (bd 10), .int (nI pd), .int (nI np), .ref (bd 11), .ref (bd 12), .ref (bd 13), .ref (bd 14), .ref (bd 15), .ref (bd 16), .ref (bd 17), .ref (bd 18), .int (nI nb)])), ((bd 1), .inl (t 0, 17, .inl (nF fs))), ((bd 2), .inl (t 0, 17, .inl (nF es))), ((bd 3), .inl (t 0, 17, .inl (nF ri))), ((bd 4), .inl (t 0, 41, .inl (nF ln))), ((bd 5), .inl (t 0, 41, .inl (nF al))), ((bd 6), .inl (t 0, 41, .inl (nF ki))), ((bd 7), .inl (t 1, 65536, .inl tk)), ((bd 8), .inl (t 1, 65536, .inl ce)), ((bd 9), .inl (t 0, 41, .inl pl)), ((bd 10), .inl (t 0, 41, .inl tl)), ((bd 11), .inl (t 0, 2091, .inl kp)), ((bd 12), .inl (t 0, 51, .inl (nF km))), ((bd 13), .inl (t 2, 31, .inr (.inl (lF (va_up st f k))))), ((bd 14), .inl (t 3, 961, .inl (upd ca (31 * f + g) (nI 1)))), ((bd 15), .inl (t 2, 31, .inr (.inl de))), ((bd 16), .inl (t 0, 21, .inl (nF oc))), ((bd 17), .inl (t 1, 1344, .inl cp)), ((bd 18), .inl (t 0, 42, .inl su))] H := hP
                have hD : va_D A [((bd 0), .inr (9, [.int (nI 0), .int (nI sz), .ref (bd 1), .ref (bd 2), .ref (bd 3), .int (nI nr), .ref (bd 4), .ref (bd 5), .ref (bd 6), .int (nI ns), .ref (bd 7), .ref (bd 8), .ref (bd 9), .ref (bd 10), .int (nI pd), .int (nI np), .ref (bd 11), .ref (bd 12), .ref (bd 13), .ref (bd 14), .ref (bd 15), .ref (bd 16), .ref (bd 17), .ref (bd 18), .int (nI nb)])), ((bd 1), .inl (t 0, 17, .inl (nF fs))), ((bd 2), .inl (t 0, 17, .inl (nF es))), ((bd 3), .inl (t 0, 17, .inl (nF ri))), ((bd 4), .inl (t 0, 41, .inl (nF ln))), ((bd 5), .inl (t 0, 41, .inl (nF al))), ((bd 6), .inl (t 0, 41, .inl (nF ki))), ((bd 7), .inl (t 1, 65536, .inl tk)), ((bd 8), .inl (t 1, 65536, .inl ce)), ((bd 9), .inl (t 0, 41, .inl pl)), ((bd 10), .inl (t 0, 41, .inl tl)), ((bd 11), .inl (t 0, 2091, .inl kp)), ((bd 12), .inl (t 0, 51, .inl (nF km))), ((bd 13), .inl (t 2, 31, .inr (.inl (lF (va_up st f k))))), ((bd 14), .inl (t 3, 961, .inl (upd ca (31 * f + g) (nI 1)))), ((bd 15), .inl (t 2, 31, .inr (.inl de))), ((bd 16), .inl (t 0, 21, .inl (nF oc))), ((bd 17), .inl (t 1, 1344, .inl cp)), ((bd 18), .inl (t 0, 42, .inl su))] := hD
                refine W_loop (σ := Nat) (fun j => 30 - j) (fun j H locs ls => va_P D vwCl [((bd 0), .inr (9, [.int (nI 0), .int (nI sz), .ref (bd 1), .ref (bd 2), .ref (bd 3), .int (nI nr), .ref (bd 4), .ref (bd 5), .ref (bd 6), .int (nI ns), .ref (bd 7), .ref (bd 8), .ref (bd 9), .ref (bd 10), .int (nI pd), .int (nI np), .ref (bd 11), .ref (bd 12), .ref (bd 13), .ref (bd 14), .ref (bd 15), .ref (bd 16), .ref (bd 17), .ref (bd 18), .int (nI nb)])), ((bd 1), .inl (t 0, 17, .inl (nF fs))), ((bd 2), .inl (t 0, 17, .inl (nF es))), ((bd 3), .inl (t 0, 17, .inl (nF ri))), ((bd 4), .inl (t 0, 41, .inl (nF ln))), ((bd 5), .inl (t 0, 41, .inl (nF al))), ((bd 6), .inl (t 0, 41, .inl (nF ki))), ((bd 7), .inl (t 1, 65536, .inl tk)), ((bd 8), .inl (t 1, 65536, .inl ce)), ((bd 9), .inl (t 0, 41, .inl pl)), ((bd 10), .inl (t 0, 41, .inl tl)), ((bd 11), .inl (t 0, 2091, .inl kp)), ((bd 12), .inl (t 0, 51, .inl (nF km))), ((bd 13), .inl (t 2, 31, .inr (.inl (lF (va_up st f k))))), ((bd 14), .inl (t 3, 961, .inl (upd ca (31 * f + g) (nI 1)))), ((bd 15), .inl (t 2, 31, .inr (.inl de))), ((bd 16), .inl (t 0, 21, .inl (nF oc))), ((bd 17), .inl (t 1, 1344, .inl cp)), ((bd 18), .inl (t 0, 42, .inl su))] H ∧ va_D A [((bd 0), .inr (9, [.int (nI 0), .int (nI sz), .ref (bd 1), .ref (bd 2), .ref (bd 3), .int (nI nr), .ref (bd 4), .ref (bd 5), .ref (bd 6), .int (nI ns), .ref (bd 7), .ref (bd 8), .ref (bd 9), .ref (bd 10), .int (nI pd), .int (nI np), .ref (bd 11), .ref (bd 12), .ref (bd 13), .ref (bd 14), .ref (bd 15), .ref (bd 16), .ref (bd 17), .ref (bd 18), .int (nI nb)])), ((bd 1), .inl (t 0, 17, .inl (nF fs))), ((bd 2), .inl (t 0, 17, .inl (nF es))), ((bd 3), .inl (t 0, 17, .inl (nF ri))), ((bd 4), .inl (t 0, 41, .inl (nF ln))), ((bd 5), .inl (t 0, 41, .inl (nF al))), ((bd 6), .inl (t 0, 41, .inl (nF ki))), ((bd 7), .inl (t 1, 65536, .inl tk)), ((bd 8), .inl (t 1, 65536, .inl ce)), ((bd 9), .inl (t 0, 41, .inl pl)), ((bd 10), .inl (t 0, 41, .inl tl)), ((bd 11), .inl (t 0, 2091, .inl kp)), ((bd 12), .inl (t 0, 51, .inl (nF km))), ((bd 13), .inl (t 2, 31, .inr (.inl (lF (va_up st f k))))), ((bd 14), .inl (t 3, 961, .inl (upd ca (31 * f + g) (nI 1)))), ((bd 15), .inl (t 2, 31, .inr (.inl de))), ((bd 16), .inl (t 0, 21, .inl (nF oc))), ((bd 17), .inl (t 1, 1344, .inl cp)), ((bd 18), .inl (t 0, 42, .inl su))] ∧ va_S A s.heap H locs ∧ lv_has ls 7 [(6, .int (nI (j + 1))), (5, .int (nI (cnR (fun m => (upd ca (31 * f + g) (nI 1)) (31 * f + m)) j))), (0, .ref (bd 0)), (1, .int (nI f)), (2, .int (nI g)), (3, .long (lN (k)))] ∧ j ≤ 30) ?_ 0 _ _ _ ⟨hP, hD, hS, hl, by decide⟩
                clear hP hD hS hl
                rintro j H locs ls ⟨hP, hD, hS, hl, hj⟩ ih
                have hm := cnR_le (fun m => (upd ca (31 * f + g) (nI 1)) (31 * f + m)) j
                refine lv_iload hx hb dX8_call_74 (lv_at hl 0 rfl) ?_
                refine lv_bipush (v := (nI 30)) hx hb dX8_call_76 (by decide) ?_
                refine r_icmp_gt (x := (j + 1)) (y := 30) (tgt := 113) hx hb (by omega) (by omega) dX8_call_78 (by decide) (fun e1 => ?_) (fun e1 => ?_)
                · refine lv_iload hx hb dX8_call_113 (lv_at hl 1 rfl) ?_
                  have e : j = 30 := by omega
                  exact ret_Mi hx hb hr hlk ((va_up st f k, upd ca (31 * f + g) (nI 1))) (Or.inr ⟨f, g, q1, q2, rfl, q4, rfl, Or.inr ⟨k, q6, rfl, by rw [if_neg (by omega)], by rw [e]⟩⟩) hP hD hS (Nat.le_of_ble_eq_true rfl) (Nat.le_of_ble_eq_true rfl) dX8_call_115
                · refine lv_aload_n hx hb dX8_call_81 rfl (lv_at hl 2 rfl) ?_
                  refine va_get (D := D) (ci := 9) (v := .ref (bd 14)) (C := RX8) (T := TX8) (N := 25) hx hb hts i_X8_call_X8 hown hK hP 0 rfl rfl 19 (by decide) (hts (.fieldLink RX8 52 "MemoryMapModel" "calls" "[Z") (List.mem_of_getElem? (i := 4) rfl)) (fun _ h9 => h9) rfl dX8_call_82 ?_
                  refine lv_bipush (v := (nI 31)) hx hb dX8_call_85 (by decide) ?_
                  refine lv_iload_n hx hb dX8_call_87 rfl (lv_at hl 3 rfl) ?_
                  refine r_imul (x := 31) (y := f) hx hb dX8_call_88 ?_
                  refine lv_iload hx hb dX8_call_89 (lv_at hl 0 rfl) ?_
                  refine r_iadd (x := (31 * f)) (y := (j + 1)) hx hb dX8_call_91 ?_
                  refine r_zaldI hx hb hK hP 14 3 rfl rfl (i := (31 * f) + (j + 1)) (by omega) (by omega) dX8_call_92 ?_
                  refine lv_if_eq (tgt := 103) hx hb dX8_call_93 (by decide) (fun e2 => ?_) (fun e2 => ?_)
                  · refine lv_iload hx hb dX8_call_103 (lv_at hl 1 rfl) ?_
                    refine lv_istore (lv' := [(5, .int (nI (cnR (fun m => (upd ca (31 * f + g) (nI 1)) (31 * f + m)) j))), (6, .int (nI (j + 1))), (0, .ref (bd 0)), (1, .int (nI f)), (2, .int (nI g)), (3, .long (lN (k)))]) hx hb dX8_call_105 hl (by decide) rfl (fun ls hl => ?_)
                    refine lv_iinc (v := (nI ((j + 1) + 1))) (lv' := [(6, .int (nI ((j + 1) + 1))), (5, .int (nI (cnR (fun m => (upd ca (31 * f + g) (nI 1)) (31 * f + m)) j))), (0, .ref (bd 0)), (1, .int (nI f)), (2, .int (nI g)), (3, .long (lN (k)))]) hx hb dX8_call_107 hl (k := 1) rfl (r_inc1 _) (by decide) rfl (fun ls hl => ?_)
                    refine lv_goto (tgt := 74) hx hb dX8_call_110 (by decide) ?_
                    have e : cnR (fun m => (upd ca (31 * f + g) (nI 1)) (31 * f + m)) (j + 1) = cnR (fun m => (upd ca (31 * f + g) (nI 1)) (31 * f + m)) j := by show _ + (if _ then _ else _) = _; rw [if_pos e2]; rfl
                    exact ih (j + 1) _ _ _ ⟨hP, hD, hS, by rw [e]; exact lv_sub hl [0, 1, 2, 3, 4, 5] rfl, by omega⟩ (by omega)
                  · refine lv_iload hx hb dX8_call_96 (lv_at hl 1 rfl) ?_
                    refine lv_iconst (v := (nI 1)) hx hb dX8_call_98 (by decide) ?_
                    refine r_iadd (x := (cnR (fun m => (upd ca (31 * f + g) (nI 1)) (31 * f + m)) j)) (y := 1) hx hb dX8_call_99 ?_
                    refine lv_goto (tgt := 105) hx hb dX8_call_100 (by decide) ?_
                    refine lv_istore (lv' := [(5, .int (nI ((cnR (fun m => (upd ca (31 * f + g) (nI 1)) (31 * f + m)) j) + 1))), (6, .int (nI (j + 1))), (0, .ref (bd 0)), (1, .int (nI f)), (2, .int (nI g)), (3, .long (lN (k)))]) hx hb dX8_call_105 hl (by decide) rfl (fun ls hl => ?_)
                    refine lv_iinc (v := (nI ((j + 1) + 1))) (lv' := [(6, .int (nI ((j + 1) + 1))), (5, .int (nI ((cnR (fun m => (upd ca (31 * f + g) (nI 1)) (31 * f + m)) j) + 1))), (0, .ref (bd 0)), (1, .int (nI f)), (2, .int (nI g)), (3, .long (lN (k)))]) hx hb dX8_call_107 hl (k := 1) rfl (r_inc1 _) (by decide) rfl (fun ls hl => ?_)
                    refine lv_goto (tgt := 74) hx hb dX8_call_110 (by decide) ?_
                    have e : cnR (fun m => (upd ca (31 * f + g) (nI 1)) (31 * f + m)) (j + 1) = cnR (fun m => (upd ca (31 * f + g) (nI 1)) (31 * f + m)) j + 1 := by show _ + (if _ then _ else _) = _; rw [if_neg e2]
                    exact ih (j + 1) _ _ _ ⟨hP, hD, hS, by rw [e]; exact lv_sub hl [0, 1, 2, 3, 4, 5] rfl, by omega⟩ (by omega)
            · have c6 := Int64.not_le.mp c6
              refine lv_bipush (v := ((-2))) hx hb dX8_call_42 (by decide) ?_
              exact ret_Mi hx hb hr hlk ((st, ca)) (Or.inr ⟨f, g, q1, q2, rfl, q4, rfl, Or.inl ⟨fun k hk => rngL' (lo := 0) (hi := 1000000) (by omega) (by omega) (Or.inr c6) k (Nat.zero_le _) hk, rfl, rfl⟩⟩) hP hD hS (Nat.le_of_ble_eq_true rfl) (Nat.le_of_ble_eq_true rfl) dX8_call_44
        · refine lv_iconst (v := ((-1))) hx hb dX8_call_26 (by decide) ?_
          exact ret_Mi hx hb hr hlk ((st, ca)) (Or.inl ⟨Or.inr (rng0' (by omega) (Or.inr c4)), rfl, rfl⟩) hP hD hS (Nat.le_of_ble_eq_true rfl) (Nat.le_of_ble_eq_true rfl) dX8_call_27

theorem i_X8_reckon_X8 : ∀ w ∈ wsX80, w ∈ wsX8_reckon := by decide +kernel
abbrev rm_X8_reckon : Room := { frames := 0, cells := 0, slots := 0, locals := 0 }
set_option maxHeartbeats 1000000 in
set_option maxRecDepth 100000 in
theorem c_X8_reckon (l : Launch) (D : va_G) (t : Nat → ClassId) (bd : Nat → Nat) (th sz nr ns pd np nb : Nat) (fs es ri ln al ki km st oc : Nat → Nat) (tk ce pl tl kp ca cp su : Nat → Int32) (de : Nat → Int64) (S : Nat) (d cm : Nat → Nat) (f : Nat) (hde : DeI de S d) (hca : CaI ca cm) (hd : ∀ g, d g ≤ 900000000) (hst : ∀ k, st k ≤ 1000000) (hf1 : 1 ≤ f) (hf2 : f ≤ 30) : Ql l yX8_reckon wsX8_reckon rm_X8_reckon D (TY t) [.ref (bd 0), .int (nI f)] [((bd 0), .inr (9, [.int (nI th), .int (nI sz), .ref (bd 1), .ref (bd 2), .ref (bd 3), .int (nI nr), .ref (bd 4), .ref (bd 5), .ref (bd 6), .int (nI ns), .ref (bd 7), .ref (bd 8), .ref (bd 9), .ref (bd 10), .int (nI pd), .int (nI np), .ref (bd 11), .ref (bd 12), .ref (bd 13), .ref (bd 14), .ref (bd 15), .ref (bd 16), .ref (bd 17), .ref (bd 18), .int (nI nb)])), ((bd 1), .inl (t 0, 17, .inl (nF fs))), ((bd 2), .inl (t 0, 17, .inl (nF es))), ((bd 3), .inl (t 0, 17, .inl (nF ri))), ((bd 4), .inl (t 0, 41, .inl (nF ln))), ((bd 5), .inl (t 0, 41, .inl (nF al))), ((bd 6), .inl (t 0, 41, .inl (nF ki))), ((bd 7), .inl (t 1, 65536, .inl tk)), ((bd 8), .inl (t 1, 65536, .inl ce)), ((bd 9), .inl (t 0, 41, .inl pl)), ((bd 10), .inl (t 0, 41, .inl tl)), ((bd 11), .inl (t 0, 2091, .inl kp)), ((bd 12), .inl (t 0, 51, .inl (nF km))), ((bd 13), .inl (t 2, 31, .inr (.inl (lF st)))), ((bd 14), .inl (t 3, 961, .inl ca)), ((bd 15), .inl (t 2, 31, .inr (.inl de))), ((bd 16), .inl (t 0, 21, .inl (nF oc))), ((bd 17), .inl (t 1, 1344, .inl cp)), ((bd 18), .inl (t 0, 42, .inl su))] (fun z => ((∀ g, 1 ≤ g → g ≤ 30 → (cm f).testBit g = true → S.testBit g = true) ∧ z = lN (mxD (cm f) d 30 + st f)) ∨ ((∃ g, 1 ≤ g ∧ g ≤ 30 ∧ (cm f).testBit g = true ∧ S.testBit g = false) ∧ z = (-1))) := by
  refine start_Ql cX8_reckon 5 (some .long) (by decide) rfl (Nat.le_of_ble_eq_true rfl) ?_
  intro p e s m below meth c ls B hP hD hl
  obtain ⟨hx, hb, hr, hts, hown, hlk, hml, hN, hK⟩ := B
  have hl : lv_has ls 5 [(0, .ref (bd 0)), (1, .int (nI f))] := hl
  refine lv_lconst (v := (lN (0))) hx hb dX8_reckon_0 (by decide) ?_
  refine lv_lstore_n (lv' := [(2, .long (lN (0))), (0, .ref (bd 0)), (1, .int (nI f))]) hx hb dX8_reckon_1 rfl hl (by decide) rfl (fun ls hl => ?_)
  refine lv_iconst (v := (nI 1)) hx hb dX8_reckon_2 (by decide) ?_
  refine lv_istore (lv' := [(4, .int (nI 1)), (2, .long (lN (0))), (0, .ref (bd 0)), (1, .int (nI f))]) hx hb dX8_reckon_3 hl (by decide) rfl (fun ls hl => ?_)
  refine W_loop (σ := Nat) (fun j => 30 - j) (fun j H locs ls => H = s.heap ∧ locs = [] ∧ j ≤ 30 ∧ (∀ g, 1 ≤ g → g ≤ j → (cm f).testBit g = true → S.testBit g = true) ∧ lv_has ls 5 [(4, .int (nI (j + 1))), (2, .long (lN (mxD (cm f) d j))), (0, .ref (bd 0)), (1, .int (nI f))]) ?_ 0 _ _ _ ⟨rfl, rfl, by decide, fun g h1 h2 => absurd h1 (by omega), hl⟩
  clear hl
  rintro j _ _ ls ⟨rfl, rfl, hj, hall, hl⟩ ih
  have hm := mx_le (k := cm f) hd j
  refine lv_iload hx hb dX8_reckon_5 (lv_at hl 0 rfl) ?_
  refine lv_bipush (v := (nI 30)) hx hb dX8_reckon_7 (by decide) ?_
  refine r_icmp_gt (x := (j + 1)) (y := 30) (tgt := 73) hx hb (by omega) (by omega) dX8_reckon_9 (by decide) (fun c1 => ?_) (fun c1 => ?_)
  · have e : j = 30 := by omega
    subst e
    refine lv_lload_n hx hb dX8_reckon_73 rfl (lv_at hl 1 rfl) ?_
    refine lv_aload_n hx hb dX8_reckon_74 rfl (lv_at hl 2 rfl) ?_
    refine va_get (D := D) (ci := 9) (v := .ref (bd 13)) (C := RX8) (T := TX8) (N := 25) hx hb hts i_X8_reckon_X8 hown hK hP 0 rfl rfl 18 (by decide) (hts (.fieldLink RX8 48 "MemoryMapModel" "stacks" "[J") (List.mem_of_getElem? (i := 4) rfl)) (fun _ h9 => h9) rfl dX8_reckon_75 ?_
    refine lv_iload_n hx hb dX8_reckon_78 rfl (lv_at hl 3 rfl) ?_
    refine r_lald hx hb hK hP 13 2 rfl rfl (i := f) (by omega) (by omega) dX8_reckon_79 ?_
    have hb_0 := hst f
    refine lv_ladd hx hb dX8_reckon_80 ?_
    refine r_topl (lN_add _ _) ?_
    exact ret_Ql hx hb hr hlk (Or.inl ⟨hall, rfl⟩) dX8_reckon_81
  · refine lv_aload_n hx hb dX8_reckon_12 rfl (lv_at hl 2 rfl) ?_
    refine va_get (D := D) (ci := 9) (v := .ref (bd 14)) (C := RX8) (T := TX8) (N := 25) hx hb hts i_X8_reckon_X8 hown hK hP 0 rfl rfl 19 (by decide) (hts (.fieldLink RX8 52 "MemoryMapModel" "calls" "[Z") (List.mem_of_getElem? (i := 1) rfl)) (fun _ h9 => h9) rfl dX8_reckon_13 ?_
    refine lv_bipush (v := (nI 31)) hx hb dX8_reckon_16 (by decide) ?_
    refine lv_iload_n hx hb dX8_reckon_18 rfl (lv_at hl 3 rfl) ?_
    refine r_imul (x := 31) (y := f) hx hb dX8_reckon_19 ?_
    refine lv_iload hx hb dX8_reckon_20 (lv_at hl 0 rfl) ?_
    refine r_iadd (x := (31 * f)) (y := (j + 1)) hx hb dX8_reckon_22 ?_
    refine r_zaldI hx hb hK hP 14 3 rfl rfl (i := (31 * f) + (j + 1)) (by omega) (by omega) dX8_reckon_23 ?_
    refine lv_if_eq (tgt := 67) hx hb dX8_reckon_24 (by decide) (fun c2 => ?_) (fun c2 => ?_)
    · have hb9 := (hca f (j + 1) hf1 hf2 (by omega) (by omega)).mp c2
      have hhit : (cm f).testBit (j + 1) = true → S.testBit (j + 1) = true := fun q => by rw [hb9] at q; exact absurd q (by decide)
      refine lv_iinc (v := (nI ((j + 1) + 1))) (lv' := [(4, .int (nI ((j + 1) + 1))), (2, .long (lN (mxD (cm f) d j))), (0, .ref (bd 0)), (1, .int (nI f))]) hx hb dX8_reckon_67 hl (k := 0) rfl (r_inc1 _) (by decide) rfl (fun ls hl => ?_)
      refine lv_goto (tgt := 5) hx hb dX8_reckon_70 (by decide) ?_
      have e : mxD (cm f) d (j + 1) = mxD (cm f) d j := by show (if _ then _ else _) = _; rw [if_neg (by rw [hb9]; decide)]
      refine ih (j + 1) _ _ _ ⟨rfl, rfl, by omega, fun m h1 h2 h3 => ?_, by rw [e]; exact lv_sub hl [0, 1, 2, 3] rfl⟩ (by omega)
      rcases Nat.lt_or_ge m (j + 1) with q | q
      · exact hall m h1 (by omega) h3
      · have e9 : m = j + 1 := by omega
        rw [e9] at h3 ⊢
        exact hhit h3
    · have hb9 : (cm f).testBit (j + 1) = true := by cases q : (cm f).testBit (j + 1) with | true => rfl | false => exact absurd ((hca f (j + 1) hf1 hf2 (by omega) (by omega)).mpr q) c2
      have hdj := hde (j + 1) (by omega) (by omega)
      have hdb := hd (j + 1)
      refine lv_aload_n hx hb dX8_reckon_27 rfl (lv_at hl 2 rfl) ?_
      refine va_get (D := D) (ci := 9) (v := .ref (bd 15)) (C := RX8) (T := TX8) (N := 25) hx hb hts i_X8_reckon_X8 hown hK hP 0 rfl rfl 20 (by decide) (hts (.fieldLink RX8 56 "MemoryMapModel" "depths" "[J") (List.mem_of_getElem? (i := 2) rfl)) (fun _ h9 => h9) rfl dX8_reckon_28 ?_
      refine lv_iload hx hb dX8_reckon_31 (lv_at hl 0 rfl) ?_
      refine r_laldI hx hb hK hP 15 2 rfl rfl (i := j + 1) (by omega) (by omega) dX8_reckon_33 ?_
      rcases Bool.eq_false_or_eq_true (S.testBit (j + 1)) with hS9 | hS9
      · rw [hS9, if_pos rfl] at hdj
        have hhit : (cm f).testBit (j + 1) = true → S.testBit (j + 1) = true := fun _ => hS9
        refine r_topl (hdj) ?_
        refine lv_lconst (v := (lN (0))) hx hb dX8_reckon_34 (by decide) ?_
        refine r_ln_ge (x := (d (j + 1))) (y := 0) (tgt := 43) hx hb (by omega) (by omega) dX8_reckon_35 dX8_reckon_36 (by decide) (fun c3 => ?_) (fun c3 => ?_)
        · refine lv_aload_n hx hb dX8_reckon_43 rfl (lv_at hl 2 rfl) ?_
          refine va_get (D := D) (ci := 9) (v := .ref (bd 15)) (C := RX8) (T := TX8) (N := 25) hx hb hts i_X8_reckon_X8 hown hK hP 0 rfl rfl 20 (by decide) (hts (.fieldLink RX8 56 "MemoryMapModel" "depths" "[J") (List.mem_of_getElem? (i := 2) rfl)) (fun _ h9 => h9) rfl dX8_reckon_44 ?_
          refine lv_iload hx hb dX8_reckon_47 (lv_at hl 0 rfl) ?_
          refine r_laldI hx hb hK hP 15 2 rfl rfl (i := j + 1) (by omega) (by omega) dX8_reckon_49 ?_
          refine r_topl (hdj) ?_
          refine lv_lload_n hx hb dX8_reckon_50 rfl (lv_at hl 1 rfl) ?_
          refine r_ln_le (x := (d (j + 1))) (y := (mxD (cm f) d j)) (tgt := 65) hx hb (by omega) (by omega) dX8_reckon_51 dX8_reckon_52 (by decide) (fun c4 => ?_) (fun c4 => ?_)
          · refine lv_lload_n hx hb dX8_reckon_65 rfl (lv_at hl 1 rfl) ?_
            refine lv_lstore_n (lv' := [(2, .long (lN (mxD (cm f) d j))), (4, .int (nI (j + 1))), (0, .ref (bd 0)), (1, .int (nI f))]) hx hb dX8_reckon_66 rfl hl (by decide) rfl (fun ls hl => ?_)
            refine lv_iinc (v := (nI ((j + 1) + 1))) (lv' := [(4, .int (nI ((j + 1) + 1))), (2, .long (lN (mxD (cm f) d j))), (0, .ref (bd 0)), (1, .int (nI f))]) hx hb dX8_reckon_67 hl (k := 1) rfl (r_inc1 _) (by decide) rfl (fun ls hl => ?_)
            refine lv_goto (tgt := 5) hx hb dX8_reckon_70 (by decide) ?_
            have e : mxD (cm f) d (j + 1) = mxD (cm f) d j := by show (if _ then _ else _) = _; rw [if_pos hb9, Nat.max_eq_left (by omega)]
            refine ih (j + 1) _ _ _ ⟨rfl, rfl, by omega, fun m h1 h2 h3 => ?_, by rw [e]; exact lv_sub hl [0, 1, 2, 3] rfl⟩ (by omega)
            rcases Nat.lt_or_ge m (j + 1) with q | q
            · exact hall m h1 (by omega) h3
            · have e9 : m = j + 1 := by omega
              rw [e9] at h3 ⊢
              exact hhit h3
          · refine lv_aload_n hx hb dX8_reckon_55 rfl (lv_at hl 2 rfl) ?_
            refine va_get (D := D) (ci := 9) (v := .ref (bd 15)) (C := RX8) (T := TX8) (N := 25) hx hb hts i_X8_reckon_X8 hown hK hP 0 rfl rfl 20 (by decide) (hts (.fieldLink RX8 56 "MemoryMapModel" "depths" "[J") (List.mem_of_getElem? (i := 2) rfl)) (fun _ h9 => h9) rfl dX8_reckon_56 ?_
            refine lv_iload hx hb dX8_reckon_59 (lv_at hl 0 rfl) ?_
            refine r_laldI hx hb hK hP 15 2 rfl rfl (i := j + 1) (by omega) (by omega) dX8_reckon_61 ?_
            refine r_topl (hdj) ?_
            refine lv_goto (tgt := 66) hx hb dX8_reckon_62 (by decide) ?_
            refine lv_lstore_n (lv' := [(2, .long (lN (d (j + 1)))), (4, .int (nI (j + 1))), (0, .ref (bd 0)), (1, .int (nI f))]) hx hb dX8_reckon_66 rfl hl (by decide) rfl (fun ls hl => ?_)
            refine lv_iinc (v := (nI ((j + 1) + 1))) (lv' := [(4, .int (nI ((j + 1) + 1))), (2, .long (lN (d (j + 1)))), (0, .ref (bd 0)), (1, .int (nI f))]) hx hb dX8_reckon_67 hl (k := 1) rfl (r_inc1 _) (by decide) rfl (fun ls hl => ?_)
            refine lv_goto (tgt := 5) hx hb dX8_reckon_70 (by decide) ?_
            have e : mxD (cm f) d (j + 1) = d (j + 1) := by show (if _ then _ else _) = _; rw [if_pos hb9, Nat.max_eq_right (by omega)]
            refine ih (j + 1) _ _ _ ⟨rfl, rfl, by omega, fun m h1 h2 h3 => ?_, by rw [e]; exact lv_sub hl [0, 1, 2, 3] rfl⟩ (by omega)
            rcases Nat.lt_or_ge m (j + 1) with q | q
            · exact hall m h1 (by omega) h3
            · have e9 : m = j + 1 := by omega
              rw [e9] at h3 ⊢
              exact hhit h3
        · exact absurd c3 (by omega)
      · rw [hS9, if_neg (by decide)] at hdj
        refine r_topl (hdj) ?_
        refine lv_lconst (v := (lN (0))) hx hb dX8_reckon_34 (by decide) ?_
        refine r_l_ge (tgt := 43) hx hb dX8_reckon_35 dX8_reckon_36 (by decide) (fun c3 => ?_) (fun c3 => ?_)
        · exact absurd m1_lt (Int64.not_lt.mpr c3)
        · refine lv_ldc2 (v := ((-1))) hx hb hown (hts (.constantLong RX8 107 (-1)) (List.mem_of_getElem? (i := 3) rfl)) dX8_reckon_39 ?_
          exact ret_Ql hx hb hr hlk (Or.inr ⟨⟨j + 1, by omega, by omega, hb9, hS9⟩, rfl⟩) dX8_reckon_42
