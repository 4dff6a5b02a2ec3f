/-- which section comes first -/
def Bf (ln : Nat → Nat) (a b : Nat) : Prop := ln b < ln a ∨ (ln a = ln b ∧ a < b)
/-- 1-based -/
def IsNx (ns : Nat) (ln : Nat → Nat) (b x j : Nat) : Prop := (x = 0 ∧ ∀ s, 1 ≤ s → s < j → ¬ (b = 0 ∨ Bf ln b s)) ∨ (1 ≤ x ∧ x < j ∧ (b = 0 ∨ Bf ln b x) ∧ ∀ s, 1 ≤ s → s < j → (b = 0 ∨ Bf ln b s) → s = x ∨ Bf ln x s)
theorem Bf_tr {ln : Nat → Nat} {a b c : Nat} (h1 : Bf ln a b) (h2 : Bf ln b c) : Bf ln a c := by unfold Bf at *; omega
theorem Bf_tot {ln : Nat → Nat} {a b : Nat} (h : ¬ Bf ln a b) : a = b ∨ Bf ln b a := by unfold Bf at *; omega
theorem rngJ {x : Int32} {hi : Nat} (hh : hi < 2 ^ 31) (_ : 0 < 2 ^ 31) (h1 : ¬ x < nI 1) (h2 : x ≤ nI hi) : ∃ k, 1 ≤ k ∧ k ≤ hi ∧ x = nI k := by
  rw [Int32.lt_iff_toInt_lt, nI_toInt (by decide)] at h1
  rw [Int32.le_iff_toInt_le, nI_toInt hh] at h2
  refine ⟨x.toInt.toNat, by omega, by omega, ?_⟩
  apply Int32.toInt_inj.mp
  rw [nI_toInt (by omega)]
  omega
abbrev rm_X8_up : Room := { frames := 0, cells := 0, slots := 0, locals := 0 }
set_option maxHeartbeats 1000000 in
set_option maxRecDepth 100000 in
theorem c_X8_up (l : Launch) (D : va_G) (t : Nat → ClassId) (a d : Nat) (ha : a ≤ 1000000) (hd1 : 1 ≤ d) (hd2 : d ≤ 1000000) : Qi l yX8_up wsX8_up rm_X8_up D (TY t) [.int (nI a), .int (nI d)] [] (fun r => r = nI (upA a d)) := by
  refine start_Qi cX8_up 2 (some .int) (by decide) rfl (Nat.le_of_ble_eq_true rfl) ?_
  intro p e s m below meth c ls B hP hD hl
  obtain ⟨hx, hb, hr, hts, hown, hlk, hml, hN, hK⟩ := B
  have hl : lv_has ls 2 [(0, .int (nI a)), (1, .int (nI d))] := hl
  refine lv_iload_n hx hb dX8_up_0 rfl (lv_at hl 0 rfl) ?_
  refine lv_iload_n hx hb dX8_up_1 rfl (lv_at hl 1 rfl) ?_
  refine r_iadd (x := a) (y := d) hx hb dX8_up_2 ?_
  refine lv_iconst (v := (nI 1)) hx hb dX8_up_3 (by decide) ?_
  refine r_isub (x := (a + d)) (y := 1) hx hb (by omega) dX8_up_4 ?_
  refine lv_iload_n hx hb dX8_up_5 rfl (lv_at hl 1 rfl) ?_
  refine r_idiv (x := ((a + d) - 1)) (y := d) hx hb (by omega) (by omega) (by omega) dX8_up_6 ?_
  refine lv_iload_n hx hb dX8_up_7 rfl (lv_at hl 1 rfl) ?_
  refine r_imul (x := (((a + d) - 1) / d)) (y := d) hx hb dX8_up_8 ?_
  exact ret_Qi hx hb hr hlk (rfl) dX8_up_9

theorem i_X8_thrown_X8 : ∀ w ∈ wsX80, w ∈ wsX8_thrown := by decide +kernel
abbrev rm_X8_thrown : Room := { frames := 0, cells := 0, slots := 0, locals := 0 }
set_option maxHeartbeats 1000000 in
set_option maxRecDepth 100000 in
theorem c_X8_thrown (l : Launch) (D : va_G) (t : Nat → ClassId) (bd : Nat → Nat) (th sz nr ns pd np nb : Nat) (fs es ri ln al ki km st oc : Nat → Nat) (tk ce pl tl kp ca cp su : Nat → Int32) (de : Nat → Int64)  : Qi l yX8_thrown wsX8_thrown rm_X8_thrown D (TY t) [.ref (bd 0)] [((bd 0), .inr (9, [.int (nI th), .int (nI sz), .ref (bd 1), .ref (bd 2), .ref (bd 3), .int (nI nr), .ref (bd 4), .ref (bd 5), .ref (bd 6), .int (nI ns), .ref (bd 7), .ref (bd 8), .ref (bd 9), .ref (bd 10), .int (nI pd), .int (nI np), .ref (bd 11), .ref (bd 12), .ref (bd 13), .ref (bd 14), .ref (bd 15), .ref (bd 16), .ref (bd 17), .ref (bd 18), .int (nI nb)])), ((bd 1), .inl (t 0, 17, .inl (nF fs))), ((bd 2), .inl (t 0, 17, .inl (nF es))), ((bd 3), .inl (t 0, 17, .inl (nF ri))), ((bd 4), .inl (t 0, 41, .inl (nF ln))), ((bd 5), .inl (t 0, 41, .inl (nF al))), ((bd 6), .inl (t 0, 41, .inl (nF ki))), ((bd 7), .inl (t 1, 65536, .inl tk)), ((bd 8), .inl (t 1, 65536, .inl ce)), ((bd 9), .inl (t 0, 41, .inl pl)), ((bd 10), .inl (t 0, 41, .inl tl)), ((bd 11), .inl (t 0, 2091, .inl kp)), ((bd 12), .inl (t 0, 51, .inl (nF km))), ((bd 13), .inl (t 2, 31, .inr (.inl (lF st)))), ((bd 14), .inl (t 3, 961, .inl ca)), ((bd 15), .inl (t 2, 31, .inr (.inl de))), ((bd 16), .inl (t 0, 21, .inl (nF oc))), ((bd 17), .inl (t 1, 1344, .inl cp)), ((bd 18), .inl (t 0, 42, .inl su))] (fun r => r = nI th) := by
  refine start_Qi cX8_thrown 1 (some .int) (by decide) rfl (Nat.le_of_ble_eq_true rfl) ?_
  intro p e s m below meth c ls B hP hD hl
  obtain ⟨hx, hb, hr, hts, hown, hlk, hml, hN, hK⟩ := B
  have hl : lv_has ls 1 [(0, .ref (bd 0))] := hl
  refine lv_aload_n hx hb dX8_thrown_0 rfl (lv_at hl 0 rfl) ?_
  refine va_get (D := D) (ci := 9) (v := .int (nI th)) (C := RX8) (T := TX8) (N := 25) hx hb hts i_X8_thrown_X8 hown hK hP 0 rfl rfl 0 (by decide) (hts (.fieldLink RX8 74 "MemoryMapModel" "thrown" "I") (List.mem_of_getElem? (i := 1) rfl)) (fun _ h9 => h9) rfl dX8_thrown_1 ?_
  exact ret_Qi hx hb hr hlk (rfl) dX8_thrown_4

theorem i_X8_isBefore_X8 : ∀ w ∈ wsX80, w ∈ wsX8_isBefore := by decide +kernel
abbrev rm_X8_isBefore : Room := { frames := 0, cells := 0, slots := 0, locals := 0 }
set_option maxHeartbeats 1000000 in
set_option maxRecDepth 100000 in
theorem c_X8_isBefore (l : Launch) (D : va_G) (t : Nat → ClassId) (bd : Nat → Nat) (th sz nr ns pd np nb : Nat) (fs es ri ln al ki km st oc : Nat → Nat) (tk ce pl tl kp ca cp su : Nat → Int32) (de : Nat → Int64) (a b : Nat) (hln : ∀ k, ln k ≤ 65536) (ha : a ≤ 40) (hb9 : b ≤ 40) : Qi l yX8_isBefore wsX8_isBefore rm_X8_isBefore D (TY t) [.ref (bd 0), .int (nI a), .int (nI b)] [((bd 0), .inr (9, [.int (nI th), .int (nI sz), .ref (bd 1), .ref (bd 2), .ref (bd 3), .int (nI nr), .ref (bd 4), .ref (bd 5), .ref (bd 6), .int (nI ns), .ref (bd 7), .ref (bd 8), .ref (bd 9), .ref (bd 10), .int (nI pd), .int (nI np), .ref (bd 11), .ref (bd 12), .ref (bd 13), .ref (bd 14), .ref (bd 15), .ref (bd 16), .ref (bd 17), .ref (bd 18), .int (nI nb)])), ((bd 1), .inl (t 0, 17, .inl (nF fs))), ((bd 2), .inl (t 0, 17, .inl (nF es))), ((bd 3), .inl (t 0, 17, .inl (nF ri))), ((bd 4), .inl (t 0, 41, .inl (nF ln))), ((bd 5), .inl (t 0, 41, .inl (nF al))), ((bd 6), .inl (t 0, 41, .inl (nF ki))), ((bd 7), .inl (t 1, 65536, .inl tk)), ((bd 8), .inl (t 1, 65536, .inl ce)), ((bd 9), .inl (t 0, 41, .inl pl)), ((bd 10), .inl (t 0, 41, .inl tl)), ((bd 11), .inl (t 0, 2091, .inl kp)), ((bd 12), .inl (t 0, 51, .inl (nF km))), ((bd 13), .inl (t 2, 31, .inr (.inl (lF st)))), ((bd 14), .inl (t 3, 961, .inl ca)), ((bd 15), .inl (t 2, 31, .inr (.inl de))), ((bd 16), .inl (t 0, 21, .inl (nF oc))), ((bd 17), .inl (t 1, 1344, .inl cp)), ((bd 18), .inl (t 0, 42, .inl su))] (fun r => (r = nI 1 ∧ Bf ln a b) ∨ (r = nI 0 ∧ ¬ Bf ln a b)) := by
  refine start_Qi cX8_isBefore 3 (some .boolean) (by decide) rfl (Nat.le_of_ble_eq_true rfl) ?_
  intro p e s m below meth c ls B hP hD hl
  obtain ⟨hx, hb, hr, hts, hown, hlk, hml, hN, hK⟩ := B
  have hl : lv_has ls 3 [(0, .ref (bd 0)), (1, .int (nI a)), (2, .int (nI b))] := hl
  refine lv_aload_n hx hb dX8_isBefore_0 rfl (lv_at hl 0 rfl) ?_
  refine va_get (D := D) (ci := 9) (v := .ref (bd 4)) (C := RX8) (T := TX8) (N := 25) hx hb hts i_X8_isBefore_X8 hown hK hP 0 rfl rfl 6 (by decide) (hts (.fieldLink RX8 19 "MemoryMapModel" "lengths" "[I") (List.mem_of_getElem? (i := 1) rfl)) (fun _ h9 => h9) rfl dX8_isBefore_1 ?_
  refine lv_iload_n hx hb dX8_isBefore_4 rfl (lv_at hl 1 rfl) ?_
  refine r_iald hx hb hK hP 4 0 rfl rfl (i := a) (by omega) (by omega) dX8_isBefore_5 ?_
  have hb_0 := hln a
  refine lv_aload_n hx hb dX8_isBefore_6 rfl (lv_at hl 0 rfl) ?_
  refine va_get (D := D) (ci := 9) (v := .ref (bd 4)) (C := RX8) (T := TX8) (N := 25) hx hb hts i_X8_isBefore_X8 hown hK hP 0 rfl rfl 6 (by decide) (hts (.fieldLink RX8 19 "MemoryMapModel" "lengths" "[I") (List.mem_of_getElem? (i := 1) rfl)) (fun _ h9 => h9) rfl dX8_isBefore_7 ?_
  refine lv_iload_n hx hb dX8_isBefore_10 rfl (lv_at hl 2 rfl) ?_
  refine r_iald hx hb hK hP 4 0 rfl rfl (i := b) (by omega) (by omega) dX8_isBefore_11 ?_
  have hb_1 := hln b
  refine r_icmp_gt (x := (ln a)) (y := (ln b)) (tgt := 35) hx hb (by omega) (by omega) dX8_isBefore_12 (by decide) (fun c1 => ?_) (fun c1 => ?_)
  · refine lv_iconst (v := (nI 1)) hx hb dX8_isBefore_35 (by decide) ?_
    refine lv_goto (tgt := 40) hx hb dX8_isBefore_36 (by decide) ?_
    exact ret_Qz hx hb hr hlk rfl (Or.inl ⟨rfl, Or.inl c1⟩) dX8_isBefore_40
  · refine lv_aload_n hx hb dX8_isBefore_15 rfl (lv_at hl 0 rfl) ?_
    refine va_get (D := D) (ci := 9) (v := .ref (bd 4)) (C := RX8) (T := TX8) (N := 25) hx hb hts i_X8_isBefore_X8 hown hK hP 0 rfl rfl 6 (by decide) (hts (.fieldLink RX8 19 "MemoryMapModel" "lengths" "[I") (List.mem_of_getElem? (i := 1) rfl)) (fun _ h9 => h9) rfl dX8_isBefore_16 ?_
    refine lv_iload_n hx hb dX8_isBefore_19 rfl (lv_at hl 1 rfl) ?_
    refine r_iald hx hb hK hP 4 0 rfl rfl (i := a) (by omega) (by omega) dX8_isBefore_20 ?_
    have hb_2 := hln a
    refine lv_aload_n hx hb dX8_isBefore_21 rfl (lv_at hl 0 rfl) ?_
    refine va_get (D := D) (ci := 9) (v := .ref (bd 4)) (C := RX8) (T := TX8) (N := 25) hx hb hts i_X8_isBefore_X8 hown hK hP 0 rfl rfl 6 (by decide) (hts (.fieldLink RX8 19 "MemoryMapModel" "lengths" "[I") (List.mem_of_getElem? (i := 1) rfl)) (fun _ h9 => h9) rfl dX8_isBefore_22 ?_
    refine lv_iload_n hx hb dX8_isBefore_25 rfl (lv_at hl 2 rfl) ?_
    refine r_iald hx hb hK hP 4 0 rfl rfl (i := b) (by omega) (by omega) dX8_isBefore_26 ?_
    have hb_3 := hln b
    refine r_icmp_ne (x := (ln a)) (y := (ln b)) (tgt := 39) hx hb (by omega) (by omega) dX8_isBefore_27 (by decide) (fun c2 => ?_) (fun c2 => ?_)
    · refine lv_iconst (v := (nI 0)) hx hb dX8_isBefore_39 (by decide) ?_
      exact ret_Qz hx hb hr hlk rfl (Or.inr ⟨rfl, fun q => by unfold Bf at q; omega⟩) dX8_isBefore_40
    · refine lv_iload_n hx hb dX8_isBefore_30 rfl (lv_at hl 1 rfl) ?_
      refine lv_iload_n hx hb dX8_isBefore_31 rfl (lv_at hl 2 rfl) ?_
      refine r_icmp_ge (x := a) (y := b) (tgt := 39) hx hb (by omega) (by omega) dX8_isBefore_32 (by decide) (fun c3 => ?_) (fun c3 => ?_)
      · refine lv_iconst (v := (nI 0)) hx hb dX8_isBefore_39 (by decide) ?_
        exact ret_Qz hx hb hr hlk rfl (Or.inr ⟨rfl, fun q => by unfold Bf at q; omega⟩) dX8_isBefore_40
      · refine lv_iconst (v := (nI 1)) hx hb dX8_isBefore_35 (by decide) ?_
        refine lv_goto (tgt := 40) hx hb dX8_isBefore_36 (by decide) ?_
        exact ret_Qz hx hb hr hlk rfl (Or.inl ⟨rfl, Or.inr ⟨c2, c3⟩⟩) dX8_isBefore_40

theorem i_X8_next_X8 : ∀ w ∈ wsX80, w ∈ wsX8_next := by decide +kernel
abbrev rm_X8_next : Room := { frames := 1, cells := 0, slots := 0, locals := 22 }
set_option maxHeartbeats 1000000 in
set_option maxRecDepth 100000 in
theorem c_X8_next (l : Launch) (D : va_G) (t : Nat → ClassId) (bd : Nat → Nat) (th sz nr ns pd np nb : Nat) (fs es ri ln al ki km st oc : Nat → Nat) (tk ce pl tl kp ca cp su : Nat → Int32) (de : Nat → Int64) (b : Nat) (hln : ∀ k, ln k ≤ 65536) (hns : ns ≤ 40) (hb9 : b ≤ 40) : Qi l yX8_next wsX8_next rm_X8_next D (TY t) [.ref (bd 0), .int (nI b)] [((bd 0), .inr (9, [.int (nI th), .int (nI sz), .ref (bd 1), .ref (bd 2), .ref (bd 3), .int (nI nr), .ref (bd 4), .ref (bd 5), .ref (bd 6), .int (nI ns), .ref (bd 7), .ref (bd 8), .ref (bd 9), .ref (bd 10), .int (nI pd), .int (nI np), .ref (bd 11), .ref (bd 12), .ref (bd 13), .ref (bd 14), .ref (bd 15), .ref (bd 16), .ref (bd 17), .ref (bd 18), .int (nI nb)])), ((bd 1), .inl (t 0, 17, .inl (nF fs))), ((bd 2), .inl (t 0, 17, .inl (nF es))), ((bd 3), .inl (t 0, 17, .inl (nF ri))), ((bd 4), .inl (t 0, 41, .inl (nF ln))), ((bd 5), .inl (t 0, 41, .inl (nF al))), ((bd 6), .inl (t 0, 41, .inl (nF ki))), ((bd 7), .inl (t 1, 65536, .inl tk)), ((bd 8), .inl (t 1, 65536, .inl ce)), ((bd 9), .inl (t 0, 41, .inl pl)), ((bd 10), .inl (t 0, 41, .inl tl)), ((bd 11), .inl (t 0, 2091, .inl kp)), ((bd 12), .inl (t 0, 51, .inl (nF km))), ((bd 13), .inl (t 2, 31, .inr (.inl (lF st)))), ((bd 14), .inl (t 3, 961, .inl ca)), ((bd 15), .inl (t 2, 31, .inr (.inl de))), ((bd 16), .inl (t 0, 21, .inl (nF oc))), ((bd 17), .inl (t 1, 1344, .inl cp)), ((bd 18), .inl (t 0, 42, .inl su))] (fun r => ∃ x, r = nI x ∧ x ≤ ns ∧ IsNx ns ln b x (ns + 1)) := by
  refine start_Qi cX8_next 4 (some .int) (by decide) rfl (Nat.le_of_ble_eq_true rfl) ?_
  intro p e s m below meth c ls B hP hD hl
  obtain ⟨hx, hb, hr, hts, hown, hlk, hml, hN, hK⟩ := B
  have hl : lv_has ls 4 [(0, .ref (bd 0)), (1, .int (nI b))] := hl
  refine lv_iconst (v := (nI 0)) hx hb dX8_next_0 (by decide) ?_
  refine lv_istore_n (lv' := [(2, .int (nI 0)), (0, .ref (bd 0)), (1, .int (nI b))]) hx hb dX8_next_1 rfl hl (by decide) rfl (fun ls hl => ?_)
  refine lv_iconst (v := (nI 1)) hx hb dX8_next_2 (by decide) ?_
  refine lv_istore_n (lv' := [(3, .int (nI 1)), (2, .int (nI 0)), (0, .ref (bd 0)), (1, .int (nI b))]) hx hb dX8_next_3 rfl hl (by decide) rfl (fun ls hl => ?_)
  refine W_loop (σ := Nat × Nat) (fun y => ns + 1 - y.1) (fun y H locs ls => match y with | (j, x) => H = s.heap ∧ locs = [] ∧ 1 ≤ j ∧ j ≤ ns + 1 ∧ x < j ∧ IsNx ns ln b x j ∧ lv_has ls 4 [(3, .int (nI j)), (2, .int (nI x)), (0, .ref (bd 0)), (1, .int (nI b))]) ?_ (1, 0) _ _ _ ⟨rfl, rfl, by decide, by omega, by decide, Or.inl ⟨rfl, fun s h1 h2 => absurd h1 (by omega)⟩, hl⟩
  rintro ⟨j, x⟩ _ _ ls ⟨rfl, rfl, hj1, hj2, hxj, hnx, hl⟩ ih
  refine lv_iload_n hx hb dX8_next_4 rfl (lv_at hl 0 rfl) ?_
  refine lv_aload_n hx hb dX8_next_5 rfl (lv_at hl 2 rfl) ?_
  refine va_get (D := D) (ci := 9) (v := .int (nI ns)) (C := RX8) (T := TX8) (N := 25) hx hb hts i_X8_next_X8 hown hK hP 0 rfl rfl 9 (by decide) (hts (.fieldLink RX8 80 "MemoryMapModel" "sections" "I") (List.mem_of_getElem? (i := 1) rfl)) (fun _ h9 => h9) rfl dX8_next_6 ?_
  refine r_icmp_gt (x := j) (y := ns) (tgt := 46) hx hb (by omega) (by omega) dX8_next_9 (by decide) (fun c1 => ?_) (fun c1 => ?_)
  · refine lv_iload_n hx hb dX8_next_46 rfl (lv_at hl 1 rfl) ?_
    have e : j = ns + 1 := by omega
    subst e
    exact ret_Qi hx hb hr hlk (⟨x, rfl, by omega, hnx⟩) dX8_next_47
  · refine lv_iload_n hx hb dX8_next_12 rfl (lv_at hl 3 rfl) ?_
    refine r_if_eq (x := b) (tgt := 25) hx hb (by omega) dX8_next_13 (by decide) (fun c2 => ?_) (fun c2 => ?_)
    · have hcand : b = 0 ∨ Bf ln b j := Or.inl c2
      refine lv_iload_n hx hb dX8_next_25 rfl (lv_at hl 1 rfl) ?_
      refine r_if_eq (x := x) (tgt := 38) hx hb (by omega) dX8_next_26 (by decide) (fun d1 => ?_) (fun d1 => ?_)
      · have hbest : 0 < x → Bf ln j x := fun q => absurd q (by omega)
        refine lv_iload_n hx hb dX8_next_38 rfl (lv_at hl 0 rfl) ?_
        refine lv_istore_n (lv' := [(2, .int (nI j)), (3, .int (nI j)), (0, .ref (bd 0)), (1, .int (nI b))]) hx hb dX8_next_39 rfl hl (by decide) rfl (fun ls hl => ?_)
        refine lv_iinc (v := (nI (j + 1))) (lv' := [(3, .int (nI (j + 1))), (2, .int (nI j)), (0, .ref (bd 0)), (1, .int (nI b))]) hx hb dX8_next_40 hl (k := 1) rfl (r_inc1 _) (by decide) rfl (fun ls hl => ?_)
        refine lv_goto (tgt := 4) hx hb dX8_next_43 (by decide) ?_
        refine ih (j + 1, j) _ _ _ ⟨rfl, rfl, by omega, by omega, by omega, ?_, lv_sub hl [0, 1, 2, 3] rfl⟩ (by show ns + 1 - (j + 1) < ns + 1 - j; omega)
        refine Or.inr ⟨by omega, by omega, hcand, fun s h1 h2 h3 => ?_⟩
        rcases Nat.lt_succ_iff_lt_or_eq.mp h2 with q | rfl
        · rcases hnx with ⟨e, g⟩ | ⟨g1, g2, g3, g4⟩
          · exact absurd h3 (g s h1 q)
          · rcases g4 s h1 q h3 with z | z
            · rw [z]; exact Or.inr (hbest (by omega))
            · exact Or.inr (Bf_tr (hbest (by omega)) z)
        · exact Or.inl rfl
      · refine lv_aload_n hx hb dX8_next_29 rfl (lv_at hl 2 rfl) ?_
        refine lv_iload_n hx hb dX8_next_30 rfl (lv_at hl 0 rfl) ?_
        refine lv_iload_n hx hb dX8_next_31 rfl (lv_at hl 1 rfl) ?_
        refine vp_callSi (va_Run.run (va_runV (As := [.int (nI j), .int (nI x)]) (rest := []) ⟨hx, hb, hml, hown, hts⟩ (c_X8_isBefore l D t bd th sz nr ns pd np nb fs es ri ln al ki km st oc tk ce pl tl kp ca cp su de j x hln (by omega) (by omega) _) (cwV 2 hts gX8_next_X8_isBefore rfl rfl rfl (by decide +kernel) ⟨Nat.le_of_ble_eq_true rfl, Nat.le_of_ble_eq_true rfl⟩) (preVw hP hD hK hN 9 0 rfl rfl rfl) rfl rfl hl.1 rfl (lv_room (Nat.le_of_ble_eq_true rfl)) dX8_next_32 ⟨Nat.le_of_ble_eq_true rfl, Nat.le_of_ble_eq_true rfl⟩)) (fun r hw => ?_)
        rcases hw with ⟨rfl, g⟩ | ⟨rfl, g⟩
        · refine r_if_eq (x := 1) (tgt := 40) hx hb (by omega) dX8_next_35 (by decide) (fun c => absurd c (by decide)) (fun _ => ?_)
          have hbest : 0 < x → Bf ln j x := fun _ => g
          refine lv_iload_n hx hb dX8_next_38 rfl (lv_at hl 0 rfl) ?_
          refine lv_istore_n (lv' := [(2, .int (nI j)), (3, .int (nI j)), (0, .ref (bd 0)), (1, .int (nI b))]) hx hb dX8_next_39 rfl hl (by decide) rfl (fun ls hl => ?_)
          refine lv_iinc (v := (nI (j + 1))) (lv' := [(3, .int (nI (j + 1))), (2, .int (nI j)), (0, .ref (bd 0)), (1, .int (nI b))]) hx hb dX8_next_40 hl (k := 1) rfl (r_inc1 _) (by decide) rfl (fun ls hl => ?_)
          refine lv_goto (tgt := 4) hx hb dX8_next_43 (by decide) ?_
          refine ih (j + 1, j) _ _ _ ⟨rfl, rfl, by omega, by omega, by omega, ?_, lv_sub hl [0, 1, 2, 3] rfl⟩ (by show ns + 1 - (j + 1) < ns + 1 - j; omega)
          refine Or.inr ⟨by omega, by omega, hcand, fun s h1 h2 h3 => ?_⟩
          rcases Nat.lt_succ_iff_lt_or_eq.mp h2 with q | rfl
          · rcases hnx with ⟨e, g⟩ | ⟨g1, g2, g3, g4⟩
            · exact absurd h3 (g s h1 q)
            · rcases g4 s h1 q h3 with z | z
              · rw [z]; exact Or.inr (hbest (by omega))
              · exact Or.inr (Bf_tr (hbest (by omega)) z)
          · exact Or.inl rfl
        · refine r_if_eq (x := 0) (tgt := 40) hx hb (by omega) dX8_next_35 (by decide) (fun _ => ?_) (fun c => absurd c (by decide))
          have hworse := g
          refine lv_iinc (v := (nI (j + 1))) (lv' := [(3, .int (nI (j + 1))), (2, .int (nI x)), (0, .ref (bd 0)), (1, .int (nI b))]) hx hb dX8_next_40 hl (k := 0) rfl (r_inc1 _) (by decide) rfl (fun ls hl => ?_)
          refine lv_goto (tgt := 4) hx hb dX8_next_43 (by decide) ?_
          refine ih (j + 1, x) _ _ _ ⟨rfl, rfl, by omega, by omega, by omega, ?_, lv_sub hl [0, 1, 2, 3] rfl⟩ (by show ns + 1 - (j + 1) < ns + 1 - j; omega)
          rcases hnx with ⟨e, g⟩ | ⟨g1, g2, g3, g4⟩
          · omega
          · refine Or.inr ⟨g1, by omega, g3, fun s h1 h2 h3 => ?_⟩
            rcases Nat.lt_succ_iff_lt_or_eq.mp h2 with q | rfl
            · exact g4 s h1 q h3
            · exact (Bf_tot hworse)
    · refine lv_aload_n hx hb dX8_next_16 rfl (lv_at hl 2 rfl) ?_
      refine lv_iload_n hx hb dX8_next_17 rfl (lv_at hl 3 rfl) ?_
      refine lv_iload_n hx hb dX8_next_18 rfl (lv_at hl 0 rfl) ?_
      refine vp_callSi (va_Run.run (va_runV (As := [.int (nI b), .int (nI j)]) (rest := []) ⟨hx, hb, hml, hown, hts⟩ (c_X8_isBefore l D t bd th sz nr ns pd np nb fs es ri ln al ki km st oc tk ce pl tl kp ca cp su de b j hln (by omega) (by omega) _) (cwV 2 hts gX8_next_X8_isBefore rfl rfl rfl (by decide +kernel) ⟨Nat.le_of_ble_eq_true rfl, Nat.le_of_ble_eq_true rfl⟩) (preVw hP hD hK hN 9 0 rfl rfl rfl) rfl rfl hl.1 rfl (lv_room (Nat.le_of_ble_eq_true rfl)) dX8_next_19 ⟨Nat.le_of_ble_eq_true rfl, Nat.le_of_ble_eq_true rfl⟩)) (fun r hw => ?_)
      rcases hw with ⟨rfl, g0⟩ | ⟨rfl, g0⟩
      · refine r_if_eq (x := 1) (tgt := 40) hx hb (by omega) dX8_next_22 (by decide) (fun c => absurd c (by decide)) (fun _ => ?_)
        have hcand : b = 0 ∨ Bf ln b j := Or.inr g0
        refine lv_iload_n hx hb dX8_next_25 rfl (lv_at hl 1 rfl) ?_
        refine r_if_eq (x := x) (tgt := 38) hx hb (by omega) dX8_next_26 (by decide) (fun d1 => ?_) (fun d1 => ?_)
        · have hbest : 0 < x → Bf ln j x := fun q => absurd q (by omega)
          refine lv_iload_n hx hb dX8_next_38 rfl (lv_at hl 0 rfl) ?_
          refine lv_istore_n (lv' := [(2, .int (nI j)), (3, .int (nI j)), (0, .ref (bd 0)), (1, .int (nI b))]) hx hb dX8_next_39 rfl hl (by decide) rfl (fun ls hl => ?_)
          refine lv_iinc (v := (nI (j + 1))) (lv' := [(3, .int (nI (j + 1))), (2, .int (nI j)), (0, .ref (bd 0)), (1, .int (nI b))]) hx hb dX8_next_40 hl (k := 1) rfl (r_inc1 _) (by decide) rfl (fun ls hl => ?_)
          refine lv_goto (tgt := 4) hx hb dX8_next_43 (by decide) ?_
          refine ih (j + 1, j) _ _ _ ⟨rfl, rfl, by omega, by omega, by omega, ?_, lv_sub hl [0, 1, 2, 3] rfl⟩ (by show ns + 1 - (j + 1) < ns + 1 - j; omega)
          refine Or.inr ⟨by omega, by omega, hcand, fun s h1 h2 h3 => ?_⟩
          rcases Nat.lt_succ_iff_lt_or_eq.mp h2 with q | rfl
          · rcases hnx with ⟨e, g⟩ | ⟨g1, g2, g3, g4⟩
            · exact absurd h3 (g s h1 q)
            · rcases g4 s h1 q h3 with z | z
              · rw [z]; exact Or.inr (hbest (by omega))
              · exact Or.inr (Bf_tr (hbest (by omega)) z)
          · exact Or.inl rfl
        · refine lv_aload_n hx hb dX8_next_29 rfl (lv_at hl 2 rfl) ?_
          refine lv_iload_n hx hb dX8_next_30 rfl (lv_at hl 0 rfl) ?_
          refine lv_iload_n hx hb dX8_next_31 rfl (lv_at hl 1 rfl) ?_
          refine vp_callSi (va_Run.run (va_runV (As := [.int (nI j), .int (nI x)]) (rest := []) ⟨hx, hb, hml, hown, hts⟩ (c_X8_isBefore l D t bd th sz nr ns pd np nb fs es ri ln al ki km st oc tk ce pl tl kp ca cp su de j x hln (by omega) (by omega) _) (cwV 2 hts gX8_next_X8_isBefore rfl rfl rfl (by decide +kernel) ⟨Nat.le_of_ble_eq_true rfl, Nat.le_of_ble_eq_true rfl⟩) (preVw hP hD hK hN 9 0 rfl rfl rfl) rfl rfl hl.1 rfl (lv_room (Nat.le_of_ble_eq_true rfl)) dX8_next_32 ⟨Nat.le_of_ble_eq_true rfl, Nat.le_of_ble_eq_true rfl⟩)) (fun r hw => ?_)
          rcases hw with ⟨rfl, g⟩ | ⟨rfl, g⟩
          · refine r_if_eq (x := 1) (tgt := 40) hx hb (by omega) dX8_next_35 (by decide) (fun c => absurd c (by decide)) (fun _ => ?_)
            have hbest : 0 < x → Bf ln j x := fun _ => g
            refine lv_iload_n hx hb dX8_next_38 rfl (lv_at hl 0 rfl) ?_
            refine lv_istore_n (lv' := [(2, .int (nI j)), (3, .int (nI j)), (0, .ref (bd 0)), (1, .int (nI b))]) hx hb dX8_next_39 rfl hl (by decide) rfl (fun ls hl => ?_)
            refine lv_iinc (v := (nI (j + 1))) (lv' := [(3, .int (nI (j + 1))), (2, .int (nI j)), (0, .ref (bd 0)), (1, .int (nI b))]) hx hb dX8_next_40 hl (k := 1) rfl (r_inc1 _) (by decide) rfl (fun ls hl => ?_)
            refine lv_goto (tgt := 4) hx hb dX8_next_43 (by decide) ?_
            refine ih (j + 1, j) _ _ _ ⟨rfl, rfl, by omega, by omega, by omega, ?_, lv_sub hl [0, 1, 2, 3] rfl⟩ (by show ns + 1 - (j + 1) < ns + 1 - j; omega)
            refine Or.inr ⟨by omega, by omega, hcand, fun s h1 h2 h3 => ?_⟩
            rcases Nat.lt_succ_iff_lt_or_eq.mp h2 with q | rfl
            · rcases hnx with ⟨e, g⟩ | ⟨g1, g2, g3, g4⟩
              · exact absurd h3 (g s h1 q)
              · rcases g4 s h1 q h3 with z | z
                · rw [z]; exact Or.inr (hbest (by omega))
                · exact Or.inr (Bf_tr (hbest (by omega)) z)
            · exact Or.inl rfl
          · refine r_if_eq (x := 0) (tgt := 40) hx hb (by omega) dX8_next_35 (by decide) (fun _ => ?_) (fun c => absurd c (by decide))
            have hworse := g
            refine lv_iinc (v := (nI (j + 1))) (lv' := [(3, .int (nI (j + 1))), (2, .int (nI x)), (0, .ref (bd 0)), (1, .int (nI b))]) hx hb dX8_next_40 hl (k := 0) rfl (r_inc1 _) (by decide) rfl (fun ls hl => ?_)
            refine lv_goto (tgt := 4) hx hb dX8_next_43 (by decide) ?_
            refine ih (j + 1, x) _ _ _ ⟨rfl, rfl, by omega, by omega, by omega, ?_, lv_sub hl [0, 1, 2, 3] rfl⟩ (by show ns + 1 - (j + 1) < ns + 1 - j; omega)
            rcases hnx with ⟨e, g⟩ | ⟨g1, g2, g3, g4⟩
            · omega
            · refine Or.inr ⟨g1, by omega, g3, fun s h1 h2 h3 => ?_⟩
              rcases Nat.lt_succ_iff_lt_or_eq.mp h2 with q | rfl
              · exact g4 s h1 q h3
              · exact (Bf_tot hworse)
      · refine r_if_eq (x := 0) (tgt := 40) hx hb (by omega) dX8_next_22 (by decide) (fun _ => ?_) (fun c => absurd c (by decide))
        have hcand : ¬ (b = 0 ∨ Bf ln b j) := fun q => q.elim (fun z => absurd z (by omega)) g0
        refine lv_iinc (v := (nI (j + 1))) (lv' := [(3, .int (nI (j + 1))), (2, .int (nI x)), (0, .ref (bd 0)), (1, .int (nI b))]) hx hb dX8_next_40 hl (k := 0) rfl (r_inc1 _) (by decide) rfl (fun ls hl => ?_)
        refine lv_goto (tgt := 4) hx hb dX8_next_43 (by decide) ?_
        refine ih (j + 1, x) _ _ _ ⟨rfl, rfl, by omega, by omega, by omega, ?_, lv_sub hl [0, 1, 2, 3] rfl⟩ (by show ns + 1 - (j + 1) < ns + 1 - j; omega)
        rcases hnx with ⟨e, g⟩ | ⟨g1, g2, g3, g4⟩
        · refine Or.inl ⟨e, fun s h1 h2 => ?_⟩
          rcases Nat.lt_succ_iff_lt_or_eq.mp h2 with q | rfl
          · exact g s h1 q
          · exact hcand
        · refine Or.inr ⟨g1, by omega, g3, fun s h1 h2 h3 => ?_⟩
          rcases Nat.lt_succ_iff_lt_or_eq.mp h2 with q | rfl
          · exact g4 s h1 q h3
          · exact absurd h3 hcand

theorem i_X8_noBlock_X8 : ∀ w ∈ wsX80, w ∈ wsX8_noBlock := by decide +kernel
abbrev rm_X8_noBlock : Room := { frames := 0, cells := 0, slots := 0, locals := 0 }
set_option maxHeartbeats 1000000 in
set_option maxRecDepth 100000 in
theorem c_X8_noBlock (l : Launch) (D : va_G) (t : Nat → ClassId) (bd : Nat → Nat) (th sz nr ns pd np nb : Nat) (fs es ri ln al ki km st oc : Nat → Nat) (tk ce pl tl kp ca cp su : Nat → Int32) (de : Nat → Int64) (x : Int32) (hnb : nb ≤ 20) : Qi l yX8_noBlock wsX8_noBlock rm_X8_noBlock D (TY t) [.ref (bd 0), .int x] [((bd 0), .inr (9, [.int (nI th), .int (nI sz), .ref (bd 1), .ref (bd 2), .ref (bd 3), .int (nI nr), .ref (bd 4), .ref (bd 5), .ref (bd 6), .int (nI ns), .ref (bd 7), .ref (bd 8), .ref (bd 9), .ref (bd 10), .int (nI pd), .int (nI np), .ref (bd 11), .ref (bd 12), .ref (bd 13), .ref (bd 14), .ref (bd 15), .ref (bd 16), .ref (bd 17), .ref (bd 18), .int (nI nb)])), ((bd 1), .inl (t 0, 17, .inl (nF fs))), ((bd 2), .inl (t 0, 17, .inl (nF es))), ((bd 3), .inl (t 0, 17, .inl (nF ri))), ((bd 4), .inl (t 0, 41, .inl (nF ln))), ((bd 5), .inl (t 0, 41, .inl (nF al))), ((bd 6), .inl (t 0, 41, .inl (nF ki))), ((bd 7), .inl (t 1, 65536, .inl tk)), ((bd 8), .inl (t 1, 65536, .inl ce)), ((bd 9), .inl (t 0, 41, .inl pl)), ((bd 10), .inl (t 0, 41, .inl tl)), ((bd 11), .inl (t 0, 2091, .inl kp)), ((bd 12), .inl (t 0, 51, .inl (nF km))), ((bd 13), .inl (t 2, 31, .inr (.inl (lF st)))), ((bd 14), .inl (t 3, 961, .inl ca)), ((bd 15), .inl (t 2, 31, .inr (.inl de))), ((bd 16), .inl (t 0, 21, .inl (nF oc))), ((bd 17), .inl (t 1, 1344, .inl cp)), ((bd 18), .inl (t 0, 42, .inl su))] (fun r => (r = nI 0 ∧ ∃ k, 1 ≤ k ∧ k ≤ nb ∧ x = nI k) ∨ (r = nI 1 ∧ ∀ k, 1 ≤ k → k ≤ nb → x ≠ nI k)) := by
  refine start_Qi cX8_noBlock 2 (some .boolean) (by decide) rfl (Nat.le_of_ble_eq_true rfl) ?_
  intro p e s m below meth c ls B hP hD hl
  obtain ⟨hx, hb, hr, hts, hown, hlk, hml, hN, hK⟩ := B
  have hl : lv_has ls 2 [(0, .ref (bd 0)), (1, .int x)] := hl
  refine lv_iload_n hx hb dX8_noBlock_0 rfl (lv_at hl 1 rfl) ?_
  refine lv_iconst (v := (nI 1)) hx hb dX8_noBlock_1 (by decide) ?_
  refine lv_icmp_lt (tgt := 13) hx hb dX8_noBlock_2 (by decide) (fun c1 => ?_) (fun c1 => ?_)
  · refine lv_iconst (v := (nI 1)) hx hb dX8_noBlock_13 (by decide) ?_
    refine lv_goto (tgt := 18) hx hb dX8_noBlock_14 (by decide) ?_
    exact ret_Qz hx hb hr hlk rfl (Or.inr ⟨rfl, fun k h1 h2 e => absurd (e ▸ c1) (nI_nlt h1 (by omega))⟩) dX8_noBlock_18
  · refine lv_iload_n hx hb dX8_noBlock_5 rfl (lv_at hl 1 rfl) ?_
    refine lv_aload_n hx hb dX8_noBlock_6 rfl (lv_at hl 0 rfl) ?_
    refine va_get (D := D) (ci := 9) (v := .int (nI nb)) (C := RX8) (T := TX8) (N := 25) hx hb hts i_X8_noBlock_X8 hown hK hP 0 rfl rfl 24 (by decide) (hts (.fieldLink RX8 121 "MemoryMapModel" "blocks" "I") (List.mem_of_getElem? (i := 1) rfl)) (fun _ h9 => h9) rfl dX8_noBlock_7 ?_
    refine lv_icmp_le (tgt := 17) hx hb dX8_noBlock_10 (by decide) (fun c2 => ?_) (fun c2 => ?_)
    · refine lv_iconst (v := (nI 0)) hx hb dX8_noBlock_17 (by decide) ?_
      exact ret_Qz hx hb hr hlk rfl (Or.inl ⟨rfl, rngJ (by omega) (by omega) c1 c2⟩) dX8_noBlock_18
    · refine lv_iconst (v := (nI 1)) hx hb dX8_noBlock_13 (by decide) ?_
      refine lv_goto (tgt := 18) hx hb dX8_noBlock_14 (by decide) ?_
      exact ret_Qz hx hb hr hlk rfl (Or.inr ⟨rfl, fun k h1 h2 e => c2 (by rw [e]; exact nI_le h2 (by omega))⟩) dX8_noBlock_18

abbrev rm_X8_cell_ : Room := { frames := 0, cells := 0, slots := 0, locals := 0 }
set_option maxHeartbeats 1000000 in
set_option maxRecDepth 100000 in
theorem c_X8_cell_ (l : Launch) (D : va_G) (t : Nat → ClassId) (b c0 i : Nat)  : Qi l yX8_cell_ wsX8_cell_ rm_X8_cell_ D (TY t) [.int (nI b), .int (nI c0), .int (nI i)] [] (fun r => r = nI (32 * (2 * b + c0) + i)) := by
  refine start_Qi cX8_cell_ 3 (some .int) (by decide) rfl (Nat.le_of_ble_eq_true rfl) ?_
  intro p e s m below meth c ls B hP hD hl
  obtain ⟨hx, hb, hr, hts, hown, hlk, hml, hN, hK⟩ := B
  have hl : lv_has ls 3 [(0, .int (nI b)), (1, .int (nI c0)), (2, .int (nI i))] := hl
  refine lv_bipush (v := (nI 32)) hx hb dX8_cell__0 (by decide) ?_
  refine lv_iconst (v := (nI 2)) hx hb dX8_cell__2 (by decide) ?_
  refine lv_iload_n hx hb dX8_cell__3 rfl (lv_at hl 0 rfl) ?_
  refine r_imul (x := 2) (y := b) hx hb dX8_cell__4 ?_
  refine lv_iload_n hx hb dX8_cell__5 rfl (lv_at hl 1 rfl) ?_
  refine r_iadd (x := (2 * b)) (y := c0) hx hb dX8_cell__6 ?_
  refine r_imul (x := 32) (y := ((2 * b) + c0)) hx hb dX8_cell__7 ?_
  refine lv_iload_n hx hb dX8_cell__8 rfl (lv_at hl 2 rfl) ?_
  refine r_iadd (x := (32 * ((2 * b) + c0))) (y := i) hx hb dX8_cell__9 ?_
  exact ret_Qi hx hb hr hlk (rfl) dX8_cell__10

theorem i_X8_sum_X8 : ∀ w ∈ wsX80, w ∈ wsX8_sum := by decide +kernel
abbrev rm_X8_sum : Room := { frames := 1, cells := 0, slots := 0, locals := 22 }
set_option maxHeartbeats 1000000 in
set_option maxRecDepth 100000 in
theorem c_X8_sum (l : Launch) (D : va_G) (t : Nat → ClassId) (bd : Nat → Nat) (th sz nr ns pd np nb : Nat) (fs es ri ln al ki km st oc : Nat → Nat) (tk ce pl tl kp ca cp su : Nat → Int32) (de : Nat → Int64) (b c0 : Nat) (hb9 : b ≤ 20) (hc0 : c0 ≤ 1) (hoc : ∀ k, oc k ≤ 32) : Qi l yX8_sum wsX8_sum rm_X8_sum D (TY t) [.ref (bd 0), .int (nI b), .int (nI c0)] [((bd 0), .inr (9, [.int (nI th), .int (nI sz), .ref (bd 1), .ref (bd 2), .ref (bd 3), .int (nI nr), .ref (bd 4), .ref (bd 5), .ref (bd 6), .int (nI ns), .ref (bd 7), .ref (bd 8), .ref (bd 9), .ref (bd 10), .int (nI pd), .int (nI np), .ref (bd 11), .ref (bd 12), .ref (bd 13), .ref (bd 14), .ref (bd 15), .ref (bd 16), .ref (bd 17), .ref (bd 18), .int (nI nb)])), ((bd 1), .inl (t 0, 17, .inl (nF fs))), ((bd 2), .inl (t 0, 17, .inl (nF es))), ((bd 3), .inl (t 0, 17, .inl (nF ri))), ((bd 4), .inl (t 0, 41, .inl (nF ln))), ((bd 5), .inl (t 0, 41, .inl (nF al))), ((bd 6), .inl (t 0, 41, .inl (nF ki))), ((bd 7), .inl (t 1, 65536, .inl tk)), ((bd 8), .inl (t 1, 65536, .inl ce)), ((bd 9), .inl (t 0, 41, .inl pl)), ((bd 10), .inl (t 0, 41, .inl tl)), ((bd 11), .inl (t 0, 2091, .inl kp)), ((bd 12), .inl (t 0, 51, .inl (nF km))), ((bd 13), .inl (t 2, 31, .inr (.inl (lF st)))), ((bd 14), .inl (t 3, 961, .inl ca)), ((bd 15), .inl (t 2, 31, .inr (.inl de))), ((bd 16), .inl (t 0, 21, .inl (nF oc))), ((bd 17), .inl (t 1, 1344, .inl cp)), ((bd 18), .inl (t 0, 42, .inl su))] (fun r => r = sumF (fun i => cp (32 * (2 * b + c0) + i)) (oc b)) := by
  refine start_Qi cX8_sum 6 (some .int) (by decide) rfl (Nat.le_of_ble_eq_true rfl) ?_
  intro p e s m below meth c ls B hP hD hl
  obtain ⟨hx, hb, hr, hts, hown, hlk, hml, hN, hK⟩ := B
  have hl : lv_has ls 6 [(0, .ref (bd 0)), (1, .int (nI b)), (2, .int (nI c0))] := hl
  refine lv_iconst (v := (nI 1)) hx hb dX8_sum_0 (by decide) ?_
  refine lv_istore_n (lv' := [(3, .int (nI 1)), (0, .ref (bd 0)), (1, .int (nI b)), (2, .int (nI c0))]) hx hb dX8_sum_1 rfl hl (by decide) rfl (fun ls hl => ?_)
  refine lv_iconst (v := (nI 0)) hx hb dX8_sum_2 (by decide) ?_
  refine lv_istore (lv' := [(4, .int (nI 0)), (3, .int (nI 1)), (0, .ref (bd 0)), (1, .int (nI b)), (2, .int (nI c0))]) hx hb dX8_sum_3 hl (by decide) rfl (fun ls hl => ?_)
  have ho := hoc b
  refine W_loop (σ := Nat) (fun i => oc b - i) (fun i H locs ls => H = s.heap ∧ locs = [] ∧ i ≤ oc b ∧ lv_has ls 6 [(4, .int (nI i)), (3, .int (sumF (fun i => cp (32 * (2 * b + c0) + i)) i)), (0, .ref (bd 0)), (1, .int (nI b)), (2, .int (nI c0))]) ?_ 0 _ _ _ ⟨rfl, rfl, Nat.zero_le _, hl⟩
  rintro i _ _ ls ⟨rfl, rfl, hi, hl⟩ ih
  refine lv_iload hx hb dX8_sum_5 (lv_at hl 0 rfl) ?_
  refine lv_aload_n hx hb dX8_sum_7 rfl (lv_at hl 2 rfl) ?_
  refine va_get (D := D) (ci := 9) (v := .ref (bd 16)) (C := RX8) (T := TX8) (N := 25) hx hb hts i_X8_sum_X8 hown hK hP 0 rfl rfl 21 (by decide) (hts (.fieldLink RX8 59 "MemoryMapModel" "octets" "[I") (List.mem_of_getElem? (i := 1) rfl)) (fun _ h9 => h9) rfl dX8_sum_8 ?_
  refine lv_iload_n hx hb dX8_sum_11 rfl (lv_at hl 3 rfl) ?_
  refine r_iald hx hb hK hP 16 0 rfl rfl (i := b) (by omega) (by omega) dX8_sum_12 ?_
  have hb_0 := hoc b
  refine r_icmp_ge (x := i) (y := (oc b)) (tgt := 56) hx hb (by omega) (by omega) dX8_sum_13 (by decide) (fun c1 => ?_) (fun c1 => ?_)
  · refine lv_iload_n hx hb dX8_sum_56 rfl (lv_at hl 1 rfl) ?_
    have e : i = oc b := by omega
    exact ret_Qi hx hb hr hlk (by rw [e]) dX8_sum_57
  · refine lv_iload_n hx hb dX8_sum_16 rfl (lv_at hl 1 rfl) ?_
    refine lv_aload_n hx hb dX8_sum_17 rfl (lv_at hl 2 rfl) ?_
    refine va_get (D := D) (ci := 9) (v := .ref (bd 17)) (C := RX8) (T := TX8) (N := 25) hx hb hts i_X8_sum_X8 hown hK hP 0 rfl rfl 22 (by decide) (hts (.fieldLink RX8 62 "MemoryMapModel" "copies" "[B") (List.mem_of_getElem? (i := 2) rfl)) (fun _ h9 => h9) rfl dX8_sum_18 ?_
    refine lv_iload_n hx hb dX8_sum_21 rfl (lv_at hl 3 rfl) ?_
    refine lv_iload_n hx hb dX8_sum_22 rfl (lv_at hl 4 rfl) ?_
    refine lv_iload hx hb dX8_sum_23 (lv_at hl 0 rfl) ?_
    refine vp_callSi (va_Run.run (va_runS (As := [.int (nI b), .int (nI c0), .int (nI i)]) (rest := [.ref (bd 17), .int (sumF (fun i => cp (32 * (2 * b + c0) + i)) i)]) ⟨hx, hb, hml, hown, hts⟩ (c_X8_cell_ l D t b c0 i _) (va_cwS 3 hts gX8_sum_X8_cell_ rfl rfl rfl (by decide +kernel) ⟨Nat.le_of_ble_eq_true rfl, Nat.le_of_ble_eq_true rfl⟩) (preS hP hD hK hN [] rfl (by decide)) rfl rfl hl.1 rfl (lv_room (Nat.le_of_ble_eq_true rfl)) dX8_sum_25 ⟨Nat.le_of_ble_eq_true rfl, Nat.le_of_ble_eq_true rfl⟩)) (fun r hw => ?_)
    subst hw
    refine r_baldI hx hb hK hP 17 1 rfl rfl (i := 32 * (2 * b + c0) + i) (by omega) (by omega) dX8_sum_28 ?_
    refine lv_sipush (v := (nI 255)) hx hb dX8_sum_29 (by decide) ?_
    refine lv_iand hx hb dX8_sum_32 ?_
    refine lv_ixor hx hb dX8_sum_33 ?_
    refine lv_istore (lv' := [(5, .int ((((sumF (fun i => cp (32 * (2 * b + c0) + i)) i)) ^^^ ((((((cp (32 * (2 * b + c0) + i)))) &&& ((nI 255)))))))), (4, .int (nI i)), (3, .int (sumF (fun i => cp (32 * (2 * b + c0) + i)) i)), (0, .ref (bd 0)), (1, .int (nI b)), (2, .int (nI c0))]) hx hb dX8_sum_34 hl (by decide) rfl (fun ls hl => ?_)
    refine lv_iload hx hb dX8_sum_36 (lv_at hl 0 rfl) ?_
    refine lv_iconst (v := (nI 5)) hx hb dX8_sum_38 (by decide) ?_
    refine lv_ishl hx hb dX8_sum_39 ?_
    refine lv_iload hx hb dX8_sum_40 (lv_at hl 0 rfl) ?_
    refine lv_bipush (v := (nI 27)) hx hb dX8_sum_42 (by decide) ?_
    refine lv_iushr (v := ((((((sumF (fun i => cp (32 * (2 * b + c0) + i)) i)) ^^^ ((((((cp (32 * (2 * b + c0) + i)))) &&& ((nI 255)))))))).toUInt32 >>> (((nI 27)).toUInt32 &&& Int32.toUInt32 31)).toInt32) hx hb dX8_sum_44 rfl ?_
    refine lv_ior hx hb dX8_sum_45 ?_
    refine lv_ldc hx hb hown (hts (.constant RX8 131 (-1028477379)) (List.mem_of_getElem? (i := 3) rfl)) dX8_sum_46 ?_
    refine lv_imul hx hb dX8_sum_48 ?_
    refine lv_istore_n (lv' := [(3, .int (((((((((((((sumF (fun i => cp (32 * (2 * b + c0) + i)) i)) ^^^ ((((((cp (32 * (2 * b + c0) + i)))) &&& ((nI 255)))))))) <<< (((nI 5)) &&& 31)))) ||| ((((((((sumF (fun i => cp (32 * (2 * b + c0) + i)) i)) ^^^ ((((((cp (32 * (2 * b + c0) + i)))) &&& ((nI 255)))))))).toUInt32 >>> (((nI 27)).toUInt32 &&& Int32.toUInt32 31)).toInt32))))) * (((-1028477379)))))), (5, .int ((((sumF (fun i => cp (32 * (2 * b + c0) + i)) i)) ^^^ ((((((cp (32 * (2 * b + c0) + i)))) &&& ((nI 255)))))))), (4, .int (nI i)), (0, .ref (bd 0)), (1, .int (nI b)), (2, .int (nI c0))]) hx hb dX8_sum_49 rfl hl (by decide) rfl (fun ls hl => ?_)
    refine lv_iinc (v := (nI (i + 1))) (lv' := [(4, .int (nI (i + 1))), (3, .int (((((((((((((sumF (fun i => cp (32 * (2 * b + c0) + i)) i)) ^^^ ((((((cp (32 * (2 * b + c0) + i)))) &&& ((nI 255)))))))) <<< (((nI 5)) &&& 31)))) ||| ((((((((sumF (fun i => cp (32 * (2 * b + c0) + i)) i)) ^^^ ((((((cp (32 * (2 * b + c0) + i)))) &&& ((nI 255)))))))).toUInt32 >>> (((nI 27)).toUInt32 &&& Int32.toUInt32 31)).toInt32))))) * (((-1028477379)))))), (5, .int ((((sumF (fun i => cp (32 * (2 * b + c0) + i)) i)) ^^^ ((((((cp (32 * (2 * b + c0) + i)))) &&& ((nI 255)))))))), (0, .ref (bd 0)), (1, .int (nI b)), (2, .int (nI c0))]) hx hb dX8_sum_50 hl (k := 2) rfl (r_inc1 _) (by decide) rfl (fun ls hl => ?_)
    refine lv_goto (tgt := 5) hx hb dX8_sum_53 (by decide) ?_
    exact ih (i + 1) _ _ _ ⟨rfl, rfl, by omega, lv_sub hl [0, 1, 3, 4, 5] rfl⟩ (by omega)
