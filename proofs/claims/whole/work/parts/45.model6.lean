/-- all these octets are free, as the model marks them -/
def FreT (tk : Nat → Int32) (len a : Nat) : Prop := ∀ x, a ≤ x → x < a + len → tk x = 0
def NoM (tk : Nat → Int32) (fs es ri ln al ki : Nat → Nat) (v j : Nat) : Prop := ri (j + 1) &&& ki v ≠ ki v ∨ NF (FreT tk (ln v)) (fs (j + 1)) (es (j + 1)) (ln v) (al v)
theorem i_X8_find_X8 : ∀ w ∈ wsX80, w ∈ wsX8_find := by decide +kernel
abbrev rm_X8_find : Room := { frames := 1, cells := 0, slots := 0, locals := 21 }
set_option maxHeartbeats 1000000 in
set_option maxRecDepth 100000 in
theorem c_X8_find (l : Launch) (D : va_G) (t : Nat → ClassId) (bd : Nat → Nat) (th sz nr ns pd np nb : Nat) (fs es ri ln al ki km st oc : Nat → Nat) (tk ce pl tl kp ca cp su : Nat → Int32) (de : Nat → Int64) (v q : Nat) (hfs : ∀ k, fs k ≤ 65536) (hes : ∀ k, es k ≤ 65536) (hln : ∀ k, ln k ≤ 65536) (hal : ∀ k, al k ≤ 65536) (hv : v ≤ 40) (hq : q ≤ 16) (hal1 : 1 ≤ al v) (hln1 : 1 ≤ ln v) : Qi l yX8_find wsX8_find rm_X8_find D (TY t) [.ref (bd 0), .int (nI v), .int (nI q)] [((bd 0), .inr (9, [.int (nI th), .int (nI sz), .ref (bd 1), .ref (bd 2), .ref (bd 3), .int (nI nr), .ref (bd 4), .ref (bd 5), .ref (bd 6), .int (nI ns), .ref (bd 7), .ref (bd 8), .ref (bd 9), .ref (bd 10), .int (nI pd), .int (nI np), .ref (bd 11), .ref (bd 12), .ref (bd 13), .ref (bd 14), .ref (bd 15), .ref (bd 16), .ref (bd 17), .ref (bd 18), .int (nI nb)])), ((bd 1), .inl (t 0, 17, .inl (nF fs))), ((bd 2), .inl (t 0, 17, .inl (nF es))), ((bd 3), .inl (t 0, 17, .inl (nF ri))), ((bd 4), .inl (t 0, 41, .inl (nF ln))), ((bd 5), .inl (t 0, 41, .inl (nF al))), ((bd 6), .inl (t 0, 41, .inl (nF ki))), ((bd 7), .inl (t 1, 65536, .inl tk)), ((bd 8), .inl (t 1, 65536, .inl ce)), ((bd 9), .inl (t 0, 41, .inl pl)), ((bd 10), .inl (t 0, 41, .inl tl)), ((bd 11), .inl (t 0, 2091, .inl kp)), ((bd 12), .inl (t 0, 51, .inl (nF km))), ((bd 13), .inl (t 2, 31, .inr (.inl (lF st)))), ((bd 14), .inl (t 3, 961, .inl ca)), ((bd 15), .inl (t 2, 31, .inr (.inl de))), ((bd 16), .inl (t 0, 21, .inl (nF oc))), ((bd 17), .inl (t 1, 1344, .inl cp)), ((bd 18), .inl (t 0, 42, .inl su))] (fun z => (∃ a, z = nI a ∧ LF (FreT tk (ln v)) (fs q) (es q) (ln v) (al v) a) ∨ (z = (-1) ∧ NF (FreT tk (ln v)) (fs q) (es q) (ln v) (al v))) := by
  refine start_Qi cX8_find 5 (some .int) (by decide) rfl (Nat.le_of_ble_eq_true rfl) ?_
  intro p e s m below meth c ls B hP hD hl
  obtain ⟨hx, hb, hr, hts, hown, hlk, hml, hN, hK⟩ := B
  have hl : lv_has ls 5 [(0, .ref (bd 0)), (1, .int (nI v)), (2, .int (nI q))] := hl
  have b1 := hfs q
  have b2 := hes q
  have b3 := hln v
  have b4 := hal v
  refine lv_aload_n hx hb dX8_find_0 rfl (lv_at hl 0 rfl) ?_
  refine va_get (D := D) (ci := 9) (v := .ref (bd 1)) (C := RX8) (T := TX8) (N := 25) hx hb hts i_X8_find_X8 hown hK hP 0 rfl rfl 2 (by decide) (hts (.fieldLink RX8 7 "MemoryMapModel" "froms" "[I") (List.mem_of_getElem? (i := 1) rfl)) (fun _ h9 => h9) rfl dX8_find_1 ?_
  refine lv_iload_n hx hb dX8_find_4 rfl (lv_at hl 2 rfl) ?_
  refine r_iald hx hb hK hP 1 0 rfl rfl (i := q) (by omega) (by omega) dX8_find_5 ?_
  refine lv_aload_n hx hb dX8_find_6 rfl (lv_at hl 0 rfl) ?_
  refine va_get (D := D) (ci := 9) (v := .ref (bd 5)) (C := RX8) (T := TX8) (N := 25) hx hb hts i_X8_find_X8 hown hK hP 0 rfl rfl 7 (by decide) (hts (.fieldLink RX8 22 "MemoryMapModel" "aligns" "[I") (List.mem_of_getElem? (i := 2) rfl)) (fun _ h9 => h9) rfl dX8_find_7 ?_
  refine lv_iload_n hx hb dX8_find_10 rfl (lv_at hl 1 rfl) ?_
  refine r_iald hx hb hK hP 5 0 rfl rfl (i := v) (by omega) (by omega) dX8_find_11 ?_
  refine vp_callSi (va_Run.run (va_runS (As := [.int (nI (fs q)), .int (nI (al v))]) (rest := []) ⟨hx, hb, hml, hown, hts⟩ (c_X8_up l D t (fs q) (al v) (by omega) hal1 (by omega) _) (va_cwS 2 hts gX8_find_X8_up rfl rfl rfl (by decide +kernel) ⟨Nat.le_of_ble_eq_true rfl, Nat.le_of_ble_eq_true rfl⟩) (preS hP hD hK hN [] rfl (by decide)) rfl rfl hl.1 rfl (lv_room (Nat.le_of_ble_eq_true rfl)) dX8_find_12 ⟨Nat.le_of_ble_eq_true rfl, Nat.le_of_ble_eq_true rfl⟩)) (fun r hw => ?_)
  obtain ⟨a0, rfl, ha0⟩ : ∃ z, r = nI z ∧ z = upA (fs q) (al v) := ⟨_, hw, rfl⟩
  refine lv_istore_n (lv' := [(3, .int (nI a0)), (0, .ref (bd 0)), (1, .int (nI v)), (2, .int (nI q))]) hx hb dX8_find_15 rfl hl (by decide) rfl (fun ls hl => ?_)
  have hz1 := upA_ge (a := fs q) hal1
  have hz2 := upA_lt (a := fs q) hal1
  refine W_loop (σ := Nat) (fun a => 200000 - a) (fun a H locs ls => H = s.heap ∧ locs = [] ∧ al v ∣ a ∧ fs q ≤ a ∧ (∀ b, fs q ≤ b → b < a → al v ∣ b → ¬ FreT tk (ln v) b) ∧ a ≤ 140000 ∧ lv_has ls 5 [(3, .int (nI a)), (0, .ref (bd 0)), (1, .int (nI v)), (2, .int (nI q))]) ?_ a0 _ _ _ ⟨rfl, rfl, by rw [ha0]; exact upA_dvd _ _, by omega, fun b h1 h2 h3 => absurd (upA_least hal1 h3 h1) (by omega), by omega, hl⟩
  clear hl ha0 hz1 hz2
  rintro a _ _ ls ⟨rfl, rfl, hd, hge, hmin, hab, hl⟩ ih
  refine lv_iload_n hx hb dX8_find_16 rfl (lv_at hl 0 rfl) ?_
  refine lv_aload_n hx hb dX8_find_17 rfl (lv_at hl 1 rfl) ?_
  refine va_get (D := D) (ci := 9) (v := .ref (bd 4)) (C := RX8) (T := TX8) (N := 25) hx hb hts i_X8_find_X8 hown hK hP 0 rfl rfl 6 (by decide) (hts (.fieldLink RX8 19 "MemoryMapModel" "lengths" "[I") (List.mem_of_getElem? (i := 3) rfl)) (fun _ h9 => h9) rfl dX8_find_18 ?_
  refine lv_iload_n hx hb dX8_find_21 rfl (lv_at hl 2 rfl) ?_
  refine r_iald hx hb hK hP 4 0 rfl rfl (i := v) (by omega) (by omega) dX8_find_22 ?_
  refine r_iadd (x := a) (y := (ln v)) hx hb dX8_find_23 ?_
  refine lv_aload_n hx hb dX8_find_24 rfl (lv_at hl 1 rfl) ?_
  refine va_get (D := D) (ci := 9) (v := .ref (bd 2)) (C := RX8) (T := TX8) (N := 25) hx hb hts i_X8_find_X8 hown hK hP 0 rfl rfl 3 (by decide) (hts (.fieldLink RX8 13 "MemoryMapModel" "ends" "[I") (List.mem_of_getElem? (i := 4) rfl)) (fun _ h9 => h9) rfl dX8_find_25 ?_
  refine lv_iload_n hx hb dX8_find_28 rfl (lv_at hl 3 rfl) ?_
  refine r_iald hx hb hK hP 2 0 rfl rfl (i := q) (by omega) (by omega) dX8_find_29 ?_
  refine r_icmp_gt (x := (a + (ln v))) (y := (es q)) (tgt := 97) hx hb (by omega) (by omega) dX8_find_30 (by decide) (fun c1 => ?_) (fun c1 => ?_)
  · refine lv_iconst (v := ((-1))) hx hb dX8_find_97 (by decide) ?_
    exact ret_Qi hx hb hr hlk (Or.inr ⟨rfl, fun b h1 h2 h3 => (Nat.lt_or_ge b a).elim (fun z => hmin b h1 z h2) (fun z => absurd h3 (by omega))⟩) dX8_find_98
  · refine lv_iload_n hx hb dX8_find_33 rfl (lv_at hl 0 rfl) ?_
    refine lv_istore (lv' := [(4, .int (nI a)), (3, .int (nI a)), (0, .ref (bd 0)), (1, .int (nI v)), (2, .int (nI q))]) hx hb dX8_find_34 hl (by decide) rfl (fun ls hl => ?_)
    refine W_loop (σ := Nat) (fun p => 300000 - p) (fun p H locs ls => H = s.heap ∧ locs = [] ∧ a ≤ p ∧ p ≤ a + ln v ∧ (∀ x, a ≤ x → x < p → tk x = 0) ∧ lv_has ls 5 [(4, .int (nI p)), (3, .int (nI a)), (0, .ref (bd 0)), (1, .int (nI v)), (2, .int (nI q))]) ?_ a _ _ _ ⟨rfl, rfl, Nat.le_refl _, by omega, fun x h1 h2 => absurd h1 (by omega), hl⟩
    clear hl
    rintro p _ _ ls ⟨rfl, rfl, hp1, hp2, hfr, hl⟩ ih2
    refine lv_iload hx hb dX8_find_36 (lv_at hl 0 rfl) ?_
    refine lv_iload_n hx hb dX8_find_38 rfl (lv_at hl 1 rfl) ?_
    refine lv_aload_n hx hb dX8_find_39 rfl (lv_at hl 2 rfl) ?_
    refine va_get (D := D) (ci := 9) (v := .ref (bd 4)) (C := RX8) (T := TX8) (N := 25) hx hb hts i_X8_find_X8 hown hK hP 0 rfl rfl 6 (by decide) (hts (.fieldLink RX8 19 "MemoryMapModel" "lengths" "[I") (List.mem_of_getElem? (i := 3) rfl)) (fun _ h9 => h9) rfl dX8_find_40 ?_
    refine lv_iload_n hx hb dX8_find_43 rfl (lv_at hl 3 rfl) ?_
    refine r_iald hx hb hK hP 4 0 rfl rfl (i := v) (by omega) (by omega) dX8_find_44 ?_
    refine r_iadd (x := a) (y := (ln v)) hx hb dX8_find_45 ?_
    refine r_icmp_ge (x := p) (y := (a + (ln v))) (tgt := 65) hx hb (by omega) (by omega) dX8_find_46 (by decide) (fun c2 => ?_) (fun c2 => ?_)
    · refine lv_iload hx hb dX8_find_65 (lv_at hl 0 rfl) ?_
      refine lv_iload_n hx hb dX8_find_67 rfl (lv_at hl 1 rfl) ?_
      refine lv_aload_n hx hb dX8_find_68 rfl (lv_at hl 2 rfl) ?_
      refine va_get (D := D) (ci := 9) (v := .ref (bd 4)) (C := RX8) (T := TX8) (N := 25) hx hb hts i_X8_find_X8 hown hK hP 0 rfl rfl 6 (by decide) (hts (.fieldLink RX8 19 "MemoryMapModel" "lengths" "[I") (List.mem_of_getElem? (i := 3) rfl)) (fun _ h9 => h9) rfl dX8_find_69 ?_
      refine lv_iload_n hx hb dX8_find_72 rfl (lv_at hl 3 rfl) ?_
      refine r_iald hx hb hK hP 4 0 rfl rfl (i := v) (by omega) (by omega) dX8_find_73 ?_
      refine r_iadd (x := a) (y := (ln v)) hx hb dX8_find_74 ?_
      refine r_icmp_ne (x := p) (y := (a + (ln v))) (tgt := 80) hx hb (by omega) (by omega) dX8_find_75 (by decide) (fun c3 => ?_) (fun c3 => ?_)
      · exact absurd c3 (by omega)
      · refine lv_iload_n hx hb dX8_find_78 rfl (lv_at hl 1 rfl) ?_
        exact ret_Qi hx hb hr hlk (Or.inl ⟨a, rfl, hd, hge, c1, fun x h1 h2 => hfr x h1 (by omega), hmin⟩) dX8_find_79
    · refine lv_aload_n hx hb dX8_find_49 rfl (lv_at hl 2 rfl) ?_
      refine va_get (D := D) (ci := 9) (v := .ref (bd 7)) (C := RX8) (T := TX8) (N := 25) hx hb hts i_X8_find_X8 hown hK hP 0 rfl rfl 10 (by decide) (hts (.fieldLink RX8 29 "MemoryMapModel" "taken" "[B") (List.mem_of_getElem? (i := 5) rfl)) (fun _ h9 => h9) rfl dX8_find_50 ?_
      refine lv_iload hx hb dX8_find_53 (lv_at hl 0 rfl) ?_
      refine r_baldI hx hb hK hP 7 1 rfl rfl (i := p) (by omega) (by omega) dX8_find_55 ?_
      refine lv_if_ne (tgt := 65) hx hb dX8_find_56 (by decide) (fun c3 => ?_) (fun c3 => ?_)
      · refine lv_iload hx hb dX8_find_65 (lv_at hl 0 rfl) ?_
        refine lv_iload_n hx hb dX8_find_67 rfl (lv_at hl 1 rfl) ?_
        refine lv_aload_n hx hb dX8_find_68 rfl (lv_at hl 2 rfl) ?_
        refine va_get (D := D) (ci := 9) (v := .ref (bd 4)) (C := RX8) (T := TX8) (N := 25) hx hb hts i_X8_find_X8 hown hK hP 0 rfl rfl 6 (by decide) (hts (.fieldLink RX8 19 "MemoryMapModel" "lengths" "[I") (List.mem_of_getElem? (i := 3) rfl)) (fun _ h9 => h9) rfl dX8_find_69 ?_
        refine lv_iload_n hx hb dX8_find_72 rfl (lv_at hl 3 rfl) ?_
        refine r_iald hx hb hK hP 4 0 rfl rfl (i := v) (by omega) (by omega) dX8_find_73 ?_
        refine r_iadd (x := a) (y := (ln v)) hx hb dX8_find_74 ?_
        refine r_icmp_ne (x := p) (y := (a + (ln v))) (tgt := 80) hx hb (by omega) (by omega) dX8_find_75 (by decide) (fun c4 => ?_) (fun c4 => ?_)
        · refine lv_iload hx hb dX8_find_80 (lv_at hl 0 rfl) ?_
          refine lv_iconst (v := (nI 1)) hx hb dX8_find_82 (by decide) ?_
          refine r_iadd (x := p) (y := 1) hx hb dX8_find_83 ?_
          refine lv_aload_n hx hb dX8_find_84 rfl (lv_at hl 2 rfl) ?_
          refine va_get (D := D) (ci := 9) (v := .ref (bd 5)) (C := RX8) (T := TX8) (N := 25) hx hb hts i_X8_find_X8 hown hK hP 0 rfl rfl 7 (by decide) (hts (.fieldLink RX8 22 "MemoryMapModel" "aligns" "[I") (List.mem_of_getElem? (i := 2) rfl)) (fun _ h9 => h9) rfl dX8_find_85 ?_
          refine lv_iload_n hx hb dX8_find_88 rfl (lv_at hl 3 rfl) ?_
          refine r_iald hx hb hK hP 5 0 rfl rfl (i := v) (by omega) (by omega) dX8_find_89 ?_
          refine vp_callSi (va_Run.run (va_runS (As := [.int (nI (p + 1)), .int (nI (al v))]) (rest := []) ⟨hx, hb, hml, hown, hts⟩ (c_X8_up l D t (p + 1) (al v) (by omega) hal1 (by omega) _) (va_cwS 2 hts gX8_find_X8_up rfl rfl rfl (by decide +kernel) ⟨Nat.le_of_ble_eq_true rfl, Nat.le_of_ble_eq_true rfl⟩) (preS hP hD hK hN [] rfl (by decide)) rfl rfl hl.1 rfl (lv_room (Nat.le_of_ble_eq_true rfl)) dX8_find_90 ⟨Nat.le_of_ble_eq_true rfl, Nat.le_of_ble_eq_true rfl⟩)) (fun r hw => ?_)
          obtain ⟨a1, rfl, ha1⟩ : ∃ z, r = nI z ∧ z = upA (p + 1) (al v) := ⟨_, hw, rfl⟩
          have hz1 := upA_ge (a := p + 1) hal1
          have hz2 := upA_lt (a := p + 1) hal1
          refine lv_istore_n (lv' := [(3, .int (nI a1)), (4, .int (nI p)), (0, .ref (bd 0)), (1, .int (nI v)), (2, .int (nI q))]) hx hb dX8_find_93 rfl hl (by decide) rfl (fun ls hl => ?_)
          refine lv_goto (tgt := 16) hx hb dX8_find_94 (by decide) ?_
          refine ih a1 _ _ _ ⟨rfl, rfl, by rw [ha1]; exact upA_dvd _ _, by omega, fun b h1 h2 h3 => ?_, by omega, lv_sub hl [0, 2, 3, 4] rfl⟩ (by omega)
          rcases Nat.lt_or_ge b a with z | z
          · exact hmin b h1 z h3
          · intro hF
            rcases Nat.lt_or_ge p b with y | y
            · exact absurd (upA_least hal1 h3 (show p + 1 ≤ b by omega)) (by omega)
            · exact c3 (hF p y (by omega))
        · exact absurd c4 (by omega)
      · refine lv_iinc (v := (nI (p + 1))) (lv' := [(4, .int (nI (p + 1))), (3, .int (nI a)), (0, .ref (bd 0)), (1, .int (nI v)), (2, .int (nI q))]) hx hb dX8_find_59 hl (k := 0) rfl (r_inc1 _) (by decide) rfl (fun ls hl => ?_)
        refine lv_goto (tgt := 36) hx hb dX8_find_62 (by decide) ?_
        refine ih2 (p + 1) _ _ _ ⟨rfl, rfl, by omega, by omega, fun x h1 h2 => ?_, lv_sub hl [0, 1, 2, 3, 4] rfl⟩ (by omega)
        rcases Nat.lt_succ_iff_lt_or_eq.mp h2 with z | rfl
        · exact hfr x h1 z
        · exact c3

theorem i_X8_findAny_X8 : ∀ w ∈ wsX80, w ∈ wsX8_findAny := by decide +kernel
abbrev rm_X8_findAny : Room := { frames := 2, cells := 0, slots := 0, locals := 45 }
set_option maxHeartbeats 1000000 in
set_option maxRecDepth 100000 in
theorem c_X8_findAny (l : Launch) (D : va_G) (t : Nat → ClassId) (bd : Nat → Nat) (th sz nr ns pd np nb : Nat) (fs es ri ln al ki km st oc : Nat → Nat) (tk ce pl tl kp ca cp su : Nat → Int32) (de : Nat → Int64) (v : Nat) (hfs : ∀ k, fs k ≤ 65536) (hes : ∀ k, es k ≤ 65536) (hln : ∀ k, ln k ≤ 65536) (hal : ∀ k, al k ≤ 65536) (hki : ∀ k, ki k ≤ 7) (hv : v ≤ 40) (hnr : nr ≤ 16) (hal1 : 1 ≤ al v) (hln1 : 1 ≤ ln v) : Qi l yX8_findAny wsX8_findAny rm_X8_findAny D (TY t) [.ref (bd 0), .int (nI v)] [((bd 0), .inr (9, [.int (nI th), .int (nI sz), .ref (bd 1), .ref (bd 2), .ref (bd 3), .int (nI nr), .ref (bd 4), .ref (bd 5), .ref (bd 6), .int (nI ns), .ref (bd 7), .ref (bd 8), .ref (bd 9), .ref (bd 10), .int (nI pd), .int (nI np), .ref (bd 11), .ref (bd 12), .ref (bd 13), .ref (bd 14), .ref (bd 15), .ref (bd 16), .ref (bd 17), .ref (bd 18), .int (nI nb)])), ((bd 1), .inl (t 0, 17, .inl (nF fs))), ((bd 2), .inl (t 0, 17, .inl (nF es))), ((bd 3), .inl (t 0, 17, .inl (nF ri))), ((bd 4), .inl (t 0, 41, .inl (nF ln))), ((bd 5), .inl (t 0, 41, .inl (nF al))), ((bd 6), .inl (t 0, 41, .inl (nF ki))), ((bd 7), .inl (t 1, 65536, .inl tk)), ((bd 8), .inl (t 1, 65536, .inl ce)), ((bd 9), .inl (t 0, 41, .inl pl)), ((bd 10), .inl (t 0, 41, .inl tl)), ((bd 11), .inl (t 0, 2091, .inl kp)), ((bd 12), .inl (t 0, 51, .inl (nF km))), ((bd 13), .inl (t 2, 31, .inr (.inl (lF st)))), ((bd 14), .inl (t 3, 961, .inl ca)), ((bd 15), .inl (t 2, 31, .inr (.inl de))), ((bd 16), .inl (t 0, 21, .inl (nF oc))), ((bd 17), .inl (t 1, 1344, .inl cp)), ((bd 18), .inl (t 0, 42, .inl su))] (fun z => (∃ q, q < nr ∧ (∀ j, j < q → NoM tk fs es ri ln al ki v j) ∧ ri (q + 1) &&& ki v = ki v ∧ ∃ a, z = nI a ∧ LF (FreT tk (ln v)) (fs (q + 1)) (es (q + 1)) (ln v) (al v) a) ∨ (z = (-1) ∧ ∀ j, j < nr → NoM tk fs es ri ln al ki v j)) := by
  refine start_Qi cX8_findAny 4 (some .int) (by decide) rfl (Nat.le_of_ble_eq_true rfl) ?_
  intro p e s m below meth c ls B hP hD hl
  obtain ⟨hx, hb, hr, hts, hown, hlk, hml, hN, hK⟩ := B
  have hl : lv_has ls 4 [(0, .ref (bd 0)), (1, .int (nI v))] := hl
  refine lv_iconst (v := ((-1))) hx hb dX8_findAny_0 (by decide) ?_
  refine lv_istore_n (lv' := [(2, .int ((-1))), (0, .ref (bd 0)), (1, .int (nI v))]) hx hb dX8_findAny_1 rfl hl (by decide) rfl (fun ls hl => ?_)
  refine lv_iconst (v := (nI 1)) hx hb dX8_findAny_2 (by decide) ?_
  refine lv_istore_n (lv' := [(3, .int (nI 1)), (2, .int ((-1))), (0, .ref (bd 0)), (1, .int (nI v))]) hx hb dX8_findAny_3 rfl hl (by decide) rfl (fun ls hl => ?_)
  refine W_loop (σ := Nat) (fun i => nr - i) (fun i H locs ls => H = s.heap ∧ locs = [] ∧ i ≤ nr ∧ (∀ j, j < i → NoM tk fs es ri ln al ki v j) ∧ lv_has ls 4 [(3, .int (nI (i + 1))), (2, .int ((-1))), (0, .ref (bd 0)), (1, .int (nI v))]) ?_ 0 _ _ _ ⟨rfl, rfl, Nat.zero_le _, fun j hj => absurd hj (Nat.not_lt_zero _), hl⟩
  clear hl
  rintro i _ _ ls ⟨rfl, rfl, hi, hno, hl⟩ ih
  refine lv_iload_n hx hb dX8_findAny_4 rfl (lv_at hl 0 rfl) ?_
  refine lv_aload_n hx hb dX8_findAny_5 rfl (lv_at hl 2 rfl) ?_
  refine va_get (D := D) (ci := 9) (v := .int (nI nr)) (C := RX8) (T := TX8) (N := 25) hx hb hts i_X8_findAny_X8 hown hK hP 0 rfl rfl 5 (by decide) (hts (.fieldLink RX8 77 "MemoryMapModel" "regions" "I") (List.mem_of_getElem? (i := 1) rfl)) (fun _ h9 => h9) rfl dX8_findAny_6 ?_
  refine r_icmp_gt (x := (i + 1)) (y := nr) (tgt := 55) hx hb (by omega) (by omega) dX8_findAny_9 (by decide) (fun c1 => ?_) (fun c1 => ?_)
  · refine lv_iload_n hx hb dX8_findAny_55 rfl (lv_at hl 1 rfl) ?_
    exact ret_Qi hx hb hr hlk (Or.inr ⟨rfl, fun j hj => hno j (by omega)⟩) dX8_findAny_56
  · refine lv_iload_n hx hb dX8_findAny_12 rfl (lv_at hl 1 rfl) ?_
    refine lv_if_ge (tgt := 55) hx hb dX8_findAny_13 (by decide) (fun c2 => ?_) (fun c2 => ?_)
    · exact absurd c2 (by decide)
    · refine lv_aload_n hx hb dX8_findAny_16 rfl (lv_at hl 2 rfl) ?_
      refine va_get (D := D) (ci := 9) (v := .ref (bd 3)) (C := RX8) (T := TX8) (N := 25) hx hb hts i_X8_findAny_X8 hown hK hP 0 rfl rfl 4 (by decide) (hts (.fieldLink RX8 16 "MemoryMapModel" "rights" "[I") (List.mem_of_getElem? (i := 2) rfl)) (fun _ h9 => h9) rfl dX8_findAny_17 ?_
      refine lv_iload_n hx hb dX8_findAny_20 rfl (lv_at hl 0 rfl) ?_
      refine r_iald hx hb hK hP 3 0 rfl rfl (i := i + 1) (by omega) (by omega) dX8_findAny_21 ?_
      refine lv_aload_n hx hb dX8_findAny_22 rfl (lv_at hl 2 rfl) ?_
      refine va_get (D := D) (ci := 9) (v := .ref (bd 6)) (C := RX8) (T := TX8) (N := 25) hx hb hts i_X8_findAny_X8 hown hK hP 0 rfl rfl 8 (by decide) (hts (.fieldLink RX8 25 "MemoryMapModel" "kinds" "[I") (List.mem_of_getElem? (i := 3) rfl)) (fun _ h9 => h9) rfl dX8_findAny_23 ?_
      refine lv_iload_n hx hb dX8_findAny_26 rfl (lv_at hl 3 rfl) ?_
      refine r_iald hx hb hK hP 6 0 rfl rfl (i := v) (by omega) (by omega) dX8_findAny_27 ?_
      refine lv_iand hx hb dX8_findAny_28 ?_
      refine r_topi (nx_and _ _) ?_
      have hle : ri (i + 1) &&& ki v ≤ ki v := Nat.and_le_right
      have hk7 := hki v
      refine lv_aload_n hx hb dX8_findAny_29 rfl (lv_at hl 2 rfl) ?_
      refine va_get (D := D) (ci := 9) (v := .ref (bd 6)) (C := RX8) (T := TX8) (N := 25) hx hb hts i_X8_findAny_X8 hown hK hP 0 rfl rfl 8 (by decide) (hts (.fieldLink RX8 25 "MemoryMapModel" "kinds" "[I") (List.mem_of_getElem? (i := 3) rfl)) (fun _ h9 => h9) rfl dX8_findAny_30 ?_
      refine lv_iload_n hx hb dX8_findAny_33 rfl (lv_at hl 3 rfl) ?_
      refine r_iald hx hb hK hP 6 0 rfl rfl (i := v) (by omega) (by omega) dX8_findAny_34 ?_
      refine r_icmp_ne (x := (ri (i + 1) &&& ki v)) (y := (ki v)) (tgt := 47) hx hb (by omega) (by omega) dX8_findAny_35 (by decide) (fun c3 => ?_) (fun c3 => ?_)
      · refine lv_iconst (v := ((-1))) hx hb dX8_findAny_47 (by decide) ?_
        refine lv_istore_n (lv' := [(2, .int ((-1))), (3, .int (nI (i + 1))), (0, .ref (bd 0)), (1, .int (nI v))]) hx hb dX8_findAny_48 rfl hl (by decide) rfl (fun ls hl => ?_)
        refine lv_iinc (v := (nI ((i + 1) + 1))) (lv' := [(3, .int (nI ((i + 1) + 1))), (2, .int ((-1))), (0, .ref (bd 0)), (1, .int (nI v))]) hx hb dX8_findAny_49 hl (k := 1) rfl (r_inc1 _) (by decide) rfl (fun ls hl => ?_)
        refine lv_goto (tgt := 4) hx hb dX8_findAny_52 (by decide) ?_
        refine ih (i + 1) _ _ _ ⟨rfl, rfl, by omega, fun j hj => ?_, lv_sub hl [0, 1, 2, 3] rfl⟩ (by omega)
        rcases Nat.lt_succ_iff_lt_or_eq.mp hj with q | rfl
        · exact hno j q
        · exact Or.inl c3
      · refine lv_aload_n hx hb dX8_findAny_38 rfl (lv_at hl 2 rfl) ?_
        refine lv_iload_n hx hb dX8_findAny_39 rfl (lv_at hl 3 rfl) ?_
        refine lv_iload_n hx hb dX8_findAny_40 rfl (lv_at hl 0 rfl) ?_
        refine vp_callSi (va_Run.run (va_runV (As := [.int (nI v), .int (nI (i + 1))]) (rest := []) ⟨hx, hb, hml, hown, hts⟩ (c_X8_find l D t bd th sz nr ns pd np nb fs es ri ln al ki km st oc tk ce pl tl kp ca cp su de v (i + 1) hfs hes hln hal hv (by omega) hal1 hln1 _) (cwV 2 hts gX8_findAny_X8_find rfl rfl rfl (by decide +kernel) ⟨Nat.le_of_ble_eq_true rfl, Nat.le_of_ble_eq_true rfl⟩) (preVw hP hD hK hN 9 0 rfl rfl rfl) rfl rfl hl.1 rfl (lv_room (Nat.le_of_ble_eq_true rfl)) dX8_findAny_41 ⟨Nat.le_of_ble_eq_true rfl, Nat.le_of_ble_eq_true rfl⟩)) (fun z hw => ?_)
        rcases hw with ⟨a, rfl, g⟩ | ⟨rfl, g⟩
        · have hb2 := hes (i + 1)
          have ha9 := g.2.2.1
          refine lv_goto (tgt := 48) hx hb dX8_findAny_44 (by decide) ?_
          refine lv_istore_n (lv' := [(2, .int (nI a)), (3, .int (nI (i + 1))), (0, .ref (bd 0)), (1, .int (nI v))]) hx hb dX8_findAny_48 rfl hl (by decide) rfl (fun ls hl => ?_)
          refine lv_iinc (v := (nI ((i + 1) + 1))) (lv' := [(3, .int (nI ((i + 1) + 1))), (2, .int (nI a)), (0, .ref (bd 0)), (1, .int (nI v))]) hx hb dX8_findAny_49 hl (k := 1) rfl (r_inc1 _) (by decide) rfl (fun ls hl => ?_)
          refine lv_goto (tgt := 4) hx hb dX8_findAny_52 (by decide) ?_
          refine lv_iload_n hx hb dX8_findAny_4 rfl (lv_at hl 0 rfl) ?_
          refine lv_aload_n hx hb dX8_findAny_5 rfl (lv_at hl 2 rfl) ?_
          refine va_get (D := D) (ci := 9) (v := .int (nI nr)) (C := RX8) (T := TX8) (N := 25) hx hb hts i_X8_findAny_X8 hown hK hP 0 rfl rfl 5 (by decide) (hts (.fieldLink RX8 77 "MemoryMapModel" "regions" "I") (List.mem_of_getElem? (i := 1) rfl)) (fun _ h9 => h9) rfl dX8_findAny_6 ?_
          refine r_icmp_gt (x := ((i + 1) + 1)) (y := nr) (tgt := 55) hx hb (by omega) (by omega) dX8_findAny_9 (by decide) (fun d1 => ?_) (fun d1 => ?_)
          · refine lv_iload_n hx hb dX8_findAny_55 rfl (lv_at hl 1 rfl) ?_
            exact ret_Qi hx hb hr hlk (Or.inl ⟨i, by omega, hno, c3, a, rfl, g⟩) dX8_findAny_56
          · refine lv_iload_n hx hb dX8_findAny_12 rfl (lv_at hl 1 rfl) ?_
            refine r_if_ge (x := a) (tgt := 55) hx hb (by omega) dX8_findAny_13 (by decide) ?_
            refine lv_iload_n hx hb dX8_findAny_55 rfl (lv_at hl 1 rfl) ?_
            exact ret_Qi hx hb hr hlk (Or.inl ⟨i, by omega, hno, c3, a, rfl, g⟩) dX8_findAny_56
        · refine lv_goto (tgt := 48) hx hb dX8_findAny_44 (by decide) ?_
          refine lv_istore_n (lv' := [(2, .int ((-1))), (3, .int (nI (i + 1))), (0, .ref (bd 0)), (1, .int (nI v))]) hx hb dX8_findAny_48 rfl hl (by decide) rfl (fun ls hl => ?_)
          refine lv_iinc (v := (nI ((i + 1) + 1))) (lv' := [(3, .int (nI ((i + 1) + 1))), (2, .int ((-1))), (0, .ref (bd 0)), (1, .int (nI v))]) hx hb dX8_findAny_49 hl (k := 1) rfl (r_inc1 _) (by decide) rfl (fun ls hl => ?_)
          refine lv_goto (tgt := 4) hx hb dX8_findAny_52 (by decide) ?_
          refine ih (i + 1) _ _ _ ⟨rfl, rfl, by omega, fun j hj => ?_, lv_sub hl [0, 1, 2, 3] rfl⟩ (by omega)
          rcases Nat.lt_succ_iff_lt_or_eq.mp hj with q | rfl
          · exact hno j q
          · exact Or.inr g
