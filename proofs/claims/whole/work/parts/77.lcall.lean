set_option maxHeartbeats 2000000 in
set_option maxRecDepth 100000 in
theorem lw_call {p : Program} {e : Env} {s : State} {m : MethodId} {below : List Frame} {meth : Method} {c : Code} (l : Launch) {b L : Nat} {xs : Nat → Int32} (hL : L ≤ 3073) (C0 : lw_At p s m meth c b L xs) {D : va_G} {t : Nat → ClassId} {sa1 sa2 : Nat} (hC : LC l D t sa1 sa2 s) {ad r bd : Nat → Nat} {qo sz i N cells slots : Nat} {H : Heap} {locs : List Loc} {ls : Array Slot} (hi : i + 6 ≤ L) (hN9 : N ≤ 900) (hI : LI D t s b ad r bd qo sz i N H locs ls) (hc : cells + 6 ≤ room_1.cells) (hs : slots + 80 ≤ room_1.slots)
    (next : ∀ (H : Heap) (locs : List Loc) (ls : Array Slot), LI D t s b ad r bd qo sz i (N + 1) H locs ls → W p l e room_1 s m #[Value.ref b] below meth c H locs (cells + 6) (slots + 80) (lw_Z below #[Value.ref b] s) (F0 m 826 ls [])) : W p l e room_1 s m #[Value.ref b] below meth c H locs cells slots (lw_Z below #[Value.ref b] s) (F0 m 412 ls []) := by
  obtain ⟨hx, hb, hr, hml, hown, hts, hX, hbl, hlk, hgv⟩ := id C0
  have hown : s.vm.findClass RL = some m.cls := hown
  obtain ⟨hl0, hK, hN, hR1, hR2, hU, hV⟩ := id hC
  have hA : ∀ q : Nat, s.heap.size ≤ q → (fun q : Nat => s.heap.size ≤ q) q := fun _ h => h
  have hbA : ¬ (fun q : Nat => s.heap.size ≤ q) b := Nat.not_le.mpr hbl
  obtain ⟨nr, rs, re, rr, ns, sl, sa9, sk, gf, nt, ts, te, stk, cm, dp, nb, B, lc, kc, last, sc, K, tr, th, pd, np, fs, es, ri, ln, al, ki, km, st, oc, tk, ce, pl, tl, kp, ca, cp, su, de, og, hP, hD, hS, hl, hReg, hSec, hPlc, hTak, hFun, hBlk, hnp⟩ := hI
  obtain ⟨g1, g2, g3, g4, g5, g6, g7, g8⟩ := id hReg
  obtain ⟨s1, s2, s3, s4, s5, s6, s7, s8, s9, s10⟩ := id hSec
  obtain ⟨p1, p2, p3, p4, p5, p6, p7, p8, p9, p10, p11, p12⟩ := id hPlc
  obtain ⟨k1, k2, k3⟩ := id hTak
  obtain ⟨f1, f2, f3, f4, f5, f6⟩ := id hFun
  obtain ⟨b1, b2, b3, b4, b5⟩ := id hBlk
  refine lv_aload_n hx hb dL_law_412 rfl (lv_at hl 3 rfl) ?_
  refine lv_aload_n hx hb dL_law_413 rfl (lv_at hl 4 rfl) ?_
  refine lv_iload hx hb dL_law_414 (lv_at hl 0 rfl) ?_
  refine lv_iconst (v := (nI 1)) hx hb dL_law_416 (by decide) ?_
  refine r_iadd (x := i) (y := 1) hx hb dL_law_417 ?_
  refine r_sld hx hb hX hbl hbA hS (by omega) hL dL_law_418 ?_
  refine lv_aload_n hx hb dL_law_419 rfl (lv_at hl 4 rfl) ?_
  refine lv_iload hx hb dL_law_420 (lv_at hl 0 rfl) ?_
  refine lv_iconst (v := (nI 2)) hx hb dL_law_422 (by decide) ?_
  refine r_iadd (x := i) (y := 2) hx hb dL_law_423 ?_
  refine r_sld hx hb hX hbl hbA hS (by omega) hL dL_law_424 ?_
  refine lv_aload_n hx hb dL_law_425 rfl (lv_at hl 4 rfl) ?_
  refine lv_iload hx hb dL_law_426 (lv_at hl 0 rfl) ?_
  refine lv_iconst (v := (nI 3)) hx hb dL_law_428 (by decide) ?_
  refine r_iadd (x := i) (y := 3) hx hb dL_law_429 ?_
  refine r_sld hx hb hX hbl hbA hS (by omega) hL dL_law_430 ?_
  refine lv_i2l hx hb dL_law_431 rfl ?_
  refine lv_bipush (v := (nI 32)) hx hb dL_law_432 (by decide) ?_
  refine lv_lshl hx hb dL_law_434 rfl ?_
  refine lv_aload_n hx hb dL_law_435 rfl (lv_at hl 4 rfl) ?_
  refine lv_iload hx hb dL_law_436 (lv_at hl 0 rfl) ?_
  refine lv_iconst (v := (nI 4)) hx hb dL_law_438 (by decide) ?_
  refine r_iadd (x := i) (y := 4) hx hb dL_law_439 ?_
  refine r_sld hx hb hX hbl hbA hS (by omega) hL dL_law_440 ?_
  refine lv_i2l hx hb dL_law_441 rfl ?_
  refine lv_ldc2 (v := (lN 4294967295)) hx hb hown (hts _ wL_7) dL_law_442 ?_
  refine lv_land hx hb dL_law_445 ?_
  refine lv_lor hx hb dL_law_446 ?_
  refine r_topl (y := (lwJ ((xs (i + 3))) ((xs (i + 4))))) rfl ?_
  refine call_Mip (wc := (WMd t ad sz nr rs re rr ns sl sa9 sk gf nt ts te stk cm dp nb B lc kc last sc r K tr)) (wc' := fun u : (Nat → Nat) × (Nat → Nat) => (WMd t ad sz nr rs re rr ns sl sa9 sk gf nt ts te (u.1) (u.2) dp nb B lc kc last sc r K tr)) [(qo, .inl (t 2, 1, .inr (.inl og)))] (WRd t bd th sz nr ns pd np nb fs es ri ln al ki km st oc tk ce pl tl kp ca cp su de) (va_runV (As := [.int ((xs (i + 1))), .int ((xs (i + 2))), .long ((lwJ ((xs (i + 3))) ((xs (i + 4)))))]) (rest := []) ⟨hx, hb, hml, hown, hts⟩ (c_X7_call l D t ad sz nr rs re rr ns sl sa9 sk gf nt ts te stk cm dp nb B lc kc last sc r K tr (xs (i + 1)) (xs (i + 2)) (lwJ (xs (i + 3)) (xs (i + 4))) f2 _) (cwV 3 hts gL_law_X7_call rfl rfl rfl (by decide +kernel) ⟨Nat.le_of_ble_eq_true rfl, Nat.le_of_ble_eq_true rfl⟩) (preVp (wc := (WMd t ad sz nr rs re rr ns sl sa9 sk gf nt ts te stk cm dp nb B lc kc last sc r K tr)) [(qo, .inl (t 2, 1, .inr (.inl og)))] (WRd t bd th sz nr ns pd np nb fs es ri ln al ki km st oc tk ce pl tl kp ca cp su de) hP hD hK hN 8 0 rfl rfl rfl) rfl rfl hl.1 rfl (lv_room (Nat.le_of_ble_eq_true rfl)) dL_law_447 ⟨(Nat.le_trans (Nat.add_le_add_left (Nat.le_of_ble_eq_true rfl) _) hc), (Nat.le_trans (Nat.add_le_add_left (Nat.le_of_ble_eq_true rfl) _) hs)⟩) hP hD hS hA (fun z u H locs h7 hP hD hS hz => ?_)
  have hP : va_P D vwCl ((qo, .inl (t 2, 1, .inr (.inl og))) :: ((WMd t ad sz nr rs re rr ns sl sa9 sk gf nt ts te (u.1) (u.2) dp nb B lc kc last sc r K tr) ++ (WRd t bd th sz nr ns pd np nb fs es ri ln al ki km st oc tk ce pl tl kp ca cp su de))) H := hP
  have hD : va_D (fun q : Nat => s.heap.size ≤ q) ((qo, .inl (t 2, 1, .inr (.inl og))) :: ((WMd t ad sz nr rs re rr ns sl sa9 sk gf nt ts te (u.1) (u.2) dp nb B lc kc last sc r K tr) ++ (WRd t bd th sz nr ns pd np nb fs es ri ln al ki km st oc tk ce pl tl kp ca cp su de))) := hD
  refine W.widen (k := cells + 6) (n := slots + 80) (Nat.add_le_add_left (Nat.le_of_ble_eq_true rfl) _) (Nat.add_le_add_left (Nat.le_of_ble_eq_true rfl) _) ?_
  refine lv_aload_n hx hb dL_law_450 rfl (lv_at hl 2 rfl) ?_
  refine lv_aload_n hx hb dL_law_451 rfl (lv_at hl 4 rfl) ?_
  refine lv_iload hx hb dL_law_452 (lv_at hl 0 rfl) ?_
  refine lv_iconst (v := (nI 1)) hx hb dL_law_454 (by decide) ?_
  refine r_iadd (x := i) (y := 1) hx hb dL_law_455 ?_
  refine r_sld hx hb hX hbl hbA hS (by omega) hL dL_law_456 ?_
  refine lv_aload_n hx hb dL_law_457 rfl (lv_at hl 4 rfl) ?_
  refine lv_iload hx hb dL_law_458 (lv_at hl 0 rfl) ?_
  refine lv_iconst (v := (nI 2)) hx hb dL_law_460 (by decide) ?_
  refine r_iadd (x := i) (y := 2) hx hb dL_law_461 ?_
  refine r_sld hx hb hX hbl hbA hS (by omega) hL dL_law_462 ?_
  refine lv_aload_n hx hb dL_law_463 rfl (lv_at hl 4 rfl) ?_
  refine lv_iload hx hb dL_law_464 (lv_at hl 0 rfl) ?_
  refine lv_iconst (v := (nI 3)) hx hb dL_law_466 (by decide) ?_
  refine r_iadd (x := i) (y := 3) hx hb dL_law_467 ?_
  refine r_sld hx hb hX hbl hbA hS (by omega) hL dL_law_468 ?_
  refine lv_i2l hx hb dL_law_469 rfl ?_
  refine lv_bipush (v := (nI 32)) hx hb dL_law_470 (by decide) ?_
  refine lv_lshl hx hb dL_law_472 rfl ?_
  refine lv_aload_n hx hb dL_law_473 rfl (lv_at hl 4 rfl) ?_
  refine lv_iload hx hb dL_law_474 (lv_at hl 0 rfl) ?_
  refine lv_iconst (v := (nI 4)) hx hb dL_law_476 (by decide) ?_
  refine r_iadd (x := i) (y := 4) hx hb dL_law_477 ?_
  refine r_sld hx hb hX hbl hbA hS (by omega) hL dL_law_478 ?_
  refine lv_i2l hx hb dL_law_479 rfl ?_
  refine lv_ldc2 (v := (lN 4294967295)) hx hb hown (hts _ wL_7) dL_law_480 ?_
  refine lv_land hx hb dL_law_483 ?_
  refine lv_lor hx hb dL_law_484 ?_
  refine r_topl (y := (lwJ ((xs (i + 3))) ((xs (i + 4))))) rfl ?_
  refine call_Mip (wc := (WRd t bd th sz nr ns pd np nb fs es ri ln al ki km st oc tk ce pl tl kp ca cp su de)) (wc' := fun v : (Nat → Nat) × (Nat → Int32) => (WRd t bd 0 sz nr ns pd np nb fs es ri ln al ki km (v.1) oc tk ce pl tl kp (v.2) cp su de)) ((qo, .inl (t 2, 1, .inr (.inl og))) :: (WMd t ad sz nr rs re rr ns sl sa9 sk gf nt ts te (u.1) (u.2) dp nb B lc kc last sc r K tr)) [] (va_runV (As := [.int ((xs (i + 1))), .int ((xs (i + 2))), .long ((lwJ ((xs (i + 3))) ((xs (i + 4)))))]) (rest := [.int z]) ⟨hx, hb, hml, hown, hts⟩ (c_X8_call l D t bd th sz nr ns pd np nb fs es ri ln al ki km st oc tk ce pl tl kp ca cp su de (xs (i + 1)) (xs (i + 2)) (lwJ (xs (i + 3)) (xs (i + 4))) _) (cwV 3 hts gL_law_X8_call rfl rfl rfl (by decide +kernel) ⟨Nat.le_of_ble_eq_true rfl, Nat.le_of_ble_eq_true rfl⟩) (preVp (wc := (WRd t bd th sz nr ns pd np nb fs es ri ln al ki km st oc tk ce pl tl kp ca cp su de)) ((qo, .inl (t 2, 1, .inr (.inl og))) :: (WMd t ad sz nr rs re rr ns sl sa9 sk gf nt ts te (u.1) (u.2) dp nb B lc kc last sc r K tr)) [] (by rw [w8v]; exact hP) (by rw [w8v]; exact hD) hK hN 9 0 rfl rfl rfl) rfl rfl hl.1 rfl (lv_room (Nat.le_of_ble_eq_true rfl)) dL_law_485 ⟨hc, hs⟩) (by rw [w8v]; exact hP) (by rw [w8v]; exact hD) hS hA (fun z' v H locs h8 hP hD hS hz => ?_)
  rw [w8v] at hP hD
  have hP : va_P D vwCl ((qo, .inl (t 2, 1, .inr (.inl og))) :: ((WMd t ad sz nr rs re rr ns sl sa9 sk gf nt ts te (u.1) (u.2) dp nb B lc kc last sc r K tr) ++ (WRd t bd 0 sz nr ns pd np nb fs es ri ln al ki km (v.1) oc tk ce pl tl kp (v.2) cp su de))) H := hP
  have hD : va_D (fun q : Nat => s.heap.size ≤ q) ((qo, .inl (t 2, 1, .inr (.inl og))) :: ((WMd t ad sz nr rs re rr ns sl sa9 sk gf nt ts te (u.1) (u.2) dp nb B lc kc last sc r K tr) ++ (WRd t bd 0 sz nr ns pd np nb fs es ri ln al ki km (v.1) oc tk ce pl tl kp (v.2) cp su de))) := hD
  refine W.widen (k := cells + 6) (n := slots + 80) (Nat.le_refl _) (Nat.le_refl _) ?_
  obtain ⟨hz9, hFun'⟩ := st_call hFun h7 h8
  refine lv_icmp_eq (tgt := 826) hx hb dL_law_488 (by decide) (fun _ => ?_) (fun c9 => absurd (hz9) c9)
  exact next _ _ _ ⟨nr, rs, re, rr, ns, sl, sa9, sk, gf, nt, ts, te, (u.1), (u.2), dp, nb, B, lc, kc, last, sc, K, tr, 0, pd, np, fs, es, ri, ln, al, ki, km, (v.1), oc, tk, ce, pl, tl, kp, (v.2), cp, su, de, og, hP, hD, hS, lv_sub hl [0, 1, 2, 3, 4] rfl, hReg, hSec, hPlc, hTak, hFun', hBlk, Nat.le_trans hnp (Nat.le_succ _)⟩
